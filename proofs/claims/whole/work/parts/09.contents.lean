/-! the contents of a collection in the course of a run: worlds and what an operation does to them -/
abbrev wBa (cI : ClassId) (ci b n : Nat) (v : Nat → Int32) (r : Int64) (f : Int32) : va_W := [(b, .inr (ci, [.ref (b + 1), .int (nI n), .long r, .int f])), (b + 1, .inl (cI, 32, .inl v))]
abbrev wTa (cI : ClassId) (b n : Nat) (ks vs : Nat → Int32) (r : Int64) (f : Int32) : va_W := [(b, .inr (5, [.ref (b + 1), .ref (b + 2), .int (nI n), .long r, .int f])), (b + 1, .inl (cI, 32, .inl ks)), (b + 2, .inl (cI, 32, .inl vs))]
abbrev wRe (b : Nat) (tot : Int64) (n : Nat) (r : Int64) (f : Int32) : va_W := [(b, .inr (6, [.long tot, .int (nI n), .long r, .int f]))]
abbrev wSe (cI : ClassId) (b : Nat) (cn : Int32) (ld : Nat → Int32) (r : Int64) (f : Int32) : va_W := [(b, .inr (7, [.ref (b + 1), .int cn, .long r, .int f])), (b + 1, .inl (cI, 16, .inl ld))]
theorem wBa_in {cI : ClassId} {ci b n : Nat} {v : Nat → Int32} {r : Int64} {f : Int32} (k : Nat) (q : Nat × va_E) (h : (wBa cI ci b n v r f)[k]? = some q) : q.1 = b + k ∧ k < 2 := by
  have hk : k < 2 := (List.getElem?_eq_some_iff.mp h).1
  rcases (show k = 0 ∨ k = 1 by omega) with rfl | rfl <;> (cases h; exact ⟨rfl, by decide⟩)
theorem wTa_in {cI : ClassId} {b n : Nat} {ks vs : Nat → Int32} {r : Int64} {f : Int32} (k : Nat) (q : Nat × va_E) (h : (wTa cI b n ks vs r f)[k]? = some q) : q.1 = b + k ∧ k < 3 := by
  have hk : k < 3 := (List.getElem?_eq_some_iff.mp h).1
  rcases (show k = 0 ∨ k = 1 ∨ k = 2 by omega) with rfl | rfl | rfl <;> (cases h; exact ⟨rfl, by decide⟩)
theorem wRe_in {b : Nat} {tot : Int64} {n : Nat} {r : Int64} {f : Int32} (k : Nat) (q : Nat × va_E) (h : (wRe b tot n r f)[k]? = some q) : q.1 = b + k ∧ k < 1 := by
  have hk : k < 1 := (List.getElem?_eq_some_iff.mp h).1
  rcases (show k = 0 by omega) with rfl
  cases h; exact ⟨rfl, by decide⟩
theorem wSe_in {cI : ClassId} {b : Nat} {cn : Int32} {ld : Nat → Int32} {r : Int64} {f : Int32} (k : Nat) (q : Nat × va_E) (h : (wSe cI b cn ld r f)[k]? = some q) : q.1 = b + k ∧ k < 2 := by
  have hk : k < 2 := (List.getElem?_eq_some_iff.mp h).1
  rcases (show k = 0 ∨ k = 1 by omega) with rfl | rfl <;> (cases h; exact ⟨rfl, by decide⟩)
theorem blk_D {ws : va_W} {b m : Nat} (h : ∀ (k : Nat) (q : Nat × va_E), ws[k]? = some q → q.1 = b + k ∧ k < m) : va_D (blk b m) ws := by
  refine ⟨fun i j p q hp hq hpq => ?_, fun k q hq => ?_⟩
  · have h1 := h i p hp
    have h2 := h j q hq
    omega
  · have h1 := h k q hq
    unfold blk
    omega
theorem blk_off {ws : va_W} {b m a n : Nat} (h : ∀ (k : Nat) (q : Nat × va_E), ws[k]? = some q → q.1 = b + k ∧ k < m) (hd : b + m ≤ a ∨ a + n ≤ b) (k : Nat) (q : Nat × va_E) (hk : ws[k]? = some q) : ¬ blk a n q.1 := by
  have h1 := h k q hk
  unfold blk
  omega
/-- where a value goes in: QUEUE (2), STACK (3), HEAP (4) -/
def bgP (K n : Nat) (v : Nat → Int32) (a : Int32) : Nat := if K = 2 then n else if K = 3 then 0 else pfr v a n 0
/-- the place of a key, or -1: from place i on, k places are left -/
def tpo (ks : Nat → Int32) (key : Int32) : Nat → Nat → Int32
  | 0, _ => -1
  | k + 1, i => if ks i = key then nI i else tpo ks key k (i + 1)
/-- the leaders: x where y was, from place i on -/
def sld (x y : Int32) : Nat → Nat → (Nat → Int32) → Nat → Int32
  | 0, _, f => f
  | k + 1, i, f => sld x y k (i + 1) (if f i = y then upd f i x else f)
/-- each element alone, from place i on -/
def sal : Nat → Nat → (Nat → Int32) → Nat → Int32
  | 0, _, f => f
  | k + 1, i, f => sal k (i + 1) (upd f i (nI i))
theorem nI_ne_m1 {n : Nat} (h : n < 2 ^ 31) : ¬ nI n = -1 := by
  intro q
  have a := nI_toInt h
  rw [q] at a
  have : (-1 : Int32).toInt = -1 := by decide
  omega
