/-! worlds: a Line is seven cells that follow each other, and so on -/
def blk (a n : Nat) : Nat → Prop := fun q => a ≤ q ∧ q < a + n
theorem wo_l {D : va_G} {cl : List vw_C} {w1 w2 : va_W} {H : Heap} (h : va_P D cl (w1 ++ w2) H) : va_P D cl w1 H := fun k q hk => by
  have hl := (List.getElem?_eq_some_iff.mp hk).1
  exact h k q (by rw [List.getElem?_append_left hl]; exact hk)
theorem wo_r {D : va_G} {cl : List vw_C} {w1 w2 : va_W} {H : Heap} (h : va_P D cl (w1 ++ w2) H) : va_P D cl w2 H := fun k q hk =>
  h (w1.length + k) q (by rw [List.getElem?_append_right (Nat.le_add_right _ _), Nat.add_sub_cancel_left]; exact hk)
/-- a world that the method does not write -/
theorem wo_kp {D : va_G} {cl : List vw_C} {A : Nat → Prop} {ws : va_W} {H0 H : Heap} {locs : List Loc} (h0 : va_P D cl ws H0) (hS : va_S A H0 H locs) (hd : ∀ (k : Nat) (q : Nat × va_E), ws[k]? = some q → ¬ A q.1) : va_P D cl ws H :=
  h0.kept (fun k q hk => hS.2.1 q.1 ((h0 k q hk).lt) (hd k q hk))
/-- a world that a callee did not write -/
theorem wo_kc {D : va_G} {cl : List vw_C} {A : Nat → Prop} {ws : va_W} {H H1 : Heap} (h : va_P D cl ws H) (hk1 : ∀ q : Nat, q < H.size → ¬ A q → H1[q]? = H[q]?) (hd : ∀ (k : Nat) (q : Nat × va_E), ws[k]? = some q → ¬ A q.1) : va_P D cl ws H1 :=
  h.kept (fun k q hk => hk1 q.1 ((h k q hk).lt) (hd k q hk))
abbrev wLi (cI cJ cZ : ClassId) (a n : Nat) (mo na aa bb : Nat → Int32) (re : Nat → Int64) (ef : Nat → Int32) : va_W :=
  [(a, .inr (1, [.int (nI n), .ref (a + 1), .ref (a + 2), .ref (a + 3), .ref (a + 4), .ref (a + 5), .ref (a + 6)])), (a + 1, .inl (cI, 32, .inl mo)), (a + 2, .inl (cI, 32, .inl na)), (a + 3, .inl (cI, 32, .inl aa)), (a + 4, .inl (cI, 32, .inl bb)), (a + 5, .inl (cJ, 32, .inr (.inl re))), (a + 6, .inl (cZ, 32, .inl ef))]
theorem wLi_in {cI cJ cZ : ClassId} {a n : Nat} {mo na aa bb : Nat → Int32} {re : Nat → Int64} {ef : Nat → Int32} (k : Nat) (q : Nat × va_E) (h : (wLi cI cJ cZ a n mo na aa bb re ef)[k]? = some q) : a ≤ q.1 ∧ q.1 < a + 7 := by
  have hk : k < 7 := (List.getElem?_eq_some_iff.mp h).1
  rcases (show k = 0 ∨ k = 1 ∨ k = 2 ∨ k = 3 ∨ k = 4 ∨ k = 5 ∨ k = 6 by omega) with rfl | rfl | rfl | rfl | rfl | rfl | rfl <;> (cases h; exact ⟨by simp, by simp⟩)
theorem wLi_D {cI cJ cZ : ClassId} {a n : Nat} {mo na aa bb : Nat → Int32} {re : Nat → Int64} {ef : Nat → Int32} : va_D (blk a 7) (wLi cI cJ cZ a n mo na aa bb re ef) := by
  refine ⟨fun i j p q hp hq hpq => ?_, fun k q hq => wLi_in k q hq⟩
  have hi : i < 7 := (List.getElem?_eq_some_iff.mp hp).1
  have hj : j < 7 := (List.getElem?_eq_some_iff.mp hq).1
  have e1 : p.1 = a + i := by
    rcases (show i = 0 ∨ i = 1 ∨ i = 2 ∨ i = 3 ∨ i = 4 ∨ i = 5 ∨ i = 6 by omega) with rfl | rfl | rfl | rfl | rfl | rfl | rfl <;> (cases hp; rfl)
  have e2 : q.1 = a + j := by
    rcases (show j = 0 ∨ j = 1 ∨ j = 2 ∨ j = 3 ∨ j = 4 ∨ j = 5 ∨ j = 6 by omega) with rfl | rfl | rfl | rfl | rfl | rfl | rfl <;> (cases hq; rfl)
  omega
theorem wLi_off {cI cJ cZ : ClassId} {a b n m : Nat} {mo na aa bb : Nat → Int32} {re : Nat → Int64} {ef : Nat → Int32} (h : b + 7 ≤ a ∨ a + m ≤ b) (k : Nat) (q : Nat × va_E) (hk : (wLi cI cJ cZ b n mo na aa bb re ef)[k]? = some q) : ¬ blk a m q.1 := by
  have := wLi_in k q hk
  unfold blk
  omega
/-- the place of the first operation that is not before a moment: from i on, k places are left -/
def pfr (mo : Nat → Int32) (t : Int32) : Nat → Nat → Nat
  | 0, i => i
  | k + 1, i => if mo i < t then pfr mo t k (i + 1) else i
theorem pfr_le (mo : Nat → Int32) (t : Int32) : ∀ k i : Nat, i ≤ pfr mo t k i ∧ pfr mo t k i ≤ i + k := by
  intro k
  induction k with
  | zero => intro i; exact ⟨Nat.le_refl _, Nat.le_refl _⟩
  | succ k ih =>
    intro i
    unfold pfr
    split
    · have := ih (i + 1); omega
    · omega
/-- the place of the operation at a moment, or -1 -/
def pat (mo : Nat → Int32) (t : Int32) (n : Nat) : Int32 := if pfr mo t n 0 < n then (if mo (pfr mo t n 0) = t then nI (pfr mo t n 0) else -1) else -1
/-- how many of the operations from place i on (k are left) are at moments up to t and have an effect -/
def cef (mo ef : Nat → Int32) (t : Int32) : Nat → Nat → Nat
  | 0, _ => 0
  | k + 1, i => if mo i ≤ t then (if ef i = 0 then 0 else 1) + cef mo ef t k (i + 1) else 0
/-- an array of booleans holds zeros and ones -/
def bz (ef : Nat → Int32) : Prop := ∀ i, ef i = 0 ∨ ef i = 1
theorem bz_n {ef : Nat → Int32} (h : bz ef) (i : Nat) : vp_nar .boolean (ef i) = ef i := by
  rcases h i with e | e <;> rw [e] <;> rfl
theorem bz_upd {ef : Nat → Int32} (h : bz ef) (k : Nat) {x : Int32} (hx : x = 0 ∨ x = 1) : bz (upd ef k x) := fun i => by
  unfold upd
  split
  · exact hx
  · exact h i
theorem bz_0 : bz (fun _ => 0) := fun _ => Or.inl rfl
/-- k places move one up, the last of them to place i -/
def shu (f : Nat → Int32) : Nat → Nat → Nat → Int32
  | 0, _ => f
  | k + 1, i => shu (upd f i (f (i - 1))) k (i - 1)
def shuL (f : Nat → Int64) : Nat → Nat → Nat → Int64
  | 0, _ => f
  | k + 1, i => shuL (vp_updL f i (f (i - 1))) k (i - 1)
/-- k places move one down, the first of them to place i -/
def shd (f : Nat → Int32) : Nat → Nat → Nat → Int32
  | 0, _ => f
  | k + 1, i => shd (upd f i (f (i + 1))) k (i + 1)
def shdL (f : Nat → Int64) : Nat → Nat → Nat → Int64
  | 0, _ => f
  | k + 1, i => shdL (vp_updL f i (f (i + 1))) k (i + 1)
/-- k places of g, from place i on, are copied to f -/
def cpf (f g : Nat → Int32) : Nat → Nat → Nat → Int32
  | 0, _ => f
  | k + 1, i => cpf (upd f i (g i)) g k (i + 1)
def cpfL (f g : Nat → Int64) : Nat → Nat → Nat → Int64
  | 0, _ => f
  | k + 1, i => cpfL (vp_updL f i (g i)) g k (i + 1)
/-- where two lines first differ, from places i and j on -/
def fdl (n n2 : Nat) (mo ef mo2 ef2 : Nat → Int32) (re re2 : Nat → Int64) : Nat → Nat → Nat → Nat × Nat
  | 0, i, j => (i, j)
  | k + 1, i, j => if i < n then (if j < n2 then (if mo i = mo2 j ∧ re i = re2 j ∧ ef i = ef2 j then fdl n n2 mo ef mo2 ef2 re re2 k (i + 1) (j + 1) else (i, j)) else (i, j)) else (i, j)
