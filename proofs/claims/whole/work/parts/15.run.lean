/-! the run: what an operation does to the contents, kind by kind; an operation's result and whether it has an effect -/
def bgS (K : Nat) (nm x : Int32) (st : Nat × (Nat → Int32)) : (Nat × (Nat → Int32)) × Int64 × Int32 :=
  if nm = 1 then ((st.1 + 1, upd (shu st.2 (st.1 - bgP K st.1 st.2 x) st.1) (bgP K st.1 st.2 x) x), 0, 1)
  else if 0 < st.1 then ((st.1 - 1, shd st.2 (st.1 - 1) 0), (st.2 0).toInt64, 1) else (st, 0, 0)
def taS (nm x y : Int32) (st : Nat × (Nat → Int32) × (Nat → Int32)) : (Nat × (Nat → Int32) × (Nat → Int32)) × Int64 × Int32 :=
  if nm = 1 ∧ tpo st.2.1 x st.1 0 = -1 then ((st.1 + 1, upd st.2.1 st.1 x, upd st.2.2 st.1 y), 0, 1)
  else if nm = 2 ∧ ¬ tpo st.2.1 x st.1 0 = -1 then
    ((st.1 - 1, upd st.2.1 (tpo st.2.1 x st.1 0).toNatClampNeg (st.2.1 (st.1 - 1)), upd st.2.2 (tpo st.2.1 x st.1 0).toNatClampNeg (st.2.2 (st.1 - 1))), (st.2.2 (tpo st.2.1 x st.1 0).toNatClampNeg).toInt64, 1)
  else (st, 0, 0)
def reT (tot : Int64) (x : Int32) : Int64 := if (tot + x.toInt64) < 0 then 0 else tot + x.toInt64
def reS (x : Int32) (st : Int64 × Nat) : (Int64 × Nat) × Int64 × Int32 := ((reT st.1 x, st.2), reT st.1 x, 1)
def seS (x y : Int32) (st : Int32 × (Nat → Int32)) : (Int32 × (Nat → Int32)) × Int64 × Int32 :=
  if st.2 x.toNatClampNeg = st.2 y.toNatClampNeg then (st, 0, 0) else ((st.1 - 1, sld (st.2 x.toNatClampNeg) (st.2 y.toNatClampNeg) 16 0 st.2), 0, 1)
theorem bgP_le (K n : Nat) (v : Nat → Int32) (a : Int32) : bgP K n v a ≤ n := by
  unfold bgP
  split
  · omega
  · split
    · omega
    · have := pfr_le v a n 0
      omega
theorem bgS_le (K : Nat) (nm x : Int32) (st : Nat × (Nat → Int32)) : (bgS K nm x st).1.1 ≤ st.1 + 1 := by
  unfold bgS
  split
  · exact Nat.le_refl _
  · split
    · show st.1 - 1 ≤ _
      omega
    · exact Nat.le_succ _
theorem bgS_bz (K : Nat) (nm x : Int32) (st : Nat × (Nat → Int32)) : (bgS K nm x st).2.2 = 0 ∨ (bgS K nm x st).2.2 = 1 := by
  unfold bgS
  split
  · exact Or.inr rfl
  · split
    · exact Or.inr rfl
    · exact Or.inl rfl
theorem taS_le (nm x y : Int32) (st : Nat × (Nat → Int32) × (Nat → Int32)) : (taS nm x y st).1.1 ≤ st.1 + 1 := by
  unfold taS
  split
  · exact Nat.le_refl _
  · split
    · show st.1 - 1 ≤ _
      omega
    · exact Nat.le_succ _
theorem taS_bz (nm x y : Int32) (st : Nat × (Nat → Int32) × (Nat → Int32)) : (taS nm x y st).2.2 = 0 ∨ (taS nm x y st).2.2 = 1 := by
  unfold taS
  split
  · exact Or.inr rfl
  · split
    · exact Or.inr rfl
    · exact Or.inl rfl
theorem seS_bz (x y : Int32) (st : Int32 × (Nat → Int32)) : (seS x y st).2.2 = 0 ∨ (seS x y st).2.2 = 1 := by
  unfold seS
  split
  · exact Or.inl rfl
  · exact Or.inr rfl
theorem tpo_at (ks : Nat → Int32) (key : Int32) : ∀ k i : Nat, tpo ks key k i = -1 ∨ ∃ j, i ≤ j ∧ j < i + k ∧ tpo ks key k i = nI j := by
  intro k
  induction k with
  | zero => intro i; exact Or.inl rfl
  | succ k ih =>
    intro i
    unfold tpo
    split
    · exact Or.inr ⟨i, Nat.le_refl _, by omega, rfl⟩
    · rcases ih (i + 1) with h | ⟨j, h1, h2, h3⟩
      · exact Or.inl h
      · exact Or.inr ⟨j, by omega, by omega, h3⟩
/-- all operations again: k are left, from place i on; what comes of each is written down -/
def rdo {S : Type} (stp : Int32 → Int32 → Int32 → S → S × Int64 × Int32) (na aa bb : Nat → Int32) : Nat → Nat → S × Int64 × Int32 → (Nat → Int64) → (Nat → Int32) → (S × Int64 × Int32) × (Nat → Int64) × (Nat → Int32)
  | 0, _, st, re, ef => (st, re, ef)
  | k + 1, i, st, re, ef => rdo stp na aa bb k (i + 1) (stp (na i) (aa i) (bb i) st.1) (vp_updL re i (stp (na i) (aa i) (bb i) st.1).2.1) (upd ef i (stp (na i) (aa i) (bb i) st.1).2.2)
/-- the run up to a moment -/
def rut {S : Type} (stp : Int32 → Int32 → Int32 → S → S × Int64 × Int32) (mo na aa bb : Nat → Int32) (t : Int32) : Nat → Nat → S × Int64 × Int32 → S × Int64 × Int32
  | 0, _, st => st
  | k + 1, i, st => if mo i ≤ t then rut stp mo na aa bb t k (i + 1) (stp (na i) (aa i) (bb i) st.1) else st
theorem app_D {w1 w2 : va_W} {a m b n : Nat} (h1 : va_D (blk a m) w1) (h2 : va_D (blk b n) w2) (hd : a + m ≤ b ∨ b + n ≤ a) : va_D (fun q => blk a m q ∨ blk b n q) (w1 ++ w2) :=
  (h1.weaken (fun _ _ _ h => Or.inl h)).app (h2.weaken (fun _ _ _ h => Or.inr h)) (fun i j p q hp hq he => by
    have g1 := h1.2 i p hp
    have g2 := h2.2 j q hq
    unfold blk at g1 g2
    omega)
