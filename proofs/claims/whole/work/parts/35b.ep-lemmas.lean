/-! what EditablePast's public methods need of pure things -/
theorem pat_at {mo : Nat → Int32} {t : Int32} {n : Nat} (hn : n ≤ 32) : pat mo t n = -1 ∨ ∃ p : Nat, p < 32 ∧ pat mo t n = nI p := by
  unfold pat
  split
  · rename_i h
    split
    · exact Or.inr ⟨_, by omega, rfl⟩
    · exact Or.inl rfl
  · exact Or.inl rfl
theorem pat_eq {mo : Nat → Int32} {t : Int32} {n : Nat} (hn : n ≤ 32) (h : ¬ pat mo t n = -1) : pat mo t n = nI (pat mo t n).toNatClampNeg := nI_back (pat_at hn) h
theorem pat_pf {mo : Nat → Int32} {t : Int32} {n : Nat} (h : ¬ pat mo t n = -1) : pat mo t n = nI (pfr mo t n 0) ∧ pfr mo t n 0 < n ∧ mo (pfr mo t n 0) = t := by
  unfold pat at h ⊢
  split
  · rename_i h1
    rw [if_pos h1] at h
    split
    · rename_i h2
      exact ⟨rfl, h1, h2⟩
    · rename_i h2
      rw [if_neg h2] at h
      exact absurd rfl h
  · rename_i h1
    rw [if_neg h1] at h
    exact absurd rfl h
theorem pat_lt {mo : Nat → Int32} {t : Int32} {n : Nat} (hn : n ≤ 32) (h : ¬ pat mo t n = -1) : (pat mo t n).toNatClampNeg < n := by
  obtain ⟨e, h1, -⟩ := pat_pf h
  rw [e, nI_clamp (by omega)]
  exact h1
theorem tpo_32 {ks : Nat → Int32} {x : Int32} {n : Nat} (hn : n ≤ 32) : tpo ks x n 0 = -1 ∨ ∃ p : Nat, p < 32 ∧ tpo ks x n 0 = nI p := by
  rcases tpo_at ks x n 0 with h | ⟨j, h1, h2, h3⟩
  · exact Or.inl h
  · exact Or.inr ⟨j, by omega, h3⟩
theorem tpo_lt {ks : Nat → Int32} {x : Int32} {n : Nat} (hn : n ≤ 32) (h : ¬ tpo ks x n 0 = -1) : (tpo ks x n 0).toNatClampNeg < n := by
  rcases tpo_at ks x n 0 with h1 | ⟨j, h1, h2, h3⟩
  · exact absurd h1 h
  · rw [h3, nI_clamp (by omega)]
    omega
theorem rutB_le (K : Nat) (mo na aa bb : Nat → Int32) (t : Int32) : ∀ (k i : Nat) (st : (Nat × (Nat → Int32)) × Int64 × Int32), (rut (fun nm x _ => bgS K nm x) mo na aa bb t k i st).1.1 ≤ st.1.1 + k := by
  intro k
  induction k with
  | zero => intro i st; exact Nat.le_refl _
  | succ k ih =>
    intro i st
    unfold rut
    split
    · have h1 := ih (i + 1) (bgS K (na i) (aa i) st.1)
      have h2 := bgS_le K (na i) (aa i) st.1
      omega
    · exact Nat.le_add_right _ _
theorem rutT_le (mo na aa bb : Nat → Int32) (t : Int32) : ∀ (k i : Nat) (st : (Nat × (Nat → Int32) × (Nat → Int32)) × Int64 × Int32), (rut taS mo na aa bb t k i st).1.1 ≤ st.1.1 + k := by
  intro k
  induction k with
  | zero => intro i st; exact Nat.le_refl _
  | succ k ih =>
    intro i st
    unfold rut
    split
    · have h1 := ih (i + 1) (taS (na i) (aa i) (bb i) st.1)
      have h2 := taS_le (na i) (aa i) (bb i) st.1
      omega
    · exact Nat.le_add_right _ _
theorem rut_le_3 {mo na aa bb : Nat → Int32} {t : Int32} {n : Nat} {qv : Nat → Int32} {qr : Int64} {qf : Int32} : (rut (fun nm x _ => bgS 4 nm x) mo na aa bb t n 0 ((0, qv), qr, qf)).1.1 ≤ n := Nat.le_trans (rutB_le 4 mo na aa bb t n 0 _) (by simp)
theorem rut_le_2 {mo na aa bb : Nat → Int32} {t : Int32} {n : Nat} {qk qv : Nat → Int32} {qr : Int64} {qf : Int32} : (rut taS mo na aa bb t n 0 ((0, qk, qv), qr, qf)).1.1 ≤ n := Nat.le_trans (rutT_le mo na aa bb t n 0 _) (by simp)
theorem bz_ret {x : Int32} (h : x = 0 ∨ x = 1) : narrow .boolean (.int x) = .int x := by
  rcases h with e | e <;> rw [e] <;> rfl
theorem shd_at (f : Nat → Int32) : ∀ (k i q : Nat), shd f k i q = if i ≤ q ∧ q < i + k then f (q + 1) else f q := by
  intro k
  induction k generalizing f with
  | zero => intro i q; rw [if_neg (by omega)]; rfl
  | succ k ih =>
    intro i q
    show shd (upd f i (f (i + 1))) k (i + 1) q = _
    rw [ih]
    by_cases h1 : i + 1 ≤ q ∧ q < i + 1 + k
    · rw [if_pos h1, if_pos (by omega), upd_ne _ _ (by omega)]
    · rw [if_neg h1]
      by_cases h2 : q = i
      · rw [if_pos (by omega), h2, upd_at]
      · rw [if_neg (by omega), upd_ne _ _ h2]
theorem shu_at (f : Nat → Int32) : ∀ (k i q : Nat), k ≤ i → shu f k i q = if i - k < q ∧ q ≤ i then f (q - 1) else f q := by
  intro k
  induction k generalizing f with
  | zero => intro i q h; rw [if_neg (by omega)]; rfl
  | succ k ih =>
    intro i q h
    show shu (upd f i (f (i - 1))) k (i - 1) q = _
    rw [ih _ _ _ (by omega)]
    by_cases h1 : i - 1 - k < q ∧ q ≤ i - 1
    · rw [if_pos h1, if_pos (by omega), upd_ne _ _ (by omega)]
    · rw [if_neg h1]
      by_cases h2 : q = i
      · rw [if_pos (by omega), h2, upd_at]
      · rw [if_neg (by omega), upd_ne _ _ h2]
theorem shd_bz {ef : Nat → Int32} (h : bz ef) (k i : Nat) : bz (shd ef k i) := fun q => by
  rw [shd_at]
  split
  · exact h _
  · exact h _
theorem col_D {cI cJ cZ : ClassId} {c : Nat} {kd : Int32} {n : Nat} {mo na aa bb : Nat → Int32} {re : Nat → Int64} {ef : Nat → Int32} {n2 : Nat} {mo2 na2 aa2 bb2 : Nat → Int32} {re2 : Nat → Int64} {ef2 : Nat → Int32} :
    va_D (blk c 15) (wCo c kd ++ (wLi cI cJ cZ (c + 1) n mo na aa bb re ef ++ wLi cI cJ cZ (c + 8) n2 mo2 na2 aa2 bb2 re2 ef2)) := by
  have h1 : va_D (blk c 1) (wCo c kd) := blk_D wCo_in
  have h2 := app_D (w1 := wLi cI cJ cZ (c + 1) n mo na aa bb re ef) (w2 := wLi cI cJ cZ (c + 8) n2 mo2 na2 aa2 bb2 re2 ef2) (a := c + 1) (m := 7) (b := c + 8) (n := 7) wLi_D wLi_D (by omega)
  refine (h1.weaken (fun k q _ h => ?_)).app (h2.weaken (fun k q _ h => ?_)) (fun i j p q hp hq he => ?_)
  · simp only [blk] at h ⊢; omega
  · simp only [blk] at h ⊢; omega
  · have g1 := h1.2 i p hp
    have g2 := h2.2 j q hq
    simp only [blk] at g1 g2
    omega
