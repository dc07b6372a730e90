/-! places that the reference's searches give -/
theorem nx0_lt (n : Nat) (h : 0 < n) : f_Mo_nextOf_0 n < n := by unfold f_Mo_nextOf_0; split <;> omega
theorem nx1_lt (n : Nat) (h : 0 < n) : f_Mo_nextOf_1 n < n := by unfold f_Mo_nextOf_1; split <;> omega
theorem nx3_go (it : Nat → Int32) : ∀ (k i a : Nat), a < i + k → g_Mo_nextOf_3_18 it k i a < i + k := by
  intro k
  induction k with
  | zero => intro i a h; exact h
  | succ k ih =>
    intro i a h
    unfold g_Mo_nextOf_3_18
    split
    · have := ih (i + 1) a (by omega); omega
    · have := ih (i + 1) i (by omega); omega
theorem nx3_lt (n : Nat) (it : Nat → Int32) (h : 0 < n) : f_Mo_nextOf_3 n it < n := by
  have := nx3_go it n 0 0 (by omega)
  unfold f_Mo_nextOf_3
  omega
theorem ka_go (it : Nat → Int32) (x : Int32) : ∀ (k i : Nat) (a : Int32), (g_Mo_keyAt_4 it x k i a = a ∧ ∀ p, i ≤ p → p < i + k → ¬ it p = x) ∨ ∃ p, i ≤ p ∧ p < i + k ∧ g_Mo_keyAt_4 it x k i a = nI p ∧ it p = x := by
  intro k
  induction k with
  | zero => intro i a; exact Or.inl ⟨rfl, fun p h1 h2 => by omega⟩
  | succ k ih =>
    intro i a
    unfold g_Mo_keyAt_4
    split
    · rename_i h
      rcases ih (i + 1) (nI i) with ⟨h1, h2⟩ | ⟨p, h1, h2, h3, h4⟩
      · exact Or.inr ⟨i, Nat.le_refl _, by omega, h1, h⟩
      · exact Or.inr ⟨p, by omega, by omega, h3, h4⟩
    · rename_i h
      rcases ih (i + 1) a with ⟨h1, h2⟩ | ⟨p, h1, h2, h3, h4⟩
      · refine Or.inl ⟨h1, fun p h3 h4 => ?_⟩
        rcases Nat.eq_or_lt_of_le h3 with e | e
        · rw [← e]; exact h
        · exact h2 p (by omega) (by omega)
      · exact Or.inr ⟨p, by omega, by omega, h3, h4⟩
theorem ka_at (n : Nat) (it : Nat → Int32) (x : Int32) (hn : n ≤ 32) : f_Mo_keyAt n it x = -1 ∨ ∃ p : Nat, p < 32 ∧ f_Mo_keyAt n it x = nI p := by
  rcases ka_go it x n 0 (-1) with ⟨h, -⟩ | ⟨p, h1, h2, h3, h4⟩
  · exact Or.inl h
  · exact Or.inr ⟨p, by omega, h3⟩
theorem ka_lt (n : Nat) (it : Nat → Int32) (x : Int32) (hn : n ≤ 32) (h : ¬ f_Mo_keyAt n it x = -1) : (f_Mo_keyAt n it x).toNatClampNeg < n := by
  rcases ka_go it x n 0 (-1) with ⟨h1, -⟩ | ⟨p, h1, h2, h3, h4⟩
  · exact absurd h1 h
  · have e : f_Mo_keyAt n it x = nI p := h3
    rw [e, nI_clamp (by omega)]
    omega
