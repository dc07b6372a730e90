/-! elements stay elements, runs stay short -/
theorem rut_le_0 {mo na aa bb : Nat → Int32} {t : Int32} {n : Nat} {qv : Nat → Int32} {qr : Int64} {qf : Int32} : (rut (fun nm x _ => bgS 2 nm x) mo na aa bb t n 0 ((0, qv), qr, qf)).1.1 ≤ n := Nat.le_trans (rutB_le 2 mo na aa bb t n 0 _) (by simp)
theorem rut_le_1 {mo na aa bb : Nat → Int32} {t : Int32} {n : Nat} {qv : Nat → Int32} {qr : Int64} {qf : Int32} : (rut (fun nm x _ => bgS 3 nm x) mo na aa bb t n 0 ((0, qv), qr, qf)).1.1 ≤ n := Nat.le_trans (rutB_le 3 mo na aa bb t n 0 _) (by simp)
theorem se_al {u x y : Int32} (h : ¬ f_Se_allows u x y = 0) : u = 1 ∧ okE x ∧ okE y := by
  unfold f_Se_allows at h
  by_cases h1 : u = 1
  · rw [if_pos h1] at h
    by_cases h2 : okE x
    · rw [if_pos h2] at h
      by_cases h3 : okE y
      · exact ⟨h1, h2, h3⟩
      · rw [if_neg h3] at h; exact absurd rfl h
    · rw [if_neg h2] at h; exact absurd rfl h
  · rw [if_neg h1] at h; exact absurd rfl h
theorem hop_insg {aa bb : Nat → Int32} {n r : Nat} {x y : Int32} (hop : ∀ i, i < n → ∃ x y : Nat, x < 16 ∧ y < 16 ∧ aa i = nI x ∧ bb i = nI y) (hr : r ≤ n) (hxy : ∃ x' y' : Nat, x' < 16 ∧ y' < 16 ∧ x = nI x' ∧ y = nI y') :
    ∀ i, i < n + 1 → ∃ x' y' : Nat, x' < 16 ∧ y' < 16 ∧ upd (shu aa (n - r) n) r x i = nI x' ∧ upd (shu bb (n - r) n) r y i = nI y' := by
  intro i hi
  by_cases h : i = r
  · rw [h, upd_at, upd_at]; exact hxy
  · rw [upd_ne _ _ h, upd_ne _ _ h, shu_at _ _ _ _ (by omega), shu_at _ _ _ _ (by omega)]
    by_cases h1 : n - (n - r) < i ∧ i ≤ n
    · rw [if_pos h1, if_pos h1]; exact hop (i - 1) (by omega)
    · rw [if_neg h1, if_neg h1]; exact hop i (by omega)
theorem hop_ins {mo aa bb : Nat → Int32} {n : Nat} {t u x y : Int32} (hop : ∀ i, i < n → ∃ x y : Nat, x < 16 ∧ y < 16 ∧ aa i = nI x ∧ bb i = nI y) (hal : ¬ f_Se_allows u x y = 0) :
    ∀ i, i < n + 1 → ∃ x' y' : Nat, x' < 16 ∧ y' < 16 ∧ upd (shu aa (n - (pfr mo t n 0)) n) (pfr mo t n 0) x i = nI x' ∧ upd (shu bb (n - (pfr mo t n 0)) n) (pfr mo t n 0) y i = nI y' := by
  obtain ⟨-, h1, h2⟩ := se_al hal
  obtain ⟨a, ha, rfl⟩ := okE_of h1
  obtain ⟨b, hb, rfl⟩ := okE_of h2
  have := pfr_le mo t n 0
  exact hop_insg hop (by omega) ⟨a, b, ha, hb, rfl, rfl⟩
theorem hop_rem {aa bb : Nat → Int32} {n pp : Nat} (hop : ∀ i, i < n → ∃ x y : Nat, x < 16 ∧ y < 16 ∧ aa i = nI x ∧ bb i = nI y) (hp : pp < n) :
    ∀ i, i < n - 1 → ∃ x' y' : Nat, x' < 16 ∧ y' < 16 ∧ shd aa (n - 1 - pp) pp i = nI x' ∧ shd bb (n - 1 - pp) pp i = nI y' := by
  intro i hi
  rw [shd_at, shd_at]
  by_cases h1 : pp ≤ i ∧ i < pp + (n - 1 - pp)
  · rw [if_pos h1, if_pos h1]; exact hop (i + 1) (by omega)
  · rw [if_neg h1, if_neg h1]; exact hop i (by omega)
theorem hop_rlc {mo na aa bb : Nat → Int32} {re : Nat → Int64} {ef : Nat → Int32} {n pp : Nat} {t : Int32} (hop : ∀ i, i < n → ∃ x y : Nat, x < 16 ∧ y < 16 ∧ aa i = nI x ∧ bb i = nI y) (hp : pp < n) :
    ∀ i, i < (f_Li_relocate n mo na aa bb re ef pp t).1 → ∃ x' y' : Nat, x' < 16 ∧ y' < 16 ∧ (f_Li_relocate n mo na aa bb re ef pp t).2.2.2.1 i = nI x' ∧ (f_Li_relocate n mo na aa bb re ef pp t).2.2.2.2.1 i = nI y' := by
  have h := pfr_le (shd mo (n - 1 - pp) pp) t (n - 1) 0
  exact hop_insg (hop_rem hop hp) (by omega) (hop pp hp)
