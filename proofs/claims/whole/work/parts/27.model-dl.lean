/-! the reference's searches and runs: places, sizes, booleans (by wip/whole/gen/lemmas.py) -/
theorem nI_back {v : Int32} (h : v = -1 ∨ ∃ p : Nat, p < 32 ∧ v = nI p) (h2 : ¬ v = -1) : v = nI v.toNatClampNeg := by
  rcases h with h | ⟨p, hp, h⟩
  · exact absurd h h2
  · rw [h, nI_clamp (by omega)]
theorem fi_go (ti : Nat → Int32) (j : Nat) (t : Int32) : ∀ (k i : Nat) (a : Int32), (g_Mo_find_5 ti j t k i a = a ∧ ∀ p, i ≤ p → p < i + k → ¬ ti (32 * j + p) = t) ∨ ∃ p, i ≤ p ∧ p < i + k ∧ g_Mo_find_5 ti j t k i a = nI p ∧ ti (32 * j + p) = t := by
  intro k
  induction k with
  | zero => intro i a; exact Or.inl ⟨rfl, fun p h1 h2 => by omega⟩
  | succ k ih =>
    intro i a
    unfold g_Mo_find_5
    split
    · rename_i h
      rcases ih (i + 1) (nI i) with ⟨h1, h2⟩ | ⟨p, h1, h2, h3, h4⟩
      · exact Or.inr ⟨i, Nat.le_refl _, by omega, h1, h⟩
      · exact Or.inr ⟨p, by omega, by omega, h3, h4⟩
    · rename_i h
      rcases ih (i + 1) a with ⟨h1, h2⟩ | ⟨p, h1, h2, h3, h4⟩
      · refine Or.inl ⟨h1, fun p h3 h4 => ?_⟩
        rcases Nat.eq_or_lt_of_le h3 with e | e
        · rw [← e]; exact h
        · exact h2 p (by omega) (by omega)
      · exact Or.inr ⟨p, by omega, by omega, h3, h4⟩
theorem fi_at (ti : Nat → Int32) (n j : Nat) (t : Int32) (hn : n ≤ 32) : f_Mo_find ti n j t = -1 ∨ ∃ p : Nat, p < 32 ∧ f_Mo_find ti n j t = nI p := by
  rcases fi_go ti j t n 0 (-1) with ⟨h, -⟩ | ⟨p, h1, h2, h3, h4⟩
  · exact Or.inl h
  · exact Or.inr ⟨p, by omega, h3⟩
theorem fi_lt (ti : Nat → Int32) (n j : Nat) (t : Int32) (hn : n ≤ 32) (h : ¬ f_Mo_find ti n j t = -1) : (f_Mo_find ti n j t).toNatClampNeg < n := by
  rcases fi_go ti j t n 0 (-1) with ⟨h1, -⟩ | ⟨p, h1, h2, h3, h4⟩
  · exact absurd h1 h
  · have e : f_Mo_find ti n j t = nI p := h3
    rw [e, nI_clamp (by omega)]
    omega
theorem fi_cgo {ti ti' : Nat → Int32} {j : Nat} {t : Int32} : ∀ (k i : Nat) (a : Int32), (∀ p, i ≤ p → p < i + k → ti (32 * j + p) = ti' (32 * j + p)) → g_Mo_find_5 ti j t k i a = g_Mo_find_5 ti' j t k i a := by
  intro k
  induction k with
  | zero => intro i a h; rfl
  | succ k ih =>
    intro i a h
    unfold g_Mo_find_5
    rw [h i (Nat.le_refl _) (by omega), ih (i + 1) (nI i) (fun p h1 h2 => h p (by omega) (by omega)), ih (i + 1) a (fun p h1 h2 => h p (by omega) (by omega))]
theorem fi_congr {ti ti' : Nat → Int32} {n j : Nat} {t : Int32} (h : ∀ p, p < n → ti (32 * j + p) = ti' (32 * j + p)) : f_Mo_find ti n j t = f_Mo_find ti' n j t := fi_cgo n 0 (-1) (fun p _ h2 => h p (by omega))
/-! remembering: what was copied where -/
set_option maxRecDepth 100000 in
theorem rem_go (j : Nat) : ∀ (k i : Nat) (ed ct ti nm xa xb : Nat → Int32), i + k ≤ 32 → (g_Mo_remember_23 j k i ed ct ti nm xa xb).1 = ed ∧ (g_Mo_remember_23 j k i ed ct ti nm xa xb).2.1 = ct ∧
    ∀ q, (g_Mo_remember_23 j k i ed ct ti nm xa xb).2.2.1 q = (if 32 * (j + 4) + i ≤ q ∧ q < 32 * (j + 4) + i + k then ti (q - 128) else ti q) ∧ (g_Mo_remember_23 j k i ed ct ti nm xa xb).2.2.2.1 q = (if 32 * (j + 4) + i ≤ q ∧ q < 32 * (j + 4) + i + k then nm (q - 128) else nm q) ∧
      (g_Mo_remember_23 j k i ed ct ti nm xa xb).2.2.2.2.1 q = (if 32 * (j + 4) + i ≤ q ∧ q < 32 * (j + 4) + i + k then xa (q - 128) else xa q) ∧ (g_Mo_remember_23 j k i ed ct ti nm xa xb).2.2.2.2.2 q = (if 32 * (j + 4) + i ≤ q ∧ q < 32 * (j + 4) + i + k then xb (q - 128) else xb q) := by
  intro k
  induction k with
  | zero =>
    intro i ed ct ti nm xa xb h
    refine ⟨rfl, rfl, fun q => ?_⟩
    rw [if_neg (by omega), if_neg (by omega), if_neg (by omega), if_neg (by omega)]
    exact ⟨rfl, rfl, rfl, rfl⟩
  | succ k ih =>
    intro i ed ct ti nm xa xb h
    have st : ∀ (f : Nat → Int32) (q : Nat), (if 32 * (j + 4) + (i + 1) ≤ q ∧ q < 32 * (j + 4) + (i + 1) + k then upd f (32 * (j + 4) + i) (f (32 * j + i)) (q - 128) else upd f (32 * (j + 4) + i) (f (32 * j + i)) q) = (if 32 * (j + 4) + i ≤ q ∧ q < 32 * (j + 4) + i + (k + 1) then f (q - 128) else f q) := by
      intro f q
      by_cases h1 : 32 * (j + 4) + (i + 1) ≤ q ∧ q < 32 * (j + 4) + (i + 1) + k
      · rw [if_pos h1, if_pos (by omega), upd_ne _ _ (by omega)]
      · rw [if_neg h1]
        by_cases h2 : q = 32 * (j + 4) + i
        · rw [if_pos (by omega), h2, upd_at]
          rw [show 32 * (j + 4) + i - 128 = 32 * j + i from by omega]
        · rw [if_neg (by omega), upd_ne _ _ h2]
    obtain ⟨h1, h2, h3⟩ := ih (i + 1) ed ct (f_Mo_copy ti nm xa xb (32 * j + i) (32 * (j + 4) + i)).1 (f_Mo_copy ti nm xa xb (32 * j + i) (32 * (j + 4) + i)).2.1 (f_Mo_copy ti nm xa xb (32 * j + i) (32 * (j + 4) + i)).2.2.1 (f_Mo_copy ti nm xa xb (32 * j + i) (32 * (j + 4) + i)).2.2.2 (by omega)
    refine ⟨h1, h2, fun q => ?_⟩
    obtain ⟨a1, a2, a3, a4⟩ := h3 q
    exact ⟨a1.trans (st ti q), a2.trans (st nm q), a3.trans (st xa q), a4.trans (st xb q)⟩
theorem rem_ct (ed ct ti nm xa xb : Nat → Int32) (j n : Nat) (h : ct j = nI n) : (f_Mo_remember ed ct ti nm xa xb j).2.1 j = nI n := by
  have e := (rem_go j 32 0 (upd ed j 1) (upd ct (j + 4) (ct j)) ti nm xa xb (by omega)).2.1
  show (g_Mo_remember_23 j 32 0 (upd ed j 1) (upd ct (j + 4) (ct j)) ti nm xa xb).2.1 j = nI n
  rw [e, upd_ne _ _ (by omega)]
  exact h
theorem rem_ti (ed ct ti nm xa xb : Nat → Int32) (j q : Nat) (hq : q < 32 * (j + 4) ∨ 32 * (j + 4) + 32 ≤ q) : (f_Mo_remember ed ct ti nm xa xb j).2.2.1 q = ti q ∧ (f_Mo_remember ed ct ti nm xa xb j).2.2.2.1 q = nm q ∧ (f_Mo_remember ed ct ti nm xa xb j).2.2.2.2.1 q = xa q ∧ (f_Mo_remember ed ct ti nm xa xb j).2.2.2.2.2 q = xb q := by
  have e := (rem_go j 32 0 (upd ed j 1) (upd ct (j + 4) (ct j)) ti nm xa xb (by omega)).2.2 q
  rw [if_neg (by omega), if_neg (by omega), if_neg (by omega), if_neg (by omega)] at e
  exact e
theorem rem_fi (ed ct ti nm xa xb : Nat → Int32) (j n : Nat) (t : Int32) (hj : j < 4) (hn : n ≤ 32) (h : ¬ f_Mo_find ti n j t = -1) : f_Mo_find (f_Mo_remember ed ct ti nm xa xb j).2.2.1 n j t = nI (f_Mo_find ti n j t).toNatClampNeg := by
  rw [fi_congr (ti' := ti) (fun p hp => (rem_ti ed ct ti nm xa xb j (32 * j + p) (by omega)).1)]
  exact nI_back (fi_at ti n j t hn) h
theorem cut_go (j : Nat) : ∀ (k i : Nat) (ct ti nm xa xb : Nat → Int32), (g_Mo_cut_12 j k i ct ti nm xa xb).1 = ct := by
  intro k
  induction k with
  | zero => intro i ct ti nm xa xb; rfl
  | succ k ih => intro i ct ti nm xa xb; exact ih _ _ _ _ _ _
theorem cut_ct (ct ti nm xa xb : Nat → Int32) (n j p : Nat) : (f_Mo_cut ct ti nm xa xb n j p).1 j = nI (n - 1) := by
  show (g_Mo_cut_12 j (n - 1 - p) p (upd ct j (nI (n - 1))) ti nm xa xb).1 j = nI (n - 1)
  rw [cut_go, upd_at]
theorem run48_le_0 (ti : Nat → Int32) (nm : Nat → Int32) (xa : Nat → Int32) (j : Nat) (t : Int32) : ∀ (k i mc : Nat) (it vs se : Nat → Int32) (sm : Int64) (rs : Nat → Int64) (wk : Nat → Int32), (g_Mo_run_0_48 ti nm xa j t k i mc it vs se sm rs wk).1 ≤ mc + k := by
  intro k
  induction k with
  | zero => intro i mc it vs se sm rs wk; exact Nat.le_refl _
  | succ k ih =>
    intro i mc it vs se sm rs wk
    unfold g_Mo_run_0_48
    split
    · exact Nat.le_add_right _ _
    · refine Nat.le_trans (ih _ _ _ _ _ _ _ _) ?_
      generalize hv9 : vp_updL rs i 0 = rs9
      have h : (f_Mo_doBag_0 mc it vs rs9 i (nm (32 * j + i)) (xa (32 * j + i))).2.1 ≤ mc + 1 := doBag_le_0 _ _ _ _ _ _ _ (Nat.le_refl _)
      omega
theorem run23_le_0 (ti : Nat → Int32) (nm : Nat → Int32) (xa : Nat → Int32) (it : Nat → Int32) (vs : Nat → Int32) (rs : Nat → Int64) (wk : Nat → Int32) (n : Nat) (j : Nat) (t : Int32) : ∀ (k i : Nat) (se : Nat → Int32), (g_Mo_run_0_23 ti nm xa it vs rs wk n j t k i se).1 ≤ n := by
  intro k
  induction k with
  | zero => intro i se; exact Nat.le_trans (run48_le_0 ti nm xa j t _ _ _ _ _ _ _ _ _) (by omega)
  | succ k ih => intro i se; exact ih _ _
theorem run_le_0 (ti : Nat → Int32) (nm : Nat → Int32) (xa : Nat → Int32) (it : Nat → Int32) (vs : Nat → Int32) (se : Nat → Int32) (rs : Nat → Int64) (wk : Nat → Int32) (n : Nat) (j : Nat) (t : Int32) : (f_Mo_run_0 ti nm xa it vs se rs wk n j t).1 ≤ n := run23_le_0 ti nm xa it vs rs wk n j t _ _ _
theorem run48_bz_0 (ti : Nat → Int32) (nm : Nat → Int32) (xa : Nat → Int32) (j : Nat) (t : Int32) : ∀ (k i : Nat) (mc : Nat) (it vs se : Nat → Int32) (sm : Int64) (rs : Nat → Int64) (wk : Nat → Int32), bz wk → bz (g_Mo_run_0_48 ti nm xa j t k i mc it vs se sm rs wk).2.2.2.2.2.2 := by
  intro k
  induction k with
  | zero => intro i mc it vs se sm rs wk h; exact h
  | succ k ih =>
    intro i mc it vs se sm rs wk h
    unfold g_Mo_run_0_48
    split
    · exact h
    · exact ih _ _ _ _ _ _ _ _ (bz_upd h _ (doBag_bz_0 _ _ _ _ _ _ _))
theorem run23_bz_0 (ti : Nat → Int32) (nm : Nat → Int32) (xa : Nat → Int32) (it : Nat → Int32) (vs : Nat → Int32) (rs : Nat → Int64) (wk : Nat → Int32) (n : Nat) (j : Nat) (t : Int32) (h : bz wk) : ∀ (k i : Nat) (se : Nat → Int32), bz (g_Mo_run_0_23 ti nm xa it vs rs wk n j t k i se).2.2.2.2.2.2 := by
  intro k
  induction k with
  | zero => intro i se; exact run48_bz_0 ti nm xa j t _ _ _ _ _ _ _ _ _ h
  | succ k ih => intro i se; exact ih _ _
theorem run_bz_0 (ti : Nat → Int32) (nm : Nat → Int32) (xa : Nat → Int32) (it : Nat → Int32) (vs : Nat → Int32) (se : Nat → Int32) (rs : Nat → Int64) (wk : Nat → Int32) (n : Nat) (j : Nat) (t : Int32) (h : bz wk) : bz (f_Mo_run_0 ti nm xa it vs se rs wk n j t).2.2.2.2.2.2 := run23_bz_0 ti nm xa it vs rs wk n j t h _ _ _
theorem run48_le_1 (ti : Nat → Int32) (nm : Nat → Int32) (xa : Nat → Int32) (j : Nat) (t : Int32) : ∀ (k i mc : Nat) (it vs se : Nat → Int32) (sm : Int64) (rs : Nat → Int64) (wk : Nat → Int32), (g_Mo_run_1_48 ti nm xa j t k i mc it vs se sm rs wk).1 ≤ mc + k := by
  intro k
  induction k with
  | zero => intro i mc it vs se sm rs wk; exact Nat.le_refl _
  | succ k ih =>
    intro i mc it vs se sm rs wk
    unfold g_Mo_run_1_48
    split
    · exact Nat.le_add_right _ _
    · refine Nat.le_trans (ih _ _ _ _ _ _ _ _) ?_
      generalize hv9 : vp_updL rs i 0 = rs9
      have h : (f_Mo_doBag_1 mc it vs rs9 i (nm (32 * j + i)) (xa (32 * j + i))).2.1 ≤ mc + 1 := doBag_le_1 _ _ _ _ _ _ _ (Nat.le_refl _)
      omega
theorem run23_le_1 (ti : Nat → Int32) (nm : Nat → Int32) (xa : Nat → Int32) (it : Nat → Int32) (vs : Nat → Int32) (rs : Nat → Int64) (wk : Nat → Int32) (n : Nat) (j : Nat) (t : Int32) : ∀ (k i : Nat) (se : Nat → Int32), (g_Mo_run_1_23 ti nm xa it vs rs wk n j t k i se).1 ≤ n := by
  intro k
  induction k with
  | zero => intro i se; exact Nat.le_trans (run48_le_1 ti nm xa j t _ _ _ _ _ _ _ _ _) (by omega)
  | succ k ih => intro i se; exact ih _ _
theorem run_le_1 (ti : Nat → Int32) (nm : Nat → Int32) (xa : Nat → Int32) (it : Nat → Int32) (vs : Nat → Int32) (se : Nat → Int32) (rs : Nat → Int64) (wk : Nat → Int32) (n : Nat) (j : Nat) (t : Int32) : (f_Mo_run_1 ti nm xa it vs se rs wk n j t).1 ≤ n := run23_le_1 ti nm xa it vs rs wk n j t _ _ _
theorem run48_bz_1 (ti : Nat → Int32) (nm : Nat → Int32) (xa : Nat → Int32) (j : Nat) (t : Int32) : ∀ (k i : Nat) (mc : Nat) (it vs se : Nat → Int32) (sm : Int64) (rs : Nat → Int64) (wk : Nat → Int32), bz wk → bz (g_Mo_run_1_48 ti nm xa j t k i mc it vs se sm rs wk).2.2.2.2.2.2 := by
  intro k
  induction k with
  | zero => intro i mc it vs se sm rs wk h; exact h
  | succ k ih =>
    intro i mc it vs se sm rs wk h
    unfold g_Mo_run_1_48
    split
    · exact h
    · exact ih _ _ _ _ _ _ _ _ (bz_upd h _ (doBag_bz_1 _ _ _ _ _ _ _))
theorem run23_bz_1 (ti : Nat → Int32) (nm : Nat → Int32) (xa : Nat → Int32) (it : Nat → Int32) (vs : Nat → Int32) (rs : Nat → Int64) (wk : Nat → Int32) (n : Nat) (j : Nat) (t : Int32) (h : bz wk) : ∀ (k i : Nat) (se : Nat → Int32), bz (g_Mo_run_1_23 ti nm xa it vs rs wk n j t k i se).2.2.2.2.2.2 := by
  intro k
  induction k with
  | zero => intro i se; exact run48_bz_1 ti nm xa j t _ _ _ _ _ _ _ _ _ h
  | succ k ih => intro i se; exact ih _ _
theorem run_bz_1 (ti : Nat → Int32) (nm : Nat → Int32) (xa : Nat → Int32) (it : Nat → Int32) (vs : Nat → Int32) (se : Nat → Int32) (rs : Nat → Int64) (wk : Nat → Int32) (n : Nat) (j : Nat) (t : Int32) (h : bz wk) : bz (f_Mo_run_1 ti nm xa it vs se rs wk n j t).2.2.2.2.2.2 := run23_bz_1 ti nm xa it vs rs wk n j t h _ _ _
theorem run48_le_2 (ti : Nat → Int32) (nm : Nat → Int32) (xa : Nat → Int32) (xb : Nat → Int32) (j : Nat) (t : Int32) : ∀ (k i mc : Nat) (it vs se : Nat → Int32) (sm : Int64) (rs : Nat → Int64) (wk : Nat → Int32), (g_Mo_run_2_48 ti nm xa xb j t k i mc it vs se sm rs wk).1 ≤ mc + k := by
  intro k
  induction k with
  | zero => intro i mc it vs se sm rs wk; exact Nat.le_refl _
  | succ k ih =>
    intro i mc it vs se sm rs wk
    unfold g_Mo_run_2_48
    split
    · exact Nat.le_add_right _ _
    · refine Nat.le_trans (ih _ _ _ _ _ _ _ _) ?_
      generalize hv9 : vp_updL rs i 0 = rs9
      have h : (f_Mo_doTable mc it vs rs9 i (nm (32 * j + i)) (xa (32 * j + i)) (xb (32 * j + i))).2.1 ≤ mc + 1 := doTable_le _ _ _ _ _ _ _ _ (Nat.le_refl _)
      omega
theorem run23_le_2 (ti : Nat → Int32) (nm : Nat → Int32) (xa : Nat → Int32) (xb : Nat → Int32) (it : Nat → Int32) (vs : Nat → Int32) (rs : Nat → Int64) (wk : Nat → Int32) (n : Nat) (j : Nat) (t : Int32) : ∀ (k i : Nat) (se : Nat → Int32), (g_Mo_run_2_23 ti nm xa xb it vs rs wk n j t k i se).1 ≤ n := by
  intro k
  induction k with
  | zero => intro i se; exact Nat.le_trans (run48_le_2 ti nm xa xb j t _ _ _ _ _ _ _ _ _) (by omega)
  | succ k ih => intro i se; exact ih _ _
theorem run_le_2 (ti : Nat → Int32) (nm : Nat → Int32) (xa : Nat → Int32) (xb : Nat → Int32) (it : Nat → Int32) (vs : Nat → Int32) (se : Nat → Int32) (rs : Nat → Int64) (wk : Nat → Int32) (n : Nat) (j : Nat) (t : Int32) : (f_Mo_run_2 ti nm xa xb it vs se rs wk n j t).1 ≤ n := run23_le_2 ti nm xa xb it vs rs wk n j t _ _ _
theorem run48_bz_2 (ti : Nat → Int32) (nm : Nat → Int32) (xa : Nat → Int32) (xb : Nat → Int32) (j : Nat) (t : Int32) : ∀ (k i : Nat) (mc : Nat) (it vs se : Nat → Int32) (sm : Int64) (rs : Nat → Int64) (wk : Nat → Int32), bz wk → bz (g_Mo_run_2_48 ti nm xa xb j t k i mc it vs se sm rs wk).2.2.2.2.2.2 := by
  intro k
  induction k with
  | zero => intro i mc it vs se sm rs wk h; exact h
  | succ k ih =>
    intro i mc it vs se sm rs wk h
    unfold g_Mo_run_2_48
    split
    · exact h
    · exact ih _ _ _ _ _ _ _ _ (bz_upd h _ (doTable_bz _ _ _ _ _ _ _ _))
theorem run23_bz_2 (ti : Nat → Int32) (nm : Nat → Int32) (xa : Nat → Int32) (xb : Nat → Int32) (it : Nat → Int32) (vs : Nat → Int32) (rs : Nat → Int64) (wk : Nat → Int32) (n : Nat) (j : Nat) (t : Int32) (h : bz wk) : ∀ (k i : Nat) (se : Nat → Int32), bz (g_Mo_run_2_23 ti nm xa xb it vs rs wk n j t k i se).2.2.2.2.2.2 := by
  intro k
  induction k with
  | zero => intro i se; exact run48_bz_2 ti nm xa xb j t _ _ _ _ _ _ _ _ _ h
  | succ k ih => intro i se; exact ih _ _
theorem run_bz_2 (ti : Nat → Int32) (nm : Nat → Int32) (xa : Nat → Int32) (xb : Nat → Int32) (it : Nat → Int32) (vs : Nat → Int32) (se : Nat → Int32) (rs : Nat → Int64) (wk : Nat → Int32) (n : Nat) (j : Nat) (t : Int32) (h : bz wk) : bz (f_Mo_run_2 ti nm xa xb it vs se rs wk n j t).2.2.2.2.2.2 := run23_bz_2 ti nm xa xb it vs rs wk n j t h _ _ _
theorem run48_le_3 (ti : Nat → Int32) (nm : Nat → Int32) (xa : Nat → Int32) (j : Nat) (t : Int32) : ∀ (k i mc : Nat) (it vs se : Nat → Int32) (sm : Int64) (rs : Nat → Int64) (wk : Nat → Int32), (g_Mo_run_3_48 ti nm xa j t k i mc it vs se sm rs wk).1 ≤ mc + k := by
  intro k
  induction k with
  | zero => intro i mc it vs se sm rs wk; exact Nat.le_refl _
  | succ k ih =>
    intro i mc it vs se sm rs wk
    unfold g_Mo_run_3_48
    split
    · exact Nat.le_add_right _ _
    · refine Nat.le_trans (ih _ _ _ _ _ _ _ _) ?_
      generalize hv9 : vp_updL rs i 0 = rs9
      have h : (f_Mo_doBag_3 mc it vs rs9 i (nm (32 * j + i)) (xa (32 * j + i))).2.1 ≤ mc + 1 := doBag_le_3 _ _ _ _ _ _ _ (Nat.le_refl _)
      omega
theorem run23_le_3 (ti : Nat → Int32) (nm : Nat → Int32) (xa : Nat → Int32) (it : Nat → Int32) (vs : Nat → Int32) (rs : Nat → Int64) (wk : Nat → Int32) (n : Nat) (j : Nat) (t : Int32) : ∀ (k i : Nat) (se : Nat → Int32), (g_Mo_run_3_23 ti nm xa it vs rs wk n j t k i se).1 ≤ n := by
  intro k
  induction k with
  | zero => intro i se; exact Nat.le_trans (run48_le_3 ti nm xa j t _ _ _ _ _ _ _ _ _) (by omega)
  | succ k ih => intro i se; exact ih _ _
theorem run_le_3 (ti : Nat → Int32) (nm : Nat → Int32) (xa : Nat → Int32) (it : Nat → Int32) (vs : Nat → Int32) (se : Nat → Int32) (rs : Nat → Int64) (wk : Nat → Int32) (n : Nat) (j : Nat) (t : Int32) : (f_Mo_run_3 ti nm xa it vs se rs wk n j t).1 ≤ n := run23_le_3 ti nm xa it vs rs wk n j t _ _ _
theorem run48_bz_3 (ti : Nat → Int32) (nm : Nat → Int32) (xa : Nat → Int32) (j : Nat) (t : Int32) : ∀ (k i : Nat) (mc : Nat) (it vs se : Nat → Int32) (sm : Int64) (rs : Nat → Int64) (wk : Nat → Int32), bz wk → bz (g_Mo_run_3_48 ti nm xa j t k i mc it vs se sm rs wk).2.2.2.2.2.2 := by
  intro k
  induction k with
  | zero => intro i mc it vs se sm rs wk h; exact h
  | succ k ih =>
    intro i mc it vs se sm rs wk h
    unfold g_Mo_run_3_48
    split
    · exact h
    · exact ih _ _ _ _ _ _ _ _ (bz_upd h _ (doBag_bz_3 _ _ _ _ _ _ _))
theorem run23_bz_3 (ti : Nat → Int32) (nm : Nat → Int32) (xa : Nat → Int32) (it : Nat → Int32) (vs : Nat → Int32) (rs : Nat → Int64) (wk : Nat → Int32) (n : Nat) (j : Nat) (t : Int32) (h : bz wk) : ∀ (k i : Nat) (se : Nat → Int32), bz (g_Mo_run_3_23 ti nm xa it vs rs wk n j t k i se).2.2.2.2.2.2 := by
  intro k
  induction k with
  | zero => intro i se; exact run48_bz_3 ti nm xa j t _ _ _ _ _ _ _ _ _ h
  | succ k ih => intro i se; exact ih _ _
theorem run_bz_3 (ti : Nat → Int32) (nm : Nat → Int32) (xa : Nat → Int32) (it : Nat → Int32) (vs : Nat → Int32) (se : Nat → Int32) (rs : Nat → Int64) (wk : Nat → Int32) (n : Nat) (j : Nat) (t : Int32) (h : bz wk) : bz (f_Mo_run_3 ti nm xa it vs se rs wk n j t).2.2.2.2.2.2 := run23_bz_3 ti nm xa it vs rs wk n j t h _ _ _
theorem run48_bz_4 (ti : Nat → Int32) (xa : Nat → Int32) (j : Nat) (t : Int32) : ∀ (k i : Nat) (mc : Int32) (it vs se : Nat → Int32) (sm : Int64) (rs : Nat → Int64) (wk : Nat → Int32), bz wk → bz (g_Mo_run_4_48 ti xa j t k i mc it vs se sm rs wk).2.2.2.2.2.2 := by
  intro k
  induction k with
  | zero => intro i mc it vs se sm rs wk h; exact h
  | succ k ih =>
    intro i mc it vs se sm rs wk h
    unfold g_Mo_run_4_48
    split
    · exact h
    · split
      · exact ih _ _ _ _ _ _ _ _ (bz_upd h _ (Or.inr rfl))
      · exact ih _ _ _ _ _ _ _ _ (bz_upd h _ (Or.inr rfl))
theorem run23_bz_4 (ti : Nat → Int32) (xa : Nat → Int32) (it : Nat → Int32) (vs : Nat → Int32) (rs : Nat → Int64) (wk : Nat → Int32) (n : Nat) (j : Nat) (t : Int32) (h : bz wk) : ∀ (k i : Nat) (se : Nat → Int32), bz (g_Mo_run_4_23 ti xa it vs rs wk n j t k i se).2.2.2.2.2.2 := by
  intro k
  induction k with
  | zero => intro i se; exact run48_bz_4 ti xa j t _ _ _ _ _ _ _ _ _ h
  | succ k ih => intro i se; exact ih _ _
theorem run_bz_4 (ti : Nat → Int32) (xa : Nat → Int32) (it : Nat → Int32) (vs : Nat → Int32) (se : Nat → Int32) (rs : Nat → Int64) (wk : Nat → Int32) (n : Nat) (j : Nat) (t : Int32) (h : bz wk) : bz (f_Mo_run_4 ti xa it vs se rs wk n j t).2.2.2.2.2.2 := run23_bz_4 ti xa it vs rs wk n j t h _ _ _
theorem run48_bz_5 (ti : Nat → Int32) (xa : Nat → Int32) (xb : Nat → Int32) (j : Nat) (t : Int32) : ∀ (k i : Nat) (mc : Int32) (it vs se : Nat → Int32) (sm : Int64) (rs : Nat → Int64) (wk : Nat → Int32), bz wk → bz (g_Mo_run_5_48 ti xa xb j t k i mc it vs se sm rs wk).2.2.2.2.2.2 := by
  intro k
  induction k with
  | zero => intro i mc it vs se sm rs wk h; exact h
  | succ k ih =>
    intro i mc it vs se sm rs wk h
    unfold g_Mo_run_5_48
    split
    · exact h
    · exact ih _ _ _ _ _ _ _ _ (bz_upd h _ (doSets_bz _ _ _ _))
theorem run23_bz_5 (ti : Nat → Int32) (xa : Nat → Int32) (xb : Nat → Int32) (it : Nat → Int32) (vs : Nat → Int32) (rs : Nat → Int64) (wk : Nat → Int32) (n : Nat) (j : Nat) (t : Int32) (h : bz wk) : ∀ (k i : Nat) (se : Nat → Int32), bz (g_Mo_run_5_23 ti xa xb it vs rs wk n j t k i se).2.2.2.2.2.2 := by
  intro k
  induction k with
  | zero => intro i se; exact run48_bz_5 ti xa xb j t _ _ _ _ _ _ _ _ _ h
  | succ k ih => intro i se; exact ih _ _
theorem run_bz_5 (ti : Nat → Int32) (xa : Nat → Int32) (xb : Nat → Int32) (it : Nat → Int32) (vs : Nat → Int32) (se : Nat → Int32) (rs : Nat → Int64) (wk : Nat → Int32) (n : Nat) (j : Nat) (t : Int32) (h : bz wk) : bz (f_Mo_run_5 ti xa xb it vs se rs wk n j t).2.2.2.2.2.2 := run23_bz_5 ti xa xb it vs rs wk n j t h _ _ _
