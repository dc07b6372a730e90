theorem to_1 (n : Nat) : ∀ (k i : Nat) (it vs : Nat → Int32), (g_Mo_takeOut_12 n k i it vs).1 = n - 1 := by
  intro k
  induction k with
  | zero => intro i it vs; rfl
  | succ k ih => intro i it vs; exact ih _ _ _
theorem takeOut_1 (n : Nat) (it vs : Nat → Int32) (p : Nat) : (f_Mo_takeOut n it vs p).1 = n - 1 := to_1 n _ _ _ _
theorem doBag_le_0 (n : Nat) (it vs : Nat → Int32) (rs : Nat → Int64) (i : Nat) (u x : Int32) {m : Nat} (hm : n ≤ m) : (f_Mo_doBag_0 n it vs rs i u x).2.1 ≤ m + 1 := by
  unfold f_Mo_doBag_0
  split
  · exact Nat.succ_le_succ hm
  · split
    · exact Nat.le_succ_of_le hm
    · rw [takeOut_1]; show n - 1 ≤ m + 1; omega
theorem doBag_le_1 (n : Nat) (it vs : Nat → Int32) (rs : Nat → Int64) (i : Nat) (u x : Int32) {m : Nat} (hm : n ≤ m) : (f_Mo_doBag_1 n it vs rs i u x).2.1 ≤ m + 1 := by
  unfold f_Mo_doBag_1
  split
  · exact Nat.succ_le_succ hm
  · split
    · exact Nat.le_succ_of_le hm
    · rw [takeOut_1]; show n - 1 ≤ m + 1; omega
theorem doBag_le_3 (n : Nat) (it vs : Nat → Int32) (rs : Nat → Int64) (i : Nat) (u x : Int32) {m : Nat} (hm : n ≤ m) : (f_Mo_doBag_3 n it vs rs i u x).2.1 ≤ m + 1 := by
  unfold f_Mo_doBag_3
  split
  · exact Nat.succ_le_succ hm
  · split
    · exact Nat.le_succ_of_le hm
    · rw [takeOut_1]; show n - 1 ≤ m + 1; omega
theorem doTable_le (n : Nat) (it vs : Nat → Int32) (rs : Nat → Int64) (i : Nat) (u x y : Int32) {m : Nat} (hm : n ≤ m) : (f_Mo_doTable n it vs rs i u x y).2.1 ≤ m + 1 := by
  unfold f_Mo_doTable
  split
  · split
    · exact Nat.le_succ_of_le hm
    · rw [takeOut_1]; show n - 1 ≤ m + 1; omega
  · split
    · exact Nat.succ_le_succ hm
    · exact Nat.le_succ_of_le hm
theorem doBag_bz_0 (n : Nat) (it vs : Nat → Int32) (rs : Nat → Int64) (i : Nat) (u x : Int32) : (f_Mo_doBag_0 n it vs rs i u x).1 = 0 ∨ (f_Mo_doBag_0 n it vs rs i u x).1 = 1 := by
  unfold f_Mo_doBag_0
  split
  · exact Or.inr rfl
  · split
    · exact Or.inl rfl
    · exact Or.inr rfl
theorem doBag_bz_1 (n : Nat) (it vs : Nat → Int32) (rs : Nat → Int64) (i : Nat) (u x : Int32) : (f_Mo_doBag_1 n it vs rs i u x).1 = 0 ∨ (f_Mo_doBag_1 n it vs rs i u x).1 = 1 := by
  unfold f_Mo_doBag_1
  split
  · exact Or.inr rfl
  · split
    · exact Or.inl rfl
    · exact Or.inr rfl
theorem doBag_bz_3 (n : Nat) (it vs : Nat → Int32) (rs : Nat → Int64) (i : Nat) (u x : Int32) : (f_Mo_doBag_3 n it vs rs i u x).1 = 0 ∨ (f_Mo_doBag_3 n it vs rs i u x).1 = 1 := by
  unfold f_Mo_doBag_3
  split
  · exact Or.inr rfl
  · split
    · exact Or.inl rfl
    · exact Or.inr rfl
theorem doTable_bz (n : Nat) (it vs : Nat → Int32) (rs : Nat → Int64) (i : Nat) (u x y : Int32) : (f_Mo_doTable n it vs rs i u x y).1 = 0 ∨ (f_Mo_doTable n it vs rs i u x y).1 = 1 := by
  unfold f_Mo_doTable
  split
  · split
    · exact Or.inl rfl
    · exact Or.inr rfl
  · split
    · exact Or.inr rfl
    · exact Or.inl rfl
theorem ds_bz (ma : Int32) : ∀ (k i : Nat) (fr to9 : Int32) (se : Nat → Int32), (g_Mo_doSets_18 ma k i fr to9 se).1 = 0 ∨ (g_Mo_doSets_18 ma k i fr to9 se).1 = 1 := by
  intro k
  induction k with
  | zero =>
    intro i fr to9 se
    unfold g_Mo_doSets_18
    split
    · exact Or.inl rfl
    · exact Or.inr rfl
  | succ k ih =>
    intro i fr to9 se
    unfold g_Mo_doSets_18
    split
    · exact ih _ _ _ _
    · exact ih _ _ _ _
theorem doSets_bz (ma : Int32) (se : Nat → Int32) (x y : Nat) : (f_Mo_doSets ma se x y).1 = 0 ∨ (f_Mo_doSets ma se x y).1 = 1 := ds_bz ma _ _ _ _ _
