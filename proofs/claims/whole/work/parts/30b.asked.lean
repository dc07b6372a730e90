/-! -/
theorem asked_fi_0 (ti : Nat → Int32) (nm : Nat → Int32) (xa : Nat → Int32) (it : Nat → Int32) (vs : Nat → Int32) (se : Nat → Int32) (rs : Nat → Int64) (wk : Nat → Int32) (n : Nat) (j : Nat) (t : Int32) : (f_Mo_asked_0 ti nm xa it vs se rs wk n j t).1 = oI (¬ (f_Mo_find ti n j t) = -1) ((f_Mo_find ti n j t).toNatClampNeg) := by
  unfold f_Mo_asked_0 oI
  by_cases h : ¬ (f_Mo_find ti n j t) = -1
  · rw [if_pos h, if_pos h]
  · rw [if_neg h, if_neg h]
theorem asked_fi_1 (ti : Nat → Int32) (nm : Nat → Int32) (xa : Nat → Int32) (it : Nat → Int32) (vs : Nat → Int32) (se : Nat → Int32) (rs : Nat → Int64) (wk : Nat → Int32) (n : Nat) (j : Nat) (t : Int32) : (f_Mo_asked_1 ti nm xa it vs se rs wk n j t).1 = oI (¬ (f_Mo_find ti n j t) = -1) ((f_Mo_find ti n j t).toNatClampNeg) := by
  unfold f_Mo_asked_1 oI
  by_cases h : ¬ (f_Mo_find ti n j t) = -1
  · rw [if_pos h, if_pos h]
  · rw [if_neg h, if_neg h]
theorem asked_fi_2 (ti : Nat → Int32) (nm : Nat → Int32) (xa : Nat → Int32) (xb : Nat → Int32) (it : Nat → Int32) (vs : Nat → Int32) (se : Nat → Int32) (rs : Nat → Int64) (wk : Nat → Int32) (n : Nat) (j : Nat) (t : Int32) : (f_Mo_asked_2 ti nm xa xb it vs se rs wk n j t).1 = oI (¬ (f_Mo_find ti n j t) = -1) ((f_Mo_find ti n j t).toNatClampNeg) := by
  unfold f_Mo_asked_2 oI
  by_cases h : ¬ (f_Mo_find ti n j t) = -1
  · rw [if_pos h, if_pos h]
  · rw [if_neg h, if_neg h]
theorem asked_fi_3 (ti : Nat → Int32) (nm : Nat → Int32) (xa : Nat → Int32) (it : Nat → Int32) (vs : Nat → Int32) (se : Nat → Int32) (rs : Nat → Int64) (wk : Nat → Int32) (n : Nat) (j : Nat) (t : Int32) : (f_Mo_asked_3 ti nm xa it vs se rs wk n j t).1 = oI (¬ (f_Mo_find ti n j t) = -1) ((f_Mo_find ti n j t).toNatClampNeg) := by
  unfold f_Mo_asked_3 oI
  by_cases h : ¬ (f_Mo_find ti n j t) = -1
  · rw [if_pos h, if_pos h]
  · rw [if_neg h, if_neg h]
theorem asked_fi_4 (ti : Nat → Int32) (xa : Nat → Int32) (it : Nat → Int32) (vs : Nat → Int32) (se : Nat → Int32) (rs : Nat → Int64) (wk : Nat → Int32) (n : Nat) (j : Nat) (t : Int32) : (f_Mo_asked_4 ti xa it vs se rs wk n j t).1 = oI (¬ (f_Mo_find ti n j t) = -1) ((f_Mo_find ti n j t).toNatClampNeg) := by
  unfold f_Mo_asked_4 oI
  by_cases h : ¬ (f_Mo_find ti n j t) = -1
  · rw [if_pos h, if_pos h]
  · rw [if_neg h, if_neg h]
theorem asked_fi_5 (ti : Nat → Int32) (xa : Nat → Int32) (xb : Nat → Int32) (it : Nat → Int32) (vs : Nat → Int32) (se : Nat → Int32) (rs : Nat → Int64) (wk : Nat → Int32) (n : Nat) (j : Nat) (t : Int32) : (f_Mo_asked_5 ti xa xb it vs se rs wk n j t).1 = oI (¬ (f_Mo_find ti n j t) = -1) ((f_Mo_find ti n j t).toNatClampNeg) := by
  unfold f_Mo_asked_5 oI
  by_cases h : ¬ (f_Mo_find ti n j t) = -1
  · rw [if_pos h, if_pos h]
  · rw [if_neg h, if_neg h]
