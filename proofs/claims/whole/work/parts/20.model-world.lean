/-! what the contracts by program stand on -/
def bI (P : Prop) [Decidable P] : Int32 := if P then 1 else 0
def oI (P : Prop) [Decidable P] (p : Nat) : Int32 := if P then nI p else -1
abbrev okI (x : Int32) : Prop := ¬ x < 0 ∧ ¬ 4 ≤ x
abbrev okM (x : Int32) : Prop := ¬ x < 1 ∧ ¬ 1000000000 < x
abbrev okV (x : Int32) : Prop := ¬ x < 0 ∧ ¬ 1000000000 < x
theorem okI_n {j : Nat} (h : j < 4) : okI (nI j) := by
  rcases (show j = 0 ∨ j = 1 ∨ j = 2 ∨ j = 3 by omega) with rfl | rfl | rfl | rfl <;> decide
theorem okI_of {x : Int32} (h : okI x) : ∃ j : Nat, j < 4 ∧ x = nI j := by
  obtain ⟨j, h1, rfl⟩ := nI_of h.1
  refine ⟨j, ?_, rfl⟩
  rcases Nat.lt_or_ge j 4 with h2 | h2
  · exact h2
  · exact absurd (nI_le (a := 4) h2 h1) h.2
theorem upd_at (f : Nat → Int32) (i : Nat) (x : Int32) : upd f i x i = x := by unfold upd; simp
theorem upd_ne (f : Nat → Int32) (x : Int32) {i k : Nat} (h : k ≠ i) : upd f i x k = f k := by unfold upd; simp [h]
theorem updL_at (f : Nat → Int64) (i : Nat) (x : Int64) : vp_updL f i x i = x := by unfold vp_updL; simp
theorem updL_ne (f : Nat → Int64) (x : Int64) {i k : Nat} (h : k ≠ i) : vp_updL f i x k = f k := by unfold vp_updL; simp [h]
theorem nI_sub {a b : Nat} (h : b ≤ a) : nI a - nI b = nI (a - b) := by
  obtain ⟨c, rfl⟩ : ∃ c, a = c + b := ⟨a - b, by omega⟩
  rw [← nI_add, Nat.add_sub_cancel]
  exact Int32.add_sub_cancel _ _
theorem nI_mul (a b : Nat) : nI a * nI b = nI (a * b) := (Int32.ofNat_mul a b).symm
theorem oI_of {v : Int32} (h : v = -1 ∨ ∃ p : Nat, p < 32 ∧ v = nI p) : v = oI (¬ v = -1) v.toNatClampNeg := by
  unfold oI
  rcases h with h | ⟨p, hp, h⟩
  · rw [if_neg (fun q => q h)]; exact h
  · rw [if_pos (by rw [h]; exact nI_ne_m1 (by omega))]
    rw [h, nI_clamp (by omega)]
theorem bz1 {x : Int32} (h : x = 0 ∨ x = 1) : vp_nar .boolean x = x := by
  rcases h with e | e <;> rw [e] <;> rfl
/-! the reference: one object and its fourteen arrays -/
abbrev wMo (cI cJ cZ : ClassId) (a : Nat) (code : Int32) (kn : Nat → Int32) (ed : Nat → Int32) (ct : Nat → Int32) (ti : Nat → Int32) (nm : Nat → Int32) (xa : Nat → Int32) (xb : Nat → Int32) (ma : Int32) (it : Nat → Int32) (vs : Nat → Int32) (se : Nat → Int32) (sm : Int64) (rs : Nat → Int64) (wk : Nat → Int32) (ors : Nat → Int64) (owk : Nat → Int32) : va_W := [(a, .inr (9, [.int code, .ref (a + 1), .ref (a + 2), .ref (a + 3), .ref (a + 4), .ref (a + 5), .ref (a + 6), .ref (a + 7), .int ma, .ref (a + 8), .ref (a + 9), .ref (a + 10), .long sm, .ref (a + 11), .ref (a + 12), .ref (a + 13), .ref (a + 14)])), (a + 1, .inl (cI, 4, .inl kn)), (a + 2, .inl (cZ, 4, .inl ed)), (a + 3, .inl (cI, 8, .inl ct)), (a + 4, .inl (cI, 256, .inl ti)), (a + 5, .inl (cI, 256, .inl nm)), (a + 6, .inl (cI, 256, .inl xa)), (a + 7, .inl (cI, 256, .inl xb)), (a + 8, .inl (cI, 32, .inl it)), (a + 9, .inl (cI, 32, .inl vs)), (a + 10, .inl (cI, 16, .inl se)), (a + 11, .inl (cJ, 32, .inr (.inl rs))), (a + 12, .inl (cZ, 32, .inl wk)), (a + 13, .inl (cJ, 32, .inr (.inl ors))), (a + 14, .inl (cZ, 32, .inl owk))]
theorem wMo_in {cI cJ cZ : ClassId} {a : Nat} {code : Int32} {kn : Nat → Int32} {ed : Nat → Int32} {ct : Nat → Int32} {ti : Nat → Int32} {nm : Nat → Int32} {xa : Nat → Int32} {xb : Nat → Int32} {ma : Int32} {it : Nat → Int32} {vs : Nat → Int32} {se : Nat → Int32} {sm : Int64} {rs : Nat → Int64} {wk : Nat → Int32} {ors : Nat → Int64} {owk : Nat → Int32} (k : Nat) (q : Nat × va_E) (h : (wMo cI cJ cZ a code kn ed ct ti nm xa xb ma it vs se sm rs wk ors owk)[k]? = some q) : q.1 = a + k ∧ k < 15 := by
  have hk : k < 15 := (List.getElem?_eq_some_iff.mp h).1
  rcases (show k = 0 ∨ k = 1 ∨ k = 2 ∨ k = 3 ∨ k = 4 ∨ k = 5 ∨ k = 6 ∨ k = 7 ∨ k = 8 ∨ k = 9 ∨ k = 10 ∨ k = 11 ∨ k = 12 ∨ k = 13 ∨ k = 14 by omega) with rfl | rfl | rfl | rfl | rfl | rfl | rfl | rfl | rfl | rfl | rfl | rfl | rfl | rfl | rfl <;> (cases h; exact ⟨rfl, by decide⟩)
