/-! what holds between two calls of the two sides -/
/-- an operation of kind K -/
def VK (K : Nat) (u x y : Int32) : Prop := (K = 2 → u = 1 ∨ u = 2) ∧ (K = 5 → (x = nI x.toNatClampNeg ∧ x.toNatClampNeg < 16) ∧ (y = nI y.toNatClampNeg ∧ y.toNatClampNeg < 16))
/-- the results and effects of a line are those of a run of all of it -/
def RES (K n : Nat) (na aa bb : Nat → Int32) (re : Nat → Int64) (ef : Nat → Int32) : Prop :=
  (K = 0 → ∃ (qv : Nat → Int32) (qr : Int64) (qf : Int32) (re0 : Nat → Int64) (ef0 : Nat → Int32), ∀ p, p < n → re p = (rdo (fun nm x _ => bgS 2 nm x) na aa bb n 0 ((0, qv), qr, qf) re0 ef0).2.1 p ∧ ef p = (rdo (fun nm x _ => bgS 2 nm x) na aa bb n 0 ((0, qv), qr, qf) re0 ef0).2.2 p) ∧
  (K = 1 → ∃ (qv : Nat → Int32) (qr : Int64) (qf : Int32) (re0 : Nat → Int64) (ef0 : Nat → Int32), ∀ p, p < n → re p = (rdo (fun nm x _ => bgS 3 nm x) na aa bb n 0 ((0, qv), qr, qf) re0 ef0).2.1 p ∧ ef p = (rdo (fun nm x _ => bgS 3 nm x) na aa bb n 0 ((0, qv), qr, qf) re0 ef0).2.2 p) ∧
  (K = 2 → ∃ (qk qv : Nat → Int32) (qr : Int64) (qf : Int32) (re0 : Nat → Int64) (ef0 : Nat → Int32), ∀ p, p < n → re p = (rdo taS na aa bb n 0 ((0, qk, qv), qr, qf) re0 ef0).2.1 p ∧ ef p = (rdo taS na aa bb n 0 ((0, qk, qv), qr, qf) re0 ef0).2.2 p) ∧
  (K = 3 → ∃ (qv : Nat → Int32) (qr : Int64) (qf : Int32) (re0 : Nat → Int64) (ef0 : Nat → Int32), ∀ p, p < n → re p = (rdo (fun nm x _ => bgS 4 nm x) na aa bb n 0 ((0, qv), qr, qf) re0 ef0).2.1 p ∧ ef p = (rdo (fun nm x _ => bgS 4 nm x) na aa bb n 0 ((0, qv), qr, qf) re0 ef0).2.2 p) ∧
  (K = 4 → ∃ (qn : Nat) (qr : Int64) (qf : Int32) (re0 : Nat → Int64) (ef0 : Nat → Int32), ∀ p, p < n → re p = (rdo (fun _ x _ => reS x) na aa bb n 0 ((0, qn), qr, qf) re0 ef0).2.1 p ∧ ef p = (rdo (fun _ x _ => reS x) na aa bb n 0 ((0, qn), qr, qf) re0 ef0).2.2 p) ∧
  (K = 5 → ∃ (ql : Nat → Int32) (qr : Int64) (qf : Int32) (re0 : Nat → Int64) (ef0 : Nat → Int32), ∀ p, p < n → re p = (rdo (fun _ x y => seS x y) na aa bb n 0 ((16, sal 16 0 ql), qr, qf) re0 ef0).2.1 p ∧ ef p = (rdo (fun _ x y => seS x y) na aa bb n 0 ((16, sal 16 0 ql), qr, qf) re0 ef0).2.2 p)
/-- a line of a collection of kind K -/
def LOK (K n : Nat) (mo na aa bb : Nat → Int32) (re : Nat → Int64) (ef : Nat → Int32) : Prop := Srt n mo ∧ (∀ p, p < n → okM (mo p)) ∧ (∀ p, p < n → VK K (na p) (aa p) (bb p)) ∧ RES K n na aa bb re ef
/-- collection j, with what the reference holds of it -/
def IJ (j : Nat) (x : CoT) (kn ed ct ti nm xa xb : Nat → Int32) : Prop :=
  x.2.1.1 ≤ 32 ∧ x.2.2.1 ≤ 32 ∧ bz x.2.1.2.2.2.2.2.2 ∧ ct j = nI x.2.1.1 ∧ ct (j + 4) = nI x.2.2.1 ∧
  ((x.1 = -1 ∧ kn j = 0) ∨ ∃ K : Nat, K < 6 ∧ x.1 = nI K ∧ kn j = nI (K + 1) ∧
    LEq x.2.1.1 x.2.1.2.1 x.2.1.2.2.1 x.2.1.2.2.2.1 x.2.1.2.2.2.2.1 ti nm xa xb (32 * j) ∧
    LEq x.2.2.1 x.2.2.2.1 x.2.2.2.2.1 x.2.2.2.2.2.1 x.2.2.2.2.2.2.1 ti nm xa xb (32 * (j + 4)) ∧
    LOK K x.2.1.1 x.2.1.2.1 x.2.1.2.2.1 x.2.1.2.2.2.1 x.2.1.2.2.2.2.1 x.2.1.2.2.2.2.2.1 x.2.1.2.2.2.2.2.2 ∧
    LOK K x.2.2.1 x.2.2.2.1 x.2.2.2.2.1 x.2.2.2.2.2.1 x.2.2.2.2.2.2.1 x.2.2.2.2.2.2.2.1 x.2.2.2.2.2.2.2.2 ∧
    (ed j = 0 → x.2.1.1 = 0 ∧ x.2.2.1 = 0))
def Inv (C : Nat → CoT) (M : MT) : Prop := bz (M_wk M) ∧ ∀ j, j < 4 → IJ j (C j) (M_kn M) (M_ed M) (M_ct M) (M_ti M) (M_nm M) (M_xa M) (M_xb M)
section SI
variable {j n n2 : Nat} {kd : Int32} {mo na aa bb mo2 na2 aa2 bb2 kn ed ct ti nm xa xb : Nat → Int32} {re re2 : Nat → Int64} {ef ef2 : Nat → Int32}
theorem IJ_el (h : IJ j (kd, (n, mo, na, aa, bb, re, ef), (n2, mo2, na2, aa2, bb2, re2, ef2)) kn ed ct ti nm xa xb) : n ≤ 32 ∧ n2 ≤ 32 ∧ bz ef ∧ ct j = nI n ∧ ct (j + 4) = nI n2 ∧ ((kd = -1 ∧ kn j = 0) ∨ ∃ K : Nat, K < 6 ∧ kd = nI K ∧ kn j = nI (K + 1) ∧ LEq n mo na aa bb ti nm xa xb (32 * j) ∧ LEq n2 mo2 na2 aa2 bb2 ti nm xa xb (32 * (j + 4)) ∧ LOK K n mo na aa bb re ef ∧ LOK K n2 mo2 na2 aa2 bb2 re2 ef2 ∧ (ed j = 0 → n = 0 ∧ n2 = 0)) := h
theorem IJ_mk (h : n ≤ 32 ∧ n2 ≤ 32 ∧ bz ef ∧ ct j = nI n ∧ ct (j + 4) = nI n2 ∧ ((kd = -1 ∧ kn j = 0) ∨ ∃ K : Nat, K < 6 ∧ kd = nI K ∧ kn j = nI (K + 1) ∧ LEq n mo na aa bb ti nm xa xb (32 * j) ∧ LEq n2 mo2 na2 aa2 bb2 ti nm xa xb (32 * (j + 4)) ∧ LOK K n mo na aa bb re ef ∧ LOK K n2 mo2 na2 aa2 bb2 re2 ef2 ∧ (ed j = 0 → n = 0 ∧ n2 = 0))) : IJ j (kd, (n, mo, na, aa, bb, re, ef), (n2, mo2, na2, aa2, bb2, re2, ef2)) kn ed ct ti nm xa xb := h
end SI
/-- another collection: the reference's arrays are the same there -/
theorem IJ_off {i : Nat} {x : CoT} {kn ed ct ti nm xa xb kn' ed' ct' ti' nm' xa' xb' : Nat → Int32} (h : IJ i x kn ed ct ti nm xa xb) (h1 : kn' i = kn i) (h2 : ed' i = ed i) (h3 : ct' i = ct i) (h4 : ct' (i + 4) = ct (i + 4)) (h5 : ∀ q, (32 * i ≤ q ∧ q < 32 * i + 32) ∨ (32 * (i + 4) ≤ q ∧ q < 32 * (i + 4) + 32) → ti' q = ti q ∧ nm' q = nm q ∧ xa' q = xa q ∧ xb' q = xb q) : IJ i x kn' ed' ct' ti' nm' xa' xb' := by
  obtain ⟨g1, g2, g3, g4, g5, g6⟩ := h
  refine ⟨g1, g2, g3, h3.trans g4, h4.trans g5, ?_⟩
  rcases g6 with ⟨k1, k2⟩ | ⟨K, k0, k1, k2, k3, k4, k5, k6, k7⟩
  · exact Or.inl ⟨k1, h1.trans k2⟩
  · refine Or.inr ⟨K, k0, k1, h1.trans k2, fun p hp => ?_, fun p hp => ?_, k5, k6, fun e => k7 (h2.symm.trans e)⟩
    · obtain ⟨e1, e2, e3, e4⟩ := h5 (32 * i + p) (Or.inl (by omega))
      rw [e1, e2, e3, e4]; exact k3 p hp
    · obtain ⟨e1, e2, e3, e4⟩ := h5 (32 * (i + 4) + p) (Or.inr (by omega))
      rw [e1, e2, e3, e4]; exact k4 p hp
theorem lk_1 {kn : Nat → Int32} {j : Nat} {t : Int32} (h : ¬ okM t) : f_Mo_lacks kn j t = (1, 1) := by unfold f_Mo_lacks; rw [if_neg h]
theorem lk_2 {kn : Nat → Int32} {j : Nat} {t : Int32} (h : okM t) (h2 : kn j = 0) : f_Mo_lacks kn j t = (1, 2) := by unfold f_Mo_lacks; rw [if_pos h, if_pos h2]
theorem lk_0 {kn : Nat → Int32} {j : Nat} {t : Int32} (h : okM t) (h2 : ¬ kn j = 0) : f_Mo_lacks kn j t = (0, 0) := by unfold f_Mo_lacks; rw [if_pos h, if_neg h2]
theorem ltw_1 {kn : Nat → Int32} {j : Nat} {t u : Int32} (h : ¬ (okM t ∧ okM u)) : f_Mo_lacksTwo kn j t u = (1, 1) := by
  unfold f_Mo_lacksTwo
  by_cases h1 : okM t
  · rw [if_pos h1, if_neg (fun h2 => h ⟨h1, h2⟩)]
  · rw [if_neg h1]
theorem ltw_2 {kn : Nat → Int32} {j : Nat} {t u : Int32} (h : okM t) (h1 : okM u) (h2 : kn j = 0) : f_Mo_lacksTwo kn j t u = (1, 2) := by unfold f_Mo_lacksTwo; rw [if_pos h, if_pos h1, if_pos h2]
theorem ltw_0 {kn : Nat → Int32} {j : Nat} {t u : Int32} (h : okM t) (h1 : okM u) (h2 : ¬ kn j = 0) : f_Mo_lacksTwo kn j t u = (0, 0) := by unfold f_Mo_lacksTwo; rw [if_pos h, if_pos h1, if_neg h2]
theorem kn_ne {x : Int32} {K : Nat} (hK : K < 6) (h : x = nI (K + 1)) : ¬ x = 0 := by
  rw [h]
  rcases (show K = 0 ∨ K = 1 ∨ K = 2 ∨ K = 3 ∨ K = 4 ∨ K = 5 by omega) with rfl | rfl | rfl | rfl | rfl | rfl <;> decide
/-- the elements of an operation on sets, as the object's contracts want them and as the reference's do -/
theorem hop_c {K n : Nat} {mo na aa bb : Nat → Int32} {re : Nat → Int64} {ef : Nat → Int32} (h : LOK K n mo na aa bb re ef) (hK : K = 5) : ∀ i, i < n → ∃ x y : Nat, x < 16 ∧ y < 16 ∧ aa i = nI x ∧ bb i = nI y := fun i hi => by
  obtain ⟨⟨a1, a2⟩, b1, b2⟩ := (h.2.2.1 i hi).2 hK
  exact ⟨_, _, a2, b2, a1, b1⟩
theorem hop_m {K n b : Nat} {mo na aa bb ti nm xa xb : Nat → Int32} {re : Nat → Int64} {ef : Nat → Int32} (h : LOK K n mo na aa bb re ef) (hL : LEq n mo na aa bb ti nm xa xb b) (hK : K = 5) : ∀ i, i < n → (xa (b + i) = nI (xa (b + i)).toNatClampNeg ∧ (xa (b + i)).toNatClampNeg < 16) ∧ (xb (b + i) = nI (xb (b + i)).toNatClampNeg ∧ (xb (b + i)).toNatClampNeg < 16) := fun i hi => by
  obtain ⟨-, -, e3, e4⟩ := hL i hi
  rw [e3, e4]
  exact (h.2.2.1 i hi).2 hK
theorem hv_2 {K n : Nat} {mo na aa bb : Nat → Int32} {re : Nat → Int64} {ef : Nat → Int32} (h : LOK K n mo na aa bb re ef) (hK : K = 2) : ∀ p, p < n → (fun u _ _ => u = 1 ∨ u = 2) (na p) (aa p) (bb p) := fun p hp => (h.2.2.1 p hp).1 hK
theorem hv_5 {K n : Nat} {mo na aa bb : Nat → Int32} {re : Nat → Int64} {ef : Nat → Int32} (h : LOK K n mo na aa bb re ef) (hK : K = 5) : ∀ p, p < n → (fun _ x y => x.toNatClampNeg < 16 ∧ y.toNatClampNeg < 16) (na p) (aa p) (bb p) := fun p hp => ⟨((h.2.2.1 p hp).2 hK).1.2, ((h.2.2.1 p hp).2 hK).2.2⟩
/-- a call of the reference that asks alone -/
def MqS (l : Launch) (D : va_G) (cI cJ cZ cO : ClassId) (a : Nat) (y : MethodName) (k : Cond) (rm : Room) (av : List Value) (v : Option Value) (c : Int32) (M : MT) : Prop :=
  ∃ (ma1 : Int32) (it1 vs1 se1 : Nat → Int32) (sm1 : Int64) (rs1 : Nat → Int64) (wk1 : Nat → Int32) (ors1 : Nat → Int64) (owk1 : Nat → Int32), bz wk1 ∧ MS l D cI cJ cZ cO a y k rm av v M (c, M_kn M, M_ed M, M_ct M, M_ti M, M_nm M, M_xa M, M_xb M, ma1, it1, vs1, se1, sm1, rs1, wk1, ors1, owk1)
