/-! edits: results, kinds and what may be put (by wip/whole/gen/ops4.py) -/
theorem RES_0 (n : Nat) (na aa bb : Nat → Int32) (qv : Nat → Int32) (qr : Int64) (qf : Int32) (re0 : Nat → Int64) (ef0 : Nat → Int32) : RES 0 n na aa bb (rdo (fun nm x _ => bgS 2 nm x) na aa bb n 0 ((0, qv), qr, qf) re0 ef0).2.1 (rdo (fun nm x _ => bgS 2 nm x) na aa bb n 0 ((0, qv), qr, qf) re0 ef0).2.2 :=
  ⟨fun _ => ⟨qv, qr, qf, re0, ef0, fun p _ => ⟨rfl, rfl⟩⟩, fun e => absurd e (by decide), fun e => absurd e (by decide), fun e => absurd e (by decide), fun e => absurd e (by decide), fun e => absurd e (by decide)⟩
theorem RES_1 (n : Nat) (na aa bb : Nat → Int32) (qv : Nat → Int32) (qr : Int64) (qf : Int32) (re0 : Nat → Int64) (ef0 : Nat → Int32) : RES 1 n na aa bb (rdo (fun nm x _ => bgS 3 nm x) na aa bb n 0 ((0, qv), qr, qf) re0 ef0).2.1 (rdo (fun nm x _ => bgS 3 nm x) na aa bb n 0 ((0, qv), qr, qf) re0 ef0).2.2 :=
  ⟨fun e => absurd e (by decide), fun _ => ⟨qv, qr, qf, re0, ef0, fun p _ => ⟨rfl, rfl⟩⟩, fun e => absurd e (by decide), fun e => absurd e (by decide), fun e => absurd e (by decide), fun e => absurd e (by decide)⟩
theorem RES_2 (n : Nat) (na aa bb : Nat → Int32) (qk qv : Nat → Int32) (qr : Int64) (qf : Int32) (re0 : Nat → Int64) (ef0 : Nat → Int32) : RES 2 n na aa bb (rdo taS na aa bb n 0 ((0, qk, qv), qr, qf) re0 ef0).2.1 (rdo taS na aa bb n 0 ((0, qk, qv), qr, qf) re0 ef0).2.2 :=
  ⟨fun e => absurd e (by decide), fun e => absurd e (by decide), fun _ => ⟨qk, qv, qr, qf, re0, ef0, fun p _ => ⟨rfl, rfl⟩⟩, fun e => absurd e (by decide), fun e => absurd e (by decide), fun e => absurd e (by decide)⟩
theorem RES_3 (n : Nat) (na aa bb : Nat → Int32) (qv : Nat → Int32) (qr : Int64) (qf : Int32) (re0 : Nat → Int64) (ef0 : Nat → Int32) : RES 3 n na aa bb (rdo (fun nm x _ => bgS 4 nm x) na aa bb n 0 ((0, qv), qr, qf) re0 ef0).2.1 (rdo (fun nm x _ => bgS 4 nm x) na aa bb n 0 ((0, qv), qr, qf) re0 ef0).2.2 :=
  ⟨fun e => absurd e (by decide), fun e => absurd e (by decide), fun e => absurd e (by decide), fun _ => ⟨qv, qr, qf, re0, ef0, fun p _ => ⟨rfl, rfl⟩⟩, fun e => absurd e (by decide), fun e => absurd e (by decide)⟩
theorem RES_4 (n : Nat) (na aa bb : Nat → Int32) (qn : Nat) (qr : Int64) (qf : Int32) (re0 : Nat → Int64) (ef0 : Nat → Int32) : RES 4 n na aa bb (rdo (fun _ x _ => reS x) na aa bb n 0 ((0, qn), qr, qf) re0 ef0).2.1 (rdo (fun _ x _ => reS x) na aa bb n 0 ((0, qn), qr, qf) re0 ef0).2.2 :=
  ⟨fun e => absurd e (by decide), fun e => absurd e (by decide), fun e => absurd e (by decide), fun e => absurd e (by decide), fun _ => ⟨qn, qr, qf, re0, ef0, fun p _ => ⟨rfl, rfl⟩⟩, fun e => absurd e (by decide)⟩
theorem RES_5 (n : Nat) (na aa bb : Nat → Int32) (ql : Nat → Int32) (qr : Int64) (qf : Int32) (re0 : Nat → Int64) (ef0 : Nat → Int32) : RES 5 n na aa bb (rdo (fun _ x y => seS x y) na aa bb n 0 ((16, sal 16 0 ql), qr, qf) re0 ef0).2.1 (rdo (fun _ x y => seS x y) na aa bb n 0 ((16, sal 16 0 ql), qr, qf) re0 ef0).2.2 :=
  ⟨fun e => absurd e (by decide), fun e => absurd e (by decide), fun e => absurd e (by decide), fun e => absurd e (by decide), fun e => absurd e (by decide), fun _ => ⟨ql, qr, qf, re0, ef0, fun p _ => ⟨rfl, rfl⟩⟩⟩
theorem RES_nil (K : Nat) (na aa bb : Nat → Int32) (re : Nat → Int64) (ef : Nat → Int32) : RES K 0 na aa bb re ef :=
  ⟨fun _ => ⟨fun _ => 0, 0, 0, fun _ => 0, fun _ => 0, fun p hp => absurd hp (Nat.not_lt_zero p)⟩, fun _ => ⟨fun _ => 0, 0, 0, fun _ => 0, fun _ => 0, fun p hp => absurd hp (Nat.not_lt_zero p)⟩, fun _ => ⟨fun _ => 0, fun _ => 0, 0, 0, fun _ => 0, fun _ => 0, fun p hp => absurd hp (Nat.not_lt_zero p)⟩, fun _ => ⟨fun _ => 0, 0, 0, fun _ => 0, fun _ => 0, fun p hp => absurd hp (Nat.not_lt_zero p)⟩, fun _ => ⟨0, 0, 0, fun _ => 0, fun _ => 0, fun p hp => absurd hp (Nat.not_lt_zero p)⟩, fun _ => ⟨fun _ => 0, 0, 0, fun _ => 0, fun _ => 0, fun p hp => absurd hp (Nat.not_lt_zero p)⟩⟩
theorem LOK_nil (K : Nat) (mo na aa bb : Nat → Int32) (re : Nat → Int64) (ef : Nat → Int32) : LOK K 0 mo na aa bb re ef :=
  ⟨fun i k _ hk => absurd hk (Nat.not_lt_zero k), fun p hp => absurd hp (Nat.not_lt_zero p), fun p hp => absurd hp (Nat.not_lt_zero p), RES_nil K na aa bb re ef⟩
theorem al_Ba (u x y : Int32) : f_Ba_allows u x y = f_Mo_fits_0 u x y := by
  unfold f_Ba_allows f_Mo_fits_0
  by_cases h1 : y = 0
  · rw [if_pos h1, if_pos h1]
    by_cases h2 : u = 1
    · rw [if_pos h2, if_pos h2]
      by_cases h3 : okV x
      · rw [if_pos h3, if_pos h3]
      · rw [if_neg h3, if_neg h3, if_neg (by rw [h2]; decide)]
    · rw [if_neg h2, if_neg h2]
  · rw [if_neg h1, if_neg h1]
theorem al_Ta (u x y : Int32) : f_Ta_allows u x y = f_Mo_fits_2 u x y := by
  unfold f_Ta_allows f_Mo_fits_2
  by_cases h1 : okV x
  · rw [if_pos h1, if_pos h1]
    by_cases h2 : u = 1
    · rw [if_pos h2, if_pos h2]
      by_cases h3 : okV y
      · rw [if_pos h3, if_pos h3]
      · rw [if_neg h3, if_neg h3, if_neg (by rw [h2]; decide)]
    · rw [if_neg h2, if_neg h2]
  · rw [if_neg h1, if_neg h1]
theorem al_Se (u x y : Int32) : f_Se_allows u x y = f_Mo_fits_5 u x y := by
  unfold f_Se_allows f_Mo_fits_5
  by_cases h1 : u = 1
  · rw [if_pos h1, if_pos h1]
    by_cases h2 : x < 0
    · rw [if_neg (fun h : okE x => h.1 h2), if_pos h2]
    · by_cases h3 : 16 ≤ x
      · rw [if_neg (fun h : okE x => h.2 h3), if_neg h2, if_pos h3]
      · rw [if_pos (show okE x from ⟨h2, h3⟩), if_neg h2, if_neg h3]
        by_cases h4 : y < 0
        · rw [if_neg (fun h : okE y => h.1 h4), if_pos h4]
        · by_cases h5 : 16 ≤ y
          · rw [if_neg (fun h : okE y => h.2 h5), if_neg h4, if_pos h5]
          · rw [if_pos (show okE y from ⟨h4, h5⟩), if_neg h4, if_neg h5]
  · rw [if_neg h1, if_neg h1]
theorem vk_0 (u x y : Int32) : VK 0 u x y := ⟨fun e => absurd e (by decide), fun e => absurd e (by decide)⟩
theorem vk_1 (u x y : Int32) : VK 1 u x y := ⟨fun e => absurd e (by decide), fun e => absurd e (by decide)⟩
theorem vk_3 (u x y : Int32) : VK 3 u x y := ⟨fun e => absurd e (by decide), fun e => absurd e (by decide)⟩
theorem vk_4 (u x y : Int32) : VK 4 u x y := ⟨fun e => absurd e (by decide), fun e => absurd e (by decide)⟩
theorem vk_2 {u x y : Int32} (h : ¬ f_Ta_allows u x y = 0) : VK 2 u x y := by
  refine ⟨fun _ => ?_, fun e => absurd e (by decide)⟩
  by_cases h1 : u = 1
  · exact Or.inl h1
  · by_cases h2 : u = 2
    · exact Or.inr h2
    · exfalso
      apply h
      unfold f_Ta_allows
      by_cases h3 : okV x
      · rw [if_pos h3, if_neg h1, if_neg h2]
      · rw [if_neg h3]
theorem vk_e {x : Int32} (h : okE x) : x = nI x.toNatClampNeg ∧ x.toNatClampNeg < 16 := by
  obtain ⟨k, hk, rfl⟩ := okE_of h
  rw [nI_clamp (show k < 2 ^ 31 by omega)]
  exact ⟨rfl, hk⟩
theorem vk_5 {u x y : Int32} (h : ¬ f_Se_allows u x y = 0) : VK 5 u x y := by
  refine ⟨fun e => absurd e (by decide), fun _ => ?_⟩
  by_cases h1 : u = 1
  · by_cases h2 : okE x
    · by_cases h3 : okE y
      · exact ⟨vk_e h2, vk_e h3⟩
      · exact absurd (by unfold f_Se_allows; rw [if_pos h1, if_pos h2, if_neg h3]) h
    · exact absurd (by unfold f_Se_allows; rw [if_pos h1, if_neg h2]) h
  · exact absurd (by unfold f_Se_allows; rw [if_neg h1]) h
theorem lk_s {kn : Nat → Int32} {j : Nat} {t : Int32} (h : okM t) (h2 : ¬ kn j = 0) : (f_Mo_lacks kn j t).2 = nI 0 := by rw [lk_0 h h2]; rfl
theorem kd_of {u : Int32} (h1 : ¬ u < 0) (h2 : u ≤ 5) : ∃ K : Nat, K < 6 ∧ u = nI K := by
  obtain ⟨k, hk, rfl⟩ := nI_of h1
  refine ⟨k, ?_, rfl⟩
  rcases Nat.lt_or_ge k 6 with h3 | h3
  · exact h3
  · exact absurd (Int32.le_trans (nI_le (a := 6) h3 hk) h2) (by decide)
theorem kn_up {K : Nat} (hK : K < 6) : nI K + 1 = nI (K + 1) := by
  rcases (show K = 0 ∨ K = 1 ∨ K = 2 ∨ K = 3 ∨ K = 4 ∨ K = 5 by omega) with rfl | rfl | rfl | rfl | rfl | rfl <;> rfl
theorem kn_le {x : Int32} {K : Nat} (hK : K < 6) (h : x = nI (K + 1)) : ¬ x ≤ 0 := by
  rw [h]
  rcases (show K = 0 ∨ K = 1 ∨ K = 2 ∨ K = 3 ∨ K = 4 ∨ K = 5 by omega) with rfl | rfl | rfl | rfl | rfl | rfl <;> decide
theorem fin_open {l : Launch} {D : va_G} {cI cJ cZ cO : ClassId} {o : Nat} {C : Nat → CoT} {H : Heap} {M : MT} (hI : Inv C M) {a0 a1 : Int32} {kap : Nat} {c : Int32} (hk : kap ≤ 2) (hcs : CS l D cI cJ cZ cO o y_EP_open k_EP_open rx_EP_open [.ref o, .int a0, .int a1] E_NSE none kap C H) (hm : MqS l D cI cJ cZ cO (o + 74) y_Md_open k_Md_open rm_Md_open [.ref (o + 74), .int a0, .int a1] none c M) (hc : c = nI kap) : OP_open l D cI cJ cZ cO o Inv M H a0 a1 := by
  obtain ⟨ma1, it1, vs1, se1, sm1, rs1, wk1, ors1, owk1, hb, hM⟩ := hm
  exact ⟨kap, C, _, hk, hcs, hM, hc, hb, hI.2⟩
theorem fin_close {l : Launch} {D : va_G} {cI cJ cZ cO : ClassId} {o : Nat} {C : Nat → CoT} {H : Heap} {M : MT} (hI : Inv C M) {a0 : Int32} {kap : Nat} {r r1 c : Int32} (hk : kap ≤ 2) (hcs : CS l D cI cJ cZ cO o y_EP_close k_EP_close rx_EP_close [.ref o, .int a0] E_NSE (some (.int r)) kap C H) (hm : MqS l D cI cJ cZ cO (o + 74) y_Md_close k_Md_close rm_Md_close [.ref (o + 74), .int a0] (some (.int r1)) c M) (hc : c = nI kap) (he : kap = 0 → r = r1) : OP_close l D cI cJ cZ cO o Inv M H a0 := by
  obtain ⟨ma1, it1, vs1, se1, sm1, rs1, wk1, ors1, owk1, hb, hM⟩ := hm
  exact ⟨kap, r, r1, C, _, hk, hcs, hM, hc, he, hb, hI.2⟩
theorem fin_put {l : Launch} {D : va_G} {cI cJ cZ cO : ClassId} {o : Nat} {C : Nat → CoT} {H : Heap} {M : MT} (hI : Inv C M) {a0 a1 a2 a3 a4 : Int32} {kap : Nat} {c : Int32} (hk : kap ≤ 3) (hcs : CS l D cI cJ cZ cO o y_EP_put k_EP_put rx_EP_put [.ref o, .int a0, .int a1, .int a2, .int a3, .int a4] E_UOE none kap C H) (hm : MqS l D cI cJ cZ cO (o + 74) y_Md_put k_Md_put rm_Md_put [.ref (o + 74), .int a0, .int a1, .int a2, .int a3, .int a4] none c M) (hc : c = nI kap) : OP_put l D cI cJ cZ cO o Inv M H a0 a1 a2 a3 a4 := by
  obtain ⟨ma1, it1, vs1, se1, sm1, rs1, wk1, ors1, owk1, hb, hM⟩ := hm
  exact ⟨kap, C, _, hk, hcs, hM, hc, hb, hI.2⟩
theorem fin_strike {l : Launch} {D : va_G} {cI cJ cZ cO : ClassId} {o : Nat} {C : Nat → CoT} {H : Heap} {M : MT} (hI : Inv C M) {a0 a1 : Int32} {kap : Nat} {r r1 c : Int32} (hk : kap ≤ 2) (hcs : CS l D cI cJ cZ cO o y_EP_strike k_EP_strike rx_EP_strike [.ref o, .int a0, .int a1] E_NSE (some (.int r)) kap C H) (hm : MqS l D cI cJ cZ cO (o + 74) y_Md_strike k_Md_strike rm_Md_strike [.ref (o + 74), .int a0, .int a1] (some (.int r1)) c M) (hc : c = nI kap) (hr : r = 0 ∨ r = 1) (he : kap = 0 → r = r1) : OP_strike l D cI cJ cZ cO o Inv M H a0 a1 := by
  obtain ⟨ma1, it1, vs1, se1, sm1, rs1, wk1, ors1, owk1, hb, hM⟩ := hm
  exact ⟨kap, r, r1, C, _, hk, hcs, hM, hc, hr, he, hb, hI.2⟩
theorem fin_shift {l : Launch} {D : va_G} {cI cJ cZ cO : ClassId} {o : Nat} {C : Nat → CoT} {H : Heap} {M : MT} (hI : Inv C M) {a0 a1 a2 : Int32} {kap : Nat} {c : Int32} (hk : kap ≤ 3) (hcs : CS l D cI cJ cZ cO o y_EP_shift k_EP_shift rx_EP_shift [.ref o, .int a0, .int a1, .int a2] E_NSE none kap C H) (hm : MqS l D cI cJ cZ cO (o + 74) y_Md_shift k_Md_shift rm_Md_shift [.ref (o + 74), .int a0, .int a1, .int a2] none c M) (hc : c = nI kap) : OP_shift l D cI cJ cZ cO o Inv M H a0 a1 a2 := by
  obtain ⟨ma1, it1, vs1, se1, sm1, rs1, wk1, ors1, owk1, hb, hM⟩ := hm
  exact ⟨kap, C, _, hk, hcs, hM, hc, hb, hI.2⟩
