/-! the asking calls as steps of both sides (by wip/whole/gen/ops2.py) -/
theorem fin_front {l : Launch} {D : va_G} {cI cJ cZ cO : ClassId} {o : Nat} {C : Nat → CoT} {H : Heap} {M : MT} (hI : Inv C M) {a0 a1 : Int32} {kap : Nat} {r r1 : Int32} {c : Int32} (hk : kap ≤ 3) (hcs : CS l D cI cJ cZ cO o y_EP_front k_EP_front rx_EP_front [.ref o, .int a0, .int a1] E_NSE (some (.int r)) kap C H) (hm : MqS l D cI cJ cZ cO (o + 74) y_Md_front k_Md_front rm_Md_front [.ref (o + 74), .int a0, .int a1] (some (.int r1)) c M) (hc : c = nI kap) (he : kap = 0 → r = r1) : OP_front l D cI cJ cZ cO o Inv M H a0 a1 := by
  obtain ⟨ma1, it1, vs1, se1, sm1, rs1, wk1, ors1, owk1, hb, hM⟩ := hm
  exact ⟨kap, r, r1, C, _, hk, hcs, hM, hc, he, hb, hI.2⟩
theorem op_front (l : Launch) (hlt : l.stackTraces = false) (D : va_G) (cI cJ cZ cO : ClassId) (o : Nat) (C : Nat → CoT) (q : ScT) (H : Heap) (hq : PCq D cI cJ cZ cO o C q H) (M : MT) (hI : Inv C M) (id t : Int32) : OP_front l D cI cJ cZ cO o Inv M H id t := by
  obtain ⟨code, kn, ed, ct, ti, nm, xa, xb, ma, it, vs, se, sm, rs, wk, ors, owk⟩ := M
  have hb : bz wk := hI.1
  by_cases hid : okI id
  · obtain ⟨j, hj, rfl⟩ := okI_of hid
    rcases hc : C j with ⟨kd, ⟨n, mo, na, aa, bb, re, ef⟩, n2, mo2, na2, aa2, bb2, re2, ef2⟩
    have hJ : IJ j (C j) kn ed ct ti nm xa xb := hI.2 j hj
    rw [hc] at hJ
    obtain ⟨hn, hn2, hz, hct, hct2, hJ⟩ := IJ_el hJ
    have hme : ∀ c : Int32, f_Mo_lacks kn j t = (1, c) → MqS l D cI cJ cZ cO (o + 74) y_Md_front k_Md_front rm_Md_front [.ref (o + 74), .int (nI j), .int t] (some (.int 0)) c (code, kn, ed, ct, ti, nm, xa, xb, ma, it, vs, se, sm, rs, wk, ors, owk) := fun c h => ⟨ma, it, vs, se, sm, rs, wk, ors, owk, hb, m_Mo_front_e l D cI cJ cZ cO (o + 74) code kn ed ct ti nm xa xb ma it vs se sm rs wk ors owk j t hj (by rw [h]; show ¬ (1 : Int32) = 0; decide) c (by show (f_Mo_lacks kn j t).2 = c; rw [h])⟩
    have h1 : ¬ okM t → ∀ (kap : Nat) (r : Int32), CS l D cI cJ cZ cO o y_EP_front k_EP_front rx_EP_front [.ref o, .int (nI j), .int t] E_NSE (some (.int r)) kap C H → kap = 1 → OP_front l D cI cJ cZ cO o Inv (code, kn, ed, ct, ti, nm, xa, xb, ma, it, vs, se, sm, rs, wk, ors, owk) H (nI j) t := fun ht kap r hcs e => fin_front hI (by omega) hcs (hme 1 (lk_1 ht)) (by rw [e]; rfl) (fun h => absurd h (by omega))
    by_cases ht : okM t
    · rcases hJ with ⟨rfl, hk0⟩ | ⟨K, hK, rfl, hkn, hL, hL2, hO, hO2, hed⟩
      · have e : (f_EP_front_c t).1 = 2 := by unfold f_EP_front_c; rw [if_pos ht]
        exact fin_front hI (by omega) (cs_front_c l hlt D cI cJ cZ cO o C q H hq j n mo na aa bb re ef n2 mo2 na2 aa2 bb2 re2 ef2 t hj hc) (hme 2 (lk_2 ht hk0)) (by rw [e]; rfl) (fun h => absurd h (by omega))
      · have hlk : (f_Mo_lacks kn j t).1 = 0 := by rw [lk_0 ht (kn_ne hK hkn)]
        rcases (show K = 0 ∨ K = 1 ∨ K = 2 ∨ K = 3 ∨ K = 4 ∨ K = 5 by omega) with rfl | rfl | rfl | rfl | rfl | rfl
        · obtain ⟨p1, p2, p3, p4⟩ := pq_front_0 (it := it) (vs := vs) (se := se) (rs := rs) (qv := q.1.2.1) (qr := q.1.2.2.1) (qf := q.1.2.2.2) hn hL hO ht hb
          exact fin_front hI p1 (cs_front_0 l hlt D cI cJ cZ cO o C q H hq j n mo na aa bb re ef n2 mo2 na2 aa2 bb2 re2 ef2 t hj hn hc) ⟨_, _, _, _, _, _, _, _, _, p4, m_Mo_front_0 l D cI cJ cZ cO (o + 74) code kn ed ct ti nm xa xb ma it vs se sm rs wk ors owk n j t hj hlk hkn hct hn _ rfl⟩ p2 p3
        · obtain ⟨p1, p2, p3, p4⟩ := pq_front_1 (it := it) (vs := vs) (se := se) (rs := rs) (qv := q.2.1.2.1) (qr := q.2.1.2.2.1) (qf := q.2.1.2.2.2) hn hL hO ht hb
          exact fin_front hI p1 (cs_front_1 l hlt D cI cJ cZ cO o C q H hq j n mo na aa bb re ef n2 mo2 na2 aa2 bb2 re2 ef2 t hj hn hc) ⟨_, _, _, _, _, _, _, _, _, p4, m_Mo_front_1 l D cI cJ cZ cO (o + 74) code kn ed ct ti nm xa xb ma it vs se sm rs wk ors owk n j t hj hlk hkn hct hn _ rfl⟩ p2 p3
        · have e : (f_EP_front_w t).1 = 2 := by unfold f_EP_front_w; rw [if_pos ht]
          exact fin_front hI (by omega) (cs_front_w l hlt D cI cJ cZ cO o C q H hq j _ n mo na aa bb re ef n2 mo2 na2 aa2 bb2 re2 ef2 t hj (by decide) (by decide) (by decide) hc) ⟨ma, it, vs, se, sm, rs, wk, ors, owk, hb, m_Mo_front_w l D cI cJ cZ cO (o + 74) code kn ed ct ti nm xa xb ma it vs se sm rs wk ors owk j t hj hlk (by rw [hkn]; decide) () rfl⟩ (by rw [e]; rfl) (fun h => absurd h (by omega))
        · have e : (f_EP_front_w t).1 = 2 := by unfold f_EP_front_w; rw [if_pos ht]
          exact fin_front hI (by omega) (cs_front_w l hlt D cI cJ cZ cO o C q H hq j _ n mo na aa bb re ef n2 mo2 na2 aa2 bb2 re2 ef2 t hj (by decide) (by decide) (by decide) hc) ⟨ma, it, vs, se, sm, rs, wk, ors, owk, hb, m_Mo_front_w l D cI cJ cZ cO (o + 74) code kn ed ct ti nm xa xb ma it vs se sm rs wk ors owk j t hj hlk (by rw [hkn]; decide) () rfl⟩ (by rw [e]; rfl) (fun h => absurd h (by omega))
        · have e : (f_EP_front_w t).1 = 2 := by unfold f_EP_front_w; rw [if_pos ht]
          exact fin_front hI (by omega) (cs_front_w l hlt D cI cJ cZ cO o C q H hq j _ n mo na aa bb re ef n2 mo2 na2 aa2 bb2 re2 ef2 t hj (by decide) (by decide) (by decide) hc) ⟨ma, it, vs, se, sm, rs, wk, ors, owk, hb, m_Mo_front_w l D cI cJ cZ cO (o + 74) code kn ed ct ti nm xa xb ma it vs se sm rs wk ors owk j t hj hlk (by rw [hkn]; decide) () rfl⟩ (by rw [e]; rfl) (fun h => absurd h (by omega))
        · have e : (f_EP_front_w t).1 = 2 := by unfold f_EP_front_w; rw [if_pos ht]
          exact fin_front hI (by omega) (cs_front_w l hlt D cI cJ cZ cO o C q H hq j _ n mo na aa bb re ef n2 mo2 na2 aa2 bb2 re2 ef2 t hj (by decide) (by decide) (by decide) hc) ⟨ma, it, vs, se, sm, rs, wk, ors, owk, hb, m_Mo_front_w l D cI cJ cZ cO (o + 74) code kn ed ct ti nm xa xb ma it vs se sm rs wk ors owk j t hj hlk (by rw [hkn]; decide) () rfl⟩ (by rw [e]; rfl) (fun h => absurd h (by omega))
    · rcases hJ with ⟨rfl, hk0⟩ | ⟨K, hK, rfl, hkn, hL, hL2, hO, hO2, hed⟩
      · exact h1 ht _ _ (cs_front_c l hlt D cI cJ cZ cO o C q H hq j n mo na aa bb re ef n2 mo2 na2 aa2 bb2 re2 ef2 t hj hc) (by unfold f_EP_front_c; rw [if_neg ht])
      · rcases (show K = 0 ∨ K = 1 ∨ K = 2 ∨ K = 3 ∨ K = 4 ∨ K = 5 by omega) with rfl | rfl | rfl | rfl | rfl | rfl
        · exact h1 ht _ _ (cs_front_0 l hlt D cI cJ cZ cO o C q H hq j n mo na aa bb re ef n2 mo2 na2 aa2 bb2 re2 ef2 t hj hn hc) (by unfold f_EP_front_0; rw [if_neg ht])
        · exact h1 ht _ _ (cs_front_1 l hlt D cI cJ cZ cO o C q H hq j n mo na aa bb re ef n2 mo2 na2 aa2 bb2 re2 ef2 t hj hn hc) (by unfold f_EP_front_1; rw [if_neg ht])
        · exact h1 ht _ _ (cs_front_w l hlt D cI cJ cZ cO o C q H hq j _ n mo na aa bb re ef n2 mo2 na2 aa2 bb2 re2 ef2 t hj (by decide) (by decide) (by decide) hc) (by unfold f_EP_front_w; rw [if_neg ht])
        · exact h1 ht _ _ (cs_front_w l hlt D cI cJ cZ cO o C q H hq j _ n mo na aa bb re ef n2 mo2 na2 aa2 bb2 re2 ef2 t hj (by decide) (by decide) (by decide) hc) (by unfold f_EP_front_w; rw [if_neg ht])
        · exact h1 ht _ _ (cs_front_w l hlt D cI cJ cZ cO o C q H hq j _ n mo na aa bb re ef n2 mo2 na2 aa2 bb2 re2 ef2 t hj (by decide) (by decide) (by decide) hc) (by unfold f_EP_front_w; rw [if_neg ht])
        · exact h1 ht _ _ (cs_front_w l hlt D cI cJ cZ cO o C q H hq j _ n mo na aa bb re ef n2 mo2 na2 aa2 bb2 re2 ef2 t hj (by decide) (by decide) (by decide) hc) (by unfold f_EP_front_w; rw [if_neg ht])
  · have e : (f_EP_front_b t).1 = 1 := by unfold f_EP_front_b; split <;> rfl
    exact fin_front hI (by omega) (cs_front_b l hlt D cI cJ cZ cO o C q H hq id t hid) ⟨ma, it, vs, se, sm, rs, wk, ors, owk, hb, m_Mo_front_b l D cI cJ cZ cO (o + 74) code kn ed ct ti nm xa xb ma it vs se sm rs wk ors owk id t hid 1 rfl⟩ (by rw [e]; rfl) (fun h => absurd h (by omega))
theorem fin_size {l : Launch} {D : va_G} {cI cJ cZ cO : ClassId} {o : Nat} {C : Nat → CoT} {H : Heap} {M : MT} (hI : Inv C M) {a0 a1 : Int32} {kap : Nat} {r r1 : Int32} {c : Int32} (hk : kap ≤ 2) (hcs : CS l D cI cJ cZ cO o y_EP_size k_EP_size rx_EP_size [.ref o, .int a0, .int a1] E_NSE (some (.int r)) kap C H) (hm : MqS l D cI cJ cZ cO (o + 74) y_Md_size k_Md_size rm_Md_size [.ref (o + 74), .int a0, .int a1] (some (.int r1)) c M) (hc : c = nI kap) (he : kap = 0 → r = r1) : OP_size l D cI cJ cZ cO o Inv M H a0 a1 := by
  obtain ⟨ma1, it1, vs1, se1, sm1, rs1, wk1, ors1, owk1, hb, hM⟩ := hm
  exact ⟨kap, r, r1, C, _, hk, hcs, hM, hc, he, hb, hI.2⟩
theorem op_size (l : Launch) (hlt : l.stackTraces = false) (D : va_G) (cI cJ cZ cO : ClassId) (o : Nat) (C : Nat → CoT) (q : ScT) (H : Heap) (hq : PCq D cI cJ cZ cO o C q H) (M : MT) (hI : Inv C M) (id t : Int32) : OP_size l D cI cJ cZ cO o Inv M H id t := by
  obtain ⟨code, kn, ed, ct, ti, nm, xa, xb, ma, it, vs, se, sm, rs, wk, ors, owk⟩ := M
  have hb : bz wk := hI.1
  by_cases hid : okI id
  · obtain ⟨j, hj, rfl⟩ := okI_of hid
    rcases hc : C j with ⟨kd, ⟨n, mo, na, aa, bb, re, ef⟩, n2, mo2, na2, aa2, bb2, re2, ef2⟩
    have hJ : IJ j (C j) kn ed ct ti nm xa xb := hI.2 j hj
    rw [hc] at hJ
    obtain ⟨hn, hn2, hz, hct, hct2, hJ⟩ := IJ_el hJ
    have hme : ∀ c : Int32, f_Mo_lacks kn j t = (1, c) → MqS l D cI cJ cZ cO (o + 74) y_Md_size k_Md_size rm_Md_size [.ref (o + 74), .int (nI j), .int t] (some (.int 0)) c (code, kn, ed, ct, ti, nm, xa, xb, ma, it, vs, se, sm, rs, wk, ors, owk) := fun c h => ⟨ma, it, vs, se, sm, rs, wk, ors, owk, hb, m_Mo_size_e l D cI cJ cZ cO (o + 74) code kn ed ct ti nm xa xb ma it vs se sm rs wk ors owk j t hj (by rw [h]; show ¬ (1 : Int32) = 0; decide) c (by show (f_Mo_lacks kn j t).2 = c; rw [h])⟩
    have h1 : ¬ okM t → ∀ (kap : Nat) (r : Int32), CS l D cI cJ cZ cO o y_EP_size k_EP_size rx_EP_size [.ref o, .int (nI j), .int t] E_NSE (some (.int r)) kap C H → kap = 1 → OP_size l D cI cJ cZ cO o Inv (code, kn, ed, ct, ti, nm, xa, xb, ma, it, vs, se, sm, rs, wk, ors, owk) H (nI j) t := fun ht kap r hcs e => fin_size hI (by omega) hcs (hme 1 (lk_1 ht)) (by rw [e]; rfl) (fun h => absurd h (by omega))
    by_cases ht : okM t
    · rcases hJ with ⟨rfl, hk0⟩ | ⟨K, hK, rfl, hkn, hL, hL2, hO, hO2, hed⟩
      · have e : (f_EP_size_c t).1 = 2 := by unfold f_EP_size_c; rw [if_pos ht]
        exact fin_size hI (by omega) (cs_size_c l hlt D cI cJ cZ cO o C q H hq j n mo na aa bb re ef n2 mo2 na2 aa2 bb2 re2 ef2 t hj hc) (hme 2 (lk_2 ht hk0)) (by rw [e]; rfl) (fun h => absurd h (by omega))
      · have hlk : (f_Mo_lacks kn j t).1 = 0 := by rw [lk_0 ht (kn_ne hK hkn)]
        rcases (show K = 0 ∨ K = 1 ∨ K = 2 ∨ K = 3 ∨ K = 4 ∨ K = 5 by omega) with rfl | rfl | rfl | rfl | rfl | rfl
        · obtain ⟨p1, p2, p4⟩ := pq_size_0 (it := it) (vs := vs) (se := se) (rs := rs) (qv := q.1.2.1) (qr := q.1.2.2.1) (qf := q.1.2.2.2) hn hL hO ht hb
          exact fin_size hI (by omega) (cs_size_0 l hlt D cI cJ cZ cO o C q H hq j n mo na aa bb re ef n2 mo2 na2 aa2 bb2 re2 ef2 t hj hn hc) ⟨_, _, _, _, _, _, _, _, _, p4, m_Mo_size_0 l D cI cJ cZ cO (o + 74) code kn ed ct ti nm xa xb ma it vs se sm rs wk ors owk n j t hj hlk hkn hct hn _ rfl⟩ (by rw [p1]; rfl) (fun _ => by rw [p2])
        · obtain ⟨p1, p2, p4⟩ := pq_size_1 (it := it) (vs := vs) (se := se) (rs := rs) (qv := q.2.1.2.1) (qr := q.2.1.2.2.1) (qf := q.2.1.2.2.2) hn hL hO ht hb
          exact fin_size hI (by omega) (cs_size_1 l hlt D cI cJ cZ cO o C q H hq j n mo na aa bb re ef n2 mo2 na2 aa2 bb2 re2 ef2 t hj hn hc) ⟨_, _, _, _, _, _, _, _, _, p4, m_Mo_size_1 l D cI cJ cZ cO (o + 74) code kn ed ct ti nm xa xb ma it vs se sm rs wk ors owk n j t hj hlk hkn hct hn _ rfl⟩ (by rw [p1]; rfl) (fun _ => by rw [p2])
        · obtain ⟨p1, p2, p4⟩ := pq_size_2 (it := it) (vs := vs) (se := se) (rs := rs) (qk := q.2.2.1.2.1) (qv := q.2.2.1.2.2.1) (qr := q.2.2.1.2.2.2.1) (qf := q.2.2.1.2.2.2.2) hn hL hO ht hb
          exact fin_size hI (by omega) (cs_size_2 l hlt D cI cJ cZ cO o C q H hq j n mo na aa bb re ef n2 mo2 na2 aa2 bb2 re2 ef2 t hj hn hc) ⟨_, _, _, _, _, _, _, _, _, p4, m_Mo_size_2 l D cI cJ cZ cO (o + 74) code kn ed ct ti nm xa xb ma it vs se sm rs wk ors owk n j t hj hlk hkn hct hn _ rfl⟩ (by rw [p1]; rfl) (fun _ => by rw [p2])
        · obtain ⟨p1, p2, p4⟩ := pq_size_3 (it := it) (vs := vs) (se := se) (rs := rs) (qv := q.2.2.2.1.2.1) (qr := q.2.2.2.1.2.2.1) (qf := q.2.2.2.1.2.2.2) hn hL hO ht hb
          exact fin_size hI (by omega) (cs_size_3 l hlt D cI cJ cZ cO o C q H hq j n mo na aa bb re ef n2 mo2 na2 aa2 bb2 re2 ef2 t hj hn hc) ⟨_, _, _, _, _, _, _, _, _, p4, m_Mo_size_3 l D cI cJ cZ cO (o + 74) code kn ed ct ti nm xa xb ma it vs se sm rs wk ors owk n j t hj hlk hkn hct hn _ rfl⟩ (by rw [p1]; rfl) (fun _ => by rw [p2])
        · have e : (f_EP_size_w t).1 = 2 := by unfold f_EP_size_w; rw [if_pos ht]
          exact fin_size hI (by omega) (cs_size_w l hlt D cI cJ cZ cO o C q H hq j n mo na aa bb re ef n2 mo2 na2 aa2 bb2 re2 ef2 t hj hc) ⟨ma, it, vs, se, sm, rs, wk, ors, owk, hb, m_Mo_size_w l D cI cJ cZ cO (o + 74) code kn ed ct ti nm xa xb ma it vs se sm rs wk ors owk j t hj hlk (by rw [hkn]; decide) () rfl⟩ (by rw [e]; rfl) (fun h => absurd h (by omega))
        · obtain ⟨p1, p2, p4⟩ := pq_size_5 (it := it) (vs := vs) (se := se) (rs := rs) (ql := q.2.2.2.2.2.2.1) (qr := q.2.2.2.2.2.2.2.1) (qf := q.2.2.2.2.2.2.2.2) hn hL hO ht hb
          exact fin_size hI (by omega) (cs_size_5 l hlt D cI cJ cZ cO o C q H hq j n mo na aa bb re ef n2 mo2 na2 aa2 bb2 re2 ef2 t hj hn (hop_c hO rfl) hc) ⟨_, _, _, _, _, _, _, _, _, p4, m_Mo_size_5 l D cI cJ cZ cO (o + 74) code kn ed ct ti nm xa xb ma it vs se sm rs wk ors owk n j t hj hlk hkn hct hn (hop_m hO hL rfl) _ rfl⟩ (by rw [p1]; rfl) (fun _ => p2)
    · rcases hJ with ⟨rfl, hk0⟩ | ⟨K, hK, rfl, hkn, hL, hL2, hO, hO2, hed⟩
      · exact h1 ht _ _ (cs_size_c l hlt D cI cJ cZ cO o C q H hq j n mo na aa bb re ef n2 mo2 na2 aa2 bb2 re2 ef2 t hj hc) (by unfold f_EP_size_c; rw [if_neg ht])
      · rcases (show K = 0 ∨ K = 1 ∨ K = 2 ∨ K = 3 ∨ K = 4 ∨ K = 5 by omega) with rfl | rfl | rfl | rfl | rfl | rfl
        · exact h1 ht _ _ (cs_size_0 l hlt D cI cJ cZ cO o C q H hq j n mo na aa bb re ef n2 mo2 na2 aa2 bb2 re2 ef2 t hj hn hc) (by unfold f_EP_size_0; rw [if_neg ht])
        · exact h1 ht _ _ (cs_size_1 l hlt D cI cJ cZ cO o C q H hq j n mo na aa bb re ef n2 mo2 na2 aa2 bb2 re2 ef2 t hj hn hc) (by unfold f_EP_size_1; rw [if_neg ht])
        · exact h1 ht _ _ (cs_size_2 l hlt D cI cJ cZ cO o C q H hq j n mo na aa bb re ef n2 mo2 na2 aa2 bb2 re2 ef2 t hj hn hc) (by unfold f_EP_size_2; rw [if_neg ht])
        · exact h1 ht _ _ (cs_size_3 l hlt D cI cJ cZ cO o C q H hq j n mo na aa bb re ef n2 mo2 na2 aa2 bb2 re2 ef2 t hj hn hc) (by unfold f_EP_size_3; rw [if_neg ht])
        · exact h1 ht _ _ (cs_size_w l hlt D cI cJ cZ cO o C q H hq j n mo na aa bb re ef n2 mo2 na2 aa2 bb2 re2 ef2 t hj hc) (by unfold f_EP_size_w; rw [if_neg ht])
        · exact h1 ht _ _ (cs_size_5 l hlt D cI cJ cZ cO o C q H hq j n mo na aa bb re ef n2 mo2 na2 aa2 bb2 re2 ef2 t hj hn (hop_c hO rfl) hc) (by unfold f_EP_size_5; rw [if_neg ht])
  · have e : (f_EP_size_b t).1 = 1 := by unfold f_EP_size_b; split <;> rfl
    exact fin_size hI (by omega) (cs_size_b l hlt D cI cJ cZ cO o C q H hq id t hid) ⟨ma, it, vs, se, sm, rs, wk, ors, owk, hb, m_Mo_size_b l D cI cJ cZ cO (o + 74) code kn ed ct ti nm xa xb ma it vs se sm rs wk ors owk id t hid 1 rfl⟩ (by rw [e]; rfl) (fun h => absurd h (by omega))
theorem fin_at {l : Launch} {D : va_G} {cI cJ cZ cO : ClassId} {o : Nat} {C : Nat → CoT} {H : Heap} {M : MT} (hI : Inv C M) {a0 a1 a2 : Int32} {kap : Nat} {r r1 : Int32} {c : Int32} (hk : kap ≤ 3) (hcs : CS l D cI cJ cZ cO o y_EP_at k_EP_at rx_EP_at [.ref o, .int a0, .int a1, .int a2] E_NSE (some (.int r)) kap C H) (hm : MqS l D cI cJ cZ cO (o + 74) y_Md_at k_Md_at rm_Md_at [.ref (o + 74), .int a0, .int a1, .int a2] (some (.int r1)) c M) (hc : c = nI kap) (he : kap = 0 → r = r1) : OP_at l D cI cJ cZ cO o Inv M H a0 a1 a2 := by
  obtain ⟨ma1, it1, vs1, se1, sm1, rs1, wk1, ors1, owk1, hb, hM⟩ := hm
  exact ⟨kap, r, r1, C, _, hk, hcs, hM, hc, he, hb, hI.2⟩
theorem op_at (l : Launch) (hlt : l.stackTraces = false) (D : va_G) (cI cJ cZ cO : ClassId) (o : Nat) (C : Nat → CoT) (q : ScT) (H : Heap) (hq : PCq D cI cJ cZ cO o C q H) (M : MT) (hI : Inv C M) (id t x : Int32) : OP_at l D cI cJ cZ cO o Inv M H id t x := by
  obtain ⟨code, kn, ed, ct, ti, nm, xa, xb, ma, it, vs, se, sm, rs, wk, ors, owk⟩ := M
  have hb : bz wk := hI.1
  by_cases hid : okI id
  · obtain ⟨j, hj, rfl⟩ := okI_of hid
    rcases hc : C j with ⟨kd, ⟨n, mo, na, aa, bb, re, ef⟩, n2, mo2, na2, aa2, bb2, re2, ef2⟩
    have hJ : IJ j (C j) kn ed ct ti nm xa xb := hI.2 j hj
    rw [hc] at hJ
    obtain ⟨hn, hn2, hz, hct, hct2, hJ⟩ := IJ_el hJ
    have hme : ∀ c : Int32, f_Mo_lacks kn j t = (1, c) → MqS l D cI cJ cZ cO (o + 74) y_Md_at k_Md_at rm_Md_at [.ref (o + 74), .int (nI j), .int t, .int x] (some (.int 0)) c (code, kn, ed, ct, ti, nm, xa, xb, ma, it, vs, se, sm, rs, wk, ors, owk) := fun c h => ⟨ma, it, vs, se, sm, rs, wk, ors, owk, hb, m_Mo_at_e l D cI cJ cZ cO (o + 74) code kn ed ct ti nm xa xb ma it vs se sm rs wk ors owk j t x hj (by rw [h]; show ¬ (1 : Int32) = 0; decide) c (by show (f_Mo_lacks kn j t).2 = c; rw [h])⟩
    have h1 : ¬ okM t → ∀ (kap : Nat) (r : Int32), CS l D cI cJ cZ cO o y_EP_at k_EP_at rx_EP_at [.ref o, .int (nI j), .int t, .int x] E_NSE (some (.int r)) kap C H → kap = 1 → OP_at l D cI cJ cZ cO o Inv (code, kn, ed, ct, ti, nm, xa, xb, ma, it, vs, se, sm, rs, wk, ors, owk) H (nI j) t x := fun ht kap r hcs e => fin_at hI (by omega) hcs (hme 1 (lk_1 ht)) (by rw [e]; rfl) (fun h => absurd h (by omega))
    by_cases ht : okM t
    · rcases hJ with ⟨rfl, hk0⟩ | ⟨K, hK, rfl, hkn, hL, hL2, hO, hO2, hed⟩
      · have e : (f_EP_at_c t).1 = 2 := by unfold f_EP_at_c; rw [if_pos ht]
        exact fin_at hI (by omega) (cs_at_c l hlt D cI cJ cZ cO o C q H hq j n mo na aa bb re ef n2 mo2 na2 aa2 bb2 re2 ef2 t x hj hc) (hme 2 (lk_2 ht hk0)) (by rw [e]; rfl) (fun h => absurd h (by omega))
      · have hlk : (f_Mo_lacks kn j t).1 = 0 := by rw [lk_0 ht (kn_ne hK hkn)]
        rcases (show K = 0 ∨ K = 1 ∨ K = 2 ∨ K = 3 ∨ K = 4 ∨ K = 5 by omega) with rfl | rfl | rfl | rfl | rfl | rfl
        · have e : (f_EP_at_w t).1 = 2 := by unfold f_EP_at_w; rw [if_pos ht]
          exact fin_at hI (by omega) (cs_at_w l hlt D cI cJ cZ cO o C q H hq j _ n mo na aa bb re ef n2 mo2 na2 aa2 bb2 re2 ef2 t x hj (by decide) (by decide) hc) ⟨ma, it, vs, se, sm, rs, wk, ors, owk, hb, m_Mo_at_w l D cI cJ cZ cO (o + 74) code kn ed ct ti nm xa xb ma it vs se sm rs wk ors owk j t x hj hlk (by rw [hkn]; decide) () rfl⟩ (by rw [e]; rfl) (fun h => absurd h (by omega))
        · have e : (f_EP_at_w t).1 = 2 := by unfold f_EP_at_w; rw [if_pos ht]
          exact fin_at hI (by omega) (cs_at_w l hlt D cI cJ cZ cO o C q H hq j _ n mo na aa bb re ef n2 mo2 na2 aa2 bb2 re2 ef2 t x hj (by decide) (by decide) hc) ⟨ma, it, vs, se, sm, rs, wk, ors, owk, hb, m_Mo_at_w l D cI cJ cZ cO (o + 74) code kn ed ct ti nm xa xb ma it vs se sm rs wk ors owk j t x hj hlk (by rw [hkn]; decide) () rfl⟩ (by rw [e]; rfl) (fun h => absurd h (by omega))
        · obtain ⟨p1, p2, p3, p4⟩ := pq_at_2 (it := it) (vs := vs) (se := se) (rs := rs) (qk := q.2.2.1.2.1) (qv := q.2.2.1.2.2.1) (qr := q.2.2.1.2.2.2.1) (qf := q.2.2.1.2.2.2.2) hn hL hO ht hb
          exact fin_at hI p1 (cs_at_2 l hlt D cI cJ cZ cO o C q H hq j n mo na aa bb re ef n2 mo2 na2 aa2 bb2 re2 ef2 t x hj hn hc) ⟨_, _, _, _, _, _, _, _, _, p4, m_Mo_at_2 l D cI cJ cZ cO (o + 74) code kn ed ct ti nm xa xb ma it vs se sm rs wk ors owk n j t x hj hlk hkn hct hn _ rfl⟩ p2 p3
        · have e : (f_EP_at_w t).1 = 2 := by unfold f_EP_at_w; rw [if_pos ht]
          exact fin_at hI (by omega) (cs_at_w l hlt D cI cJ cZ cO o C q H hq j _ n mo na aa bb re ef n2 mo2 na2 aa2 bb2 re2 ef2 t x hj (by decide) (by decide) hc) ⟨ma, it, vs, se, sm, rs, wk, ors, owk, hb, m_Mo_at_w l D cI cJ cZ cO (o + 74) code kn ed ct ti nm xa xb ma it vs se sm rs wk ors owk j t x hj hlk (by rw [hkn]; decide) () rfl⟩ (by rw [e]; rfl) (fun h => absurd h (by omega))
        · have e : (f_EP_at_w t).1 = 2 := by unfold f_EP_at_w; rw [if_pos ht]
          exact fin_at hI (by omega) (cs_at_w l hlt D cI cJ cZ cO o C q H hq j _ n mo na aa bb re ef n2 mo2 na2 aa2 bb2 re2 ef2 t x hj (by decide) (by decide) hc) ⟨ma, it, vs, se, sm, rs, wk, ors, owk, hb, m_Mo_at_w l D cI cJ cZ cO (o + 74) code kn ed ct ti nm xa xb ma it vs se sm rs wk ors owk j t x hj hlk (by rw [hkn]; decide) () rfl⟩ (by rw [e]; rfl) (fun h => absurd h (by omega))
        · have e : (f_EP_at_w t).1 = 2 := by unfold f_EP_at_w; rw [if_pos ht]
          exact fin_at hI (by omega) (cs_at_w l hlt D cI cJ cZ cO o C q H hq j _ n mo na aa bb re ef n2 mo2 na2 aa2 bb2 re2 ef2 t x hj (by decide) (by decide) hc) ⟨ma, it, vs, se, sm, rs, wk, ors, owk, hb, m_Mo_at_w l D cI cJ cZ cO (o + 74) code kn ed ct ti nm xa xb ma it vs se sm rs wk ors owk j t x hj hlk (by rw [hkn]; decide) () rfl⟩ (by rw [e]; rfl) (fun h => absurd h (by omega))
    · rcases hJ with ⟨rfl, hk0⟩ | ⟨K, hK, rfl, hkn, hL, hL2, hO, hO2, hed⟩
      · exact h1 ht _ _ (cs_at_c l hlt D cI cJ cZ cO o C q H hq j n mo na aa bb re ef n2 mo2 na2 aa2 bb2 re2 ef2 t x hj hc) (by unfold f_EP_at_c; rw [if_neg ht])
      · rcases (show K = 0 ∨ K = 1 ∨ K = 2 ∨ K = 3 ∨ K = 4 ∨ K = 5 by omega) with rfl | rfl | rfl | rfl | rfl | rfl
        · exact h1 ht _ _ (cs_at_w l hlt D cI cJ cZ cO o C q H hq j _ n mo na aa bb re ef n2 mo2 na2 aa2 bb2 re2 ef2 t x hj (by decide) (by decide) hc) (by unfold f_EP_at_w; rw [if_neg ht])
        · exact h1 ht _ _ (cs_at_w l hlt D cI cJ cZ cO o C q H hq j _ n mo na aa bb re ef n2 mo2 na2 aa2 bb2 re2 ef2 t x hj (by decide) (by decide) hc) (by unfold f_EP_at_w; rw [if_neg ht])
        · exact h1 ht _ _ (cs_at_2 l hlt D cI cJ cZ cO o C q H hq j n mo na aa bb re ef n2 mo2 na2 aa2 bb2 re2 ef2 t x hj hn hc) (by unfold f_EP_at_2; rw [if_neg ht])
        · exact h1 ht _ _ (cs_at_w l hlt D cI cJ cZ cO o C q H hq j _ n mo na aa bb re ef n2 mo2 na2 aa2 bb2 re2 ef2 t x hj (by decide) (by decide) hc) (by unfold f_EP_at_w; rw [if_neg ht])
        · exact h1 ht _ _ (cs_at_w l hlt D cI cJ cZ cO o C q H hq j _ n mo na aa bb re ef n2 mo2 na2 aa2 bb2 re2 ef2 t x hj (by decide) (by decide) hc) (by unfold f_EP_at_w; rw [if_neg ht])
        · exact h1 ht _ _ (cs_at_w l hlt D cI cJ cZ cO o C q H hq j _ n mo na aa bb re ef n2 mo2 na2 aa2 bb2 re2 ef2 t x hj (by decide) (by decide) hc) (by unfold f_EP_at_w; rw [if_neg ht])
  · have e : (f_EP_at_b t).1 = 1 := by unfold f_EP_at_b; split <;> rfl
    exact fin_at hI (by omega) (cs_at_b l hlt D cI cJ cZ cO o C q H hq id t x hid) ⟨ma, it, vs, se, sm, rs, wk, ors, owk, hb, m_Mo_at_b l D cI cJ cZ cO (o + 74) code kn ed ct ti nm xa xb ma it vs se sm rs wk ors owk id t x hid 1 rfl⟩ (by rw [e]; rfl) (fun h => absurd h (by omega))
theorem fin_sum {l : Launch} {D : va_G} {cI cJ cZ cO : ClassId} {o : Nat} {C : Nat → CoT} {H : Heap} {M : MT} (hI : Inv C M) {a0 a1 : Int32} {kap : Nat} {r r1 : Int64} {c : Int32} (hk : kap ≤ 2) (hcs : CS l D cI cJ cZ cO o y_EP_sum k_EP_sum rx_EP_sum [.ref o, .int a0, .int a1] E_NSE (some (.long r)) kap C H) (hm : MqS l D cI cJ cZ cO (o + 74) y_Md_sum k_Md_sum rm_Md_sum [.ref (o + 74), .int a0, .int a1] (some (.long r1)) c M) (hc : c = nI kap) (he : kap = 0 → r = r1) : OP_sum l D cI cJ cZ cO o Inv M H a0 a1 := by
  obtain ⟨ma1, it1, vs1, se1, sm1, rs1, wk1, ors1, owk1, hb, hM⟩ := hm
  exact ⟨kap, r, r1, C, _, hk, hcs, hM, hc, he, hb, hI.2⟩
theorem op_sum (l : Launch) (hlt : l.stackTraces = false) (D : va_G) (cI cJ cZ cO : ClassId) (o : Nat) (C : Nat → CoT) (q : ScT) (H : Heap) (hq : PCq D cI cJ cZ cO o C q H) (M : MT) (hI : Inv C M) (id t : Int32) : OP_sum l D cI cJ cZ cO o Inv M H id t := by
  obtain ⟨code, kn, ed, ct, ti, nm, xa, xb, ma, it, vs, se, sm, rs, wk, ors, owk⟩ := M
  have hb : bz wk := hI.1
  by_cases hid : okI id
  · obtain ⟨j, hj, rfl⟩ := okI_of hid
    rcases hc : C j with ⟨kd, ⟨n, mo, na, aa, bb, re, ef⟩, n2, mo2, na2, aa2, bb2, re2, ef2⟩
    have hJ : IJ j (C j) kn ed ct ti nm xa xb := hI.2 j hj
    rw [hc] at hJ
    obtain ⟨hn, hn2, hz, hct, hct2, hJ⟩ := IJ_el hJ
    have hme : ∀ c : Int32, f_Mo_lacks kn j t = (1, c) → MqS l D cI cJ cZ cO (o + 74) y_Md_sum k_Md_sum rm_Md_sum [.ref (o + 74), .int (nI j), .int t] (some (.long 0)) c (code, kn, ed, ct, ti, nm, xa, xb, ma, it, vs, se, sm, rs, wk, ors, owk) := fun c h => ⟨ma, it, vs, se, sm, rs, wk, ors, owk, hb, m_Mo_sum_e l D cI cJ cZ cO (o + 74) code kn ed ct ti nm xa xb ma it vs se sm rs wk ors owk j t hj (by rw [h]; show ¬ (1 : Int32) = 0; decide) c (by show (f_Mo_lacks kn j t).2 = c; rw [h])⟩
    have h1 : ¬ okM t → ∀ (kap : Nat) (r : Int64), CS l D cI cJ cZ cO o y_EP_sum k_EP_sum rx_EP_sum [.ref o, .int (nI j), .int t] E_NSE (some (.long r)) kap C H → kap = 1 → OP_sum l D cI cJ cZ cO o Inv (code, kn, ed, ct, ti, nm, xa, xb, ma, it, vs, se, sm, rs, wk, ors, owk) H (nI j) t := fun ht kap r hcs e => fin_sum hI (by omega) hcs (hme 1 (lk_1 ht)) (by rw [e]; rfl) (fun h => absurd h (by omega))
    by_cases ht : okM t
    · rcases hJ with ⟨rfl, hk0⟩ | ⟨K, hK, rfl, hkn, hL, hL2, hO, hO2, hed⟩
      · have e : (f_EP_sum_c t).1 = 2 := by unfold f_EP_sum_c; rw [if_pos ht]
        exact fin_sum hI (by omega) (cs_sum_c l hlt D cI cJ cZ cO o C q H hq j n mo na aa bb re ef n2 mo2 na2 aa2 bb2 re2 ef2 t hj hc) (hme 2 (lk_2 ht hk0)) (by rw [e]; rfl) (fun h => absurd h (by omega))
      · have hlk : (f_Mo_lacks kn j t).1 = 0 := by rw [lk_0 ht (kn_ne hK hkn)]
        rcases (show K = 0 ∨ K = 1 ∨ K = 2 ∨ K = 3 ∨ K = 4 ∨ K = 5 by omega) with rfl | rfl | rfl | rfl | rfl | rfl
        · have e : (f_EP_sum_w t).1 = 2 := by unfold f_EP_sum_w; rw [if_pos ht]
          exact fin_sum hI (by omega) (cs_sum_w l hlt D cI cJ cZ cO o C q H hq j _ n mo na aa bb re ef n2 mo2 na2 aa2 bb2 re2 ef2 t hj (by decide) (by decide) hc) ⟨ma, it, vs, se, sm, rs, wk, ors, owk, hb, m_Mo_sum_w l D cI cJ cZ cO (o + 74) code kn ed ct ti nm xa xb ma it vs se sm rs wk ors owk j t hj hlk (by rw [hkn]; decide) () rfl⟩ (by rw [e]; rfl) (fun h => absurd h (by omega))
        · have e : (f_EP_sum_w t).1 = 2 := by unfold f_EP_sum_w; rw [if_pos ht]
          exact fin_sum hI (by omega) (cs_sum_w l hlt D cI cJ cZ cO o C q H hq j _ n mo na aa bb re ef n2 mo2 na2 aa2 bb2 re2 ef2 t hj (by decide) (by decide) hc) ⟨ma, it, vs, se, sm, rs, wk, ors, owk, hb, m_Mo_sum_w l D cI cJ cZ cO (o + 74) code kn ed ct ti nm xa xb ma it vs se sm rs wk ors owk j t hj hlk (by rw [hkn]; decide) () rfl⟩ (by rw [e]; rfl) (fun h => absurd h (by omega))
        · have e : (f_EP_sum_w t).1 = 2 := by unfold f_EP_sum_w; rw [if_pos ht]
          exact fin_sum hI (by omega) (cs_sum_w l hlt D cI cJ cZ cO o C q H hq j _ n mo na aa bb re ef n2 mo2 na2 aa2 bb2 re2 ef2 t hj (by decide) (by decide) hc) ⟨ma, it, vs, se, sm, rs, wk, ors, owk, hb, m_Mo_sum_w l D cI cJ cZ cO (o + 74) code kn ed ct ti nm xa xb ma it vs se sm rs wk ors owk j t hj hlk (by rw [hkn]; decide) () rfl⟩ (by rw [e]; rfl) (fun h => absurd h (by omega))
        · have e : (f_EP_sum_w t).1 = 2 := by unfold f_EP_sum_w; rw [if_pos ht]
          exact fin_sum hI (by omega) (cs_sum_w l hlt D cI cJ cZ cO o C q H hq j _ n mo na aa bb re ef n2 mo2 na2 aa2 bb2 re2 ef2 t hj (by decide) (by decide) hc) ⟨ma, it, vs, se, sm, rs, wk, ors, owk, hb, m_Mo_sum_w l D cI cJ cZ cO (o + 74) code kn ed ct ti nm xa xb ma it vs se sm rs wk ors owk j t hj hlk (by rw [hkn]; decide) () rfl⟩ (by rw [e]; rfl) (fun h => absurd h (by omega))
        · obtain ⟨p1, p2, p4⟩ := pq_sum_4 (it := it) (vs := vs) (se := se) (rs := rs) (qn := q.2.2.2.2.1.2.1) (qr := q.2.2.2.2.1.2.2.1) (qf := q.2.2.2.2.1.2.2.2) hn hL hO ht hb
          exact fin_sum hI (by omega) (cs_sum_4 l hlt D cI cJ cZ cO o C q H hq j n mo na aa bb re ef n2 mo2 na2 aa2 bb2 re2 ef2 t hj hn hc) ⟨_, _, _, _, _, _, _, _, _, p4, m_Mo_sum_4 l D cI cJ cZ cO (o + 74) code kn ed ct ti nm xa xb ma it vs se sm rs wk ors owk n j t hj hlk hkn hct hn _ rfl⟩ (by rw [p1]; rfl) (fun _ => p2)
        · have e : (f_EP_sum_w t).1 = 2 := by unfold f_EP_sum_w; rw [if_pos ht]
          exact fin_sum hI (by omega) (cs_sum_w l hlt D cI cJ cZ cO o C q H hq j _ n mo na aa bb re ef n2 mo2 na2 aa2 bb2 re2 ef2 t hj (by decide) (by decide) hc) ⟨ma, it, vs, se, sm, rs, wk, ors, owk, hb, m_Mo_sum_w l D cI cJ cZ cO (o + 74) code kn ed ct ti nm xa xb ma it vs se sm rs wk ors owk j t hj hlk (by rw [hkn]; decide) () rfl⟩ (by rw [e]; rfl) (fun h => absurd h (by omega))
    · rcases hJ with ⟨rfl, hk0⟩ | ⟨K, hK, rfl, hkn, hL, hL2, hO, hO2, hed⟩
      · exact h1 ht _ _ (cs_sum_c l hlt D cI cJ cZ cO o C q H hq j n mo na aa bb re ef n2 mo2 na2 aa2 bb2 re2 ef2 t hj hc) (by unfold f_EP_sum_c; rw [if_neg ht])
      · rcases (show K = 0 ∨ K = 1 ∨ K = 2 ∨ K = 3 ∨ K = 4 ∨ K = 5 by omega) with rfl | rfl | rfl | rfl | rfl | rfl
        · exact h1 ht _ _ (cs_sum_w l hlt D cI cJ cZ cO o C q H hq j _ n mo na aa bb re ef n2 mo2 na2 aa2 bb2 re2 ef2 t hj (by decide) (by decide) hc) (by unfold f_EP_sum_w; rw [if_neg ht])
        · exact h1 ht _ _ (cs_sum_w l hlt D cI cJ cZ cO o C q H hq j _ n mo na aa bb re ef n2 mo2 na2 aa2 bb2 re2 ef2 t hj (by decide) (by decide) hc) (by unfold f_EP_sum_w; rw [if_neg ht])
        · exact h1 ht _ _ (cs_sum_w l hlt D cI cJ cZ cO o C q H hq j _ n mo na aa bb re ef n2 mo2 na2 aa2 bb2 re2 ef2 t hj (by decide) (by decide) hc) (by unfold f_EP_sum_w; rw [if_neg ht])
        · exact h1 ht _ _ (cs_sum_w l hlt D cI cJ cZ cO o C q H hq j _ n mo na aa bb re ef n2 mo2 na2 aa2 bb2 re2 ef2 t hj (by decide) (by decide) hc) (by unfold f_EP_sum_w; rw [if_neg ht])
        · exact h1 ht _ _ (cs_sum_4 l hlt D cI cJ cZ cO o C q H hq j n mo na aa bb re ef n2 mo2 na2 aa2 bb2 re2 ef2 t hj hn hc) (by unfold f_EP_sum_4; rw [if_neg ht])
        · exact h1 ht _ _ (cs_sum_w l hlt D cI cJ cZ cO o C q H hq j _ n mo na aa bb re ef n2 mo2 na2 aa2 bb2 re2 ef2 t hj (by decide) (by decide) hc) (by unfold f_EP_sum_w; rw [if_neg ht])
  · have e : (f_EP_sum_b t).1 = 1 := by unfold f_EP_sum_b; split <;> rfl
    exact fin_sum hI (by omega) (cs_sum_b l hlt D cI cJ cZ cO o C q H hq id t hid) ⟨ma, it, vs, se, sm, rs, wk, ors, owk, hb, m_Mo_sum_b l D cI cJ cZ cO (o + 74) code kn ed ct ti nm xa xb ma it vs se sm rs wk ors owk id t hid 1 rfl⟩ (by rw [e]; rfl) (fun h => absurd h (by omega))
theorem fin_least {l : Launch} {D : va_G} {cI cJ cZ cO : ClassId} {o : Nat} {C : Nat → CoT} {H : Heap} {M : MT} (hI : Inv C M) {a0 a1 a2 : Int32} {kap : Nat} {r r1 : Int32} {c : Int32} (hk : kap ≤ 3) (hcs : CS l D cI cJ cZ cO o y_EP_least k_EP_least rx_EP_least [.ref o, .int a0, .int a1, .int a2] E_IOB (some (.int r)) kap C H) (hm : MqS l D cI cJ cZ cO (o + 74) y_Md_least k_Md_least rm_Md_least [.ref (o + 74), .int a0, .int a1, .int a2] (some (.int r1)) c M) (hc : c = nI kap) (he : kap = 0 → r = r1) : OP_least l D cI cJ cZ cO o Inv M H a0 a1 a2 := by
  obtain ⟨ma1, it1, vs1, se1, sm1, rs1, wk1, ors1, owk1, hb, hM⟩ := hm
  exact ⟨kap, r, r1, C, _, hk, hcs, hM, hc, he, hb, hI.2⟩
theorem op_least (l : Launch) (hlt : l.stackTraces = false) (D : va_G) (cI cJ cZ cO : ClassId) (o : Nat) (C : Nat → CoT) (q : ScT) (H : Heap) (hq : PCq D cI cJ cZ cO o C q H) (M : MT) (hI : Inv C M) (id t x : Int32) : OP_least l D cI cJ cZ cO o Inv M H id t x := by
  obtain ⟨code, kn, ed, ct, ti, nm, xa, xb, ma, it, vs, se, sm, rs, wk, ors, owk⟩ := M
  have hb : bz wk := hI.1
  by_cases hid : okI id
  · obtain ⟨j, hj, rfl⟩ := okI_of hid
    rcases hc : C j with ⟨kd, ⟨n, mo, na, aa, bb, re, ef⟩, n2, mo2, na2, aa2, bb2, re2, ef2⟩
    have hJ : IJ j (C j) kn ed ct ti nm xa xb := hI.2 j hj
    rw [hc] at hJ
    obtain ⟨hn, hn2, hz, hct, hct2, hJ⟩ := IJ_el hJ
    have hme : ∀ c : Int32, f_Mo_lacks kn j t = (1, c) → MqS l D cI cJ cZ cO (o + 74) y_Md_least k_Md_least rm_Md_least [.ref (o + 74), .int (nI j), .int t, .int x] (some (.int 0)) c (code, kn, ed, ct, ti, nm, xa, xb, ma, it, vs, se, sm, rs, wk, ors, owk) := fun c h => ⟨ma, it, vs, se, sm, rs, wk, ors, owk, hb, m_Mo_least_e l D cI cJ cZ cO (o + 74) code kn ed ct ti nm xa xb ma it vs se sm rs wk ors owk j t x hj (by rw [h]; show ¬ (1 : Int32) = 0; decide) c (by show (f_Mo_lacks kn j t).2 = c; rw [h])⟩
    have h1 : ¬ okM t → ∀ (kap : Nat) (r : Int32), CS l D cI cJ cZ cO o y_EP_least k_EP_least rx_EP_least [.ref o, .int (nI j), .int t, .int x] E_IOB (some (.int r)) kap C H → kap = 1 → OP_least l D cI cJ cZ cO o Inv (code, kn, ed, ct, ti, nm, xa, xb, ma, it, vs, se, sm, rs, wk, ors, owk) H (nI j) t x := fun ht kap r hcs e => fin_least hI (by omega) hcs (hme 1 (lk_1 ht)) (by rw [e]; rfl) (fun h => absurd h (by omega))
    by_cases ht : okM t
    · rcases hJ with ⟨rfl, hk0⟩ | ⟨K, hK, rfl, hkn, hL, hL2, hO, hO2, hed⟩
      · have e : (f_EP_least_c t).1 = 2 := by unfold f_EP_least_c; rw [if_pos ht]
        exact fin_least hI (by omega) (cs_least_c l hlt D cI cJ cZ cO o C q H hq j n mo na aa bb re ef n2 mo2 na2 aa2 bb2 re2 ef2 t x hj hc) (hme 2 (lk_2 ht hk0)) (by rw [e]; rfl) (fun h => absurd h (by omega))
      · have hlk : (f_Mo_lacks kn j t).1 = 0 := by rw [lk_0 ht (kn_ne hK hkn)]
        rcases (show K = 0 ∨ K = 1 ∨ K = 2 ∨ K = 3 ∨ K = 4 ∨ K = 5 by omega) with rfl | rfl | rfl | rfl | rfl | rfl
        · have e : (f_EP_least_w t).1 = 2 := by unfold f_EP_least_w; rw [if_pos ht]
          exact fin_least hI (by omega) (cs_least_w l hlt D cI cJ cZ cO o C q H hq j _ n mo na aa bb re ef n2 mo2 na2 aa2 bb2 re2 ef2 t x hj (by decide) (by decide) hc) ⟨ma, it, vs, se, sm, rs, wk, ors, owk, hb, m_Mo_least_w l D cI cJ cZ cO (o + 74) code kn ed ct ti nm xa xb ma it vs se sm rs wk ors owk j t x hj hlk (by rw [hkn]; decide) () rfl⟩ (by rw [e]; rfl) (fun h => absurd h (by omega))
        · have e : (f_EP_least_w t).1 = 2 := by unfold f_EP_least_w; rw [if_pos ht]
          exact fin_least hI (by omega) (cs_least_w l hlt D cI cJ cZ cO o C q H hq j _ n mo na aa bb re ef n2 mo2 na2 aa2 bb2 re2 ef2 t x hj (by decide) (by decide) hc) ⟨ma, it, vs, se, sm, rs, wk, ors, owk, hb, m_Mo_least_w l D cI cJ cZ cO (o + 74) code kn ed ct ti nm xa xb ma it vs se sm rs wk ors owk j t x hj hlk (by rw [hkn]; decide) () rfl⟩ (by rw [e]; rfl) (fun h => absurd h (by omega))
        · have e : (f_EP_least_w t).1 = 2 := by unfold f_EP_least_w; rw [if_pos ht]
          exact fin_least hI (by omega) (cs_least_w l hlt D cI cJ cZ cO o C q H hq j _ n mo na aa bb re ef n2 mo2 na2 aa2 bb2 re2 ef2 t x hj (by decide) (by decide) hc) ⟨ma, it, vs, se, sm, rs, wk, ors, owk, hb, m_Mo_least_w l D cI cJ cZ cO (o + 74) code kn ed ct ti nm xa xb ma it vs se sm rs wk ors owk j t x hj hlk (by rw [hkn]; decide) () rfl⟩ (by rw [e]; rfl) (fun h => absurd h (by omega))
        · by_cases hx : x < 0
          · have e : (f_EP_least_3m t).1 = 3 := by unfold f_EP_least_3m; rw [if_pos ht]
            exact fin_least hI (by omega) (cs_least_3m l hlt D cI cJ cZ cO o C q H hq j n mo na aa bb re ef n2 mo2 na2 aa2 bb2 re2 ef2 t x hj hn hx hc) ⟨_, _, _, _, _, _, _, _, _, pq_least_3m (it := it) (vs := vs) (se := se) (rs := rs) hn hL hO ht hb, m_Mo_least_3m l D cI cJ cZ cO (o + 74) code kn ed ct ti nm xa xb ma it vs se sm rs wk ors owk n j t x hj hlk hkn hct hn hx _ rfl⟩ (by rw [e]; rfl) (fun h => absurd h (by omega))
          · obtain ⟨x9, hx9, rfl⟩ := nI_of hx
            rcases pq_least_3 (it := it) (vs := vs) (se := se) (rs := rs) (qv := q.2.2.2.1.2.1) (qr := q.2.2.2.1.2.2.1) (qf := q.2.2.2.1.2.2.2) (x := x9) hn hL hO ht hb with ⟨p1, p2, p4⟩ | ⟨p1, p2, p4⟩
            · exact fin_least hI (by rw [p1]; decide) (cs_least_3 l hlt D cI cJ cZ cO o C q H hq j n mo na aa bb re ef n2 mo2 na2 aa2 bb2 re2 ef2 t x9 hj hn hx9 hc) ⟨_, _, _, _, _, _, _, _, _, p4, m_Mo_least_3o l D cI cJ cZ cO (o + 74) code kn ed ct ti nm xa xb ma it vs se sm rs wk ors owk n j t x9 hj hlk hkn hct hn hx9 p2 _ rfl⟩ (by rw [p1]; rfl) (fun h => absurd h (by rw [p1]; decide))
            · exact fin_least hI (by rw [p1]; exact Nat.zero_le _) (cs_least_3 l hlt D cI cJ cZ cO o C q H hq j n mo na aa bb re ef n2 mo2 na2 aa2 bb2 re2 ef2 t x9 hj hn hx9 hc) ⟨_, _, _, _, _, _, _, _, _, p4, m_Mo_least_3 l D cI cJ cZ cO (o + 74) code kn ed ct ti nm xa xb ma it vs se sm rs wk ors owk n j t x9 hj hlk hkn hct hn p2 _ rfl⟩ (by rw [p1]; rfl) (fun _ => by rw [p1])
        · have e : (f_EP_least_w t).1 = 2 := by unfold f_EP_least_w; rw [if_pos ht]
          exact fin_least hI (by omega) (cs_least_w l hlt D cI cJ cZ cO o C q H hq j _ n mo na aa bb re ef n2 mo2 na2 aa2 bb2 re2 ef2 t x hj (by decide) (by decide) hc) ⟨ma, it, vs, se, sm, rs, wk, ors, owk, hb, m_Mo_least_w l D cI cJ cZ cO (o + 74) code kn ed ct ti nm xa xb ma it vs se sm rs wk ors owk j t x hj hlk (by rw [hkn]; decide) () rfl⟩ (by rw [e]; rfl) (fun h => absurd h (by omega))
        · have e : (f_EP_least_w t).1 = 2 := by unfold f_EP_least_w; rw [if_pos ht]
          exact fin_least hI (by omega) (cs_least_w l hlt D cI cJ cZ cO o C q H hq j _ n mo na aa bb re ef n2 mo2 na2 aa2 bb2 re2 ef2 t x hj (by decide) (by decide) hc) ⟨ma, it, vs, se, sm, rs, wk, ors, owk, hb, m_Mo_least_w l D cI cJ cZ cO (o + 74) code kn ed ct ti nm xa xb ma it vs se sm rs wk ors owk j t x hj hlk (by rw [hkn]; decide) () rfl⟩ (by rw [e]; rfl) (fun h => absurd h (by omega))
    · rcases hJ with ⟨rfl, hk0⟩ | ⟨K, hK, rfl, hkn, hL, hL2, hO, hO2, hed⟩
      · exact h1 ht _ _ (cs_least_c l hlt D cI cJ cZ cO o C q H hq j n mo na aa bb re ef n2 mo2 na2 aa2 bb2 re2 ef2 t x hj hc) (by unfold f_EP_least_c; rw [if_neg ht])
      · rcases (show K = 0 ∨ K = 1 ∨ K = 2 ∨ K = 3 ∨ K = 4 ∨ K = 5 by omega) with rfl | rfl | rfl | rfl | rfl | rfl
        · exact h1 ht _ _ (cs_least_w l hlt D cI cJ cZ cO o C q H hq j _ n mo na aa bb re ef n2 mo2 na2 aa2 bb2 re2 ef2 t x hj (by decide) (by decide) hc) (by unfold f_EP_least_w; rw [if_neg ht])
        · exact h1 ht _ _ (cs_least_w l hlt D cI cJ cZ cO o C q H hq j _ n mo na aa bb re ef n2 mo2 na2 aa2 bb2 re2 ef2 t x hj (by decide) (by decide) hc) (by unfold f_EP_least_w; rw [if_neg ht])
        · exact h1 ht _ _ (cs_least_w l hlt D cI cJ cZ cO o C q H hq j _ n mo na aa bb re ef n2 mo2 na2 aa2 bb2 re2 ef2 t x hj (by decide) (by decide) hc) (by unfold f_EP_least_w; rw [if_neg ht])
        · by_cases hx : x < 0
          · exact h1 ht _ _ (cs_least_3m l hlt D cI cJ cZ cO o C q H hq j n mo na aa bb re ef n2 mo2 na2 aa2 bb2 re2 ef2 t x hj hn hx hc) (by unfold f_EP_least_3m; rw [if_neg ht])
          · obtain ⟨x9, hx9, rfl⟩ := nI_of hx
            exact h1 ht _ _ (cs_least_3 l hlt D cI cJ cZ cO o C q H hq j n mo na aa bb re ef n2 mo2 na2 aa2 bb2 re2 ef2 t x9 hj hn hx9 hc) (by unfold f_EP_least_3; rw [if_neg ht])
        · exact h1 ht _ _ (cs_least_w l hlt D cI cJ cZ cO o C q H hq j _ n mo na aa bb re ef n2 mo2 na2 aa2 bb2 re2 ef2 t x hj (by decide) (by decide) hc) (by unfold f_EP_least_w; rw [if_neg ht])
        · exact h1 ht _ _ (cs_least_w l hlt D cI cJ cZ cO o C q H hq j _ n mo na aa bb re ef n2 mo2 na2 aa2 bb2 re2 ef2 t x hj (by decide) (by decide) hc) (by unfold f_EP_least_w; rw [if_neg ht])
  · have e : (f_EP_least_b t).1 = 1 := by unfold f_EP_least_b; split <;> rfl
    exact fin_least hI (by omega) (cs_least_b l hlt D cI cJ cZ cO o C q H hq id t x hid) ⟨ma, it, vs, se, sm, rs, wk, ors, owk, hb, m_Mo_least_b l D cI cJ cZ cO (o + 74) code kn ed ct ti nm xa xb ma it vs se sm rs wk ors owk id t x hid 1 rfl⟩ (by rw [e]; rfl) (fun h => absurd h (by omega))
theorem fin_result {l : Launch} {D : va_G} {cI cJ cZ cO : ClassId} {o : Nat} {C : Nat → CoT} {H : Heap} {M : MT} (hI : Inv C M) {a0 a1 : Int32} {kap : Nat} {r r1 : Int64} {c : Int32} (hk : kap ≤ 3) (hcs : CS l D cI cJ cZ cO o y_EP_result k_EP_result rx_EP_result [.ref o, .int a0, .int a1] E_NSE (some (.long r)) kap C H) (hm : MqS l D cI cJ cZ cO (o + 74) y_Md_result k_Md_result rm_Md_result [.ref (o + 74), .int a0, .int a1] (some (.long r1)) c M) (hc : c = nI kap) (he : kap = 0 → r = r1) : OP_result l D cI cJ cZ cO o Inv M H a0 a1 := by
  obtain ⟨ma1, it1, vs1, se1, sm1, rs1, wk1, ors1, owk1, hb, hM⟩ := hm
  exact ⟨kap, r, r1, C, _, hk, hcs, hM, hc, he, hb, hI.2⟩
theorem op_result (l : Launch) (hlt : l.stackTraces = false) (D : va_G) (cI cJ cZ cO : ClassId) (o : Nat) (C : Nat → CoT) (q : ScT) (H : Heap) (hq : PCq D cI cJ cZ cO o C q H) (M : MT) (hI : Inv C M) (id t : Int32) : OP_result l D cI cJ cZ cO o Inv M H id t := by
  obtain ⟨code, kn, ed, ct, ti, nm, xa, xb, ma, it, vs, se, sm, rs, wk, ors, owk⟩ := M
  have hb : bz wk := hI.1
  by_cases hid : okI id
  · obtain ⟨j, hj, rfl⟩ := okI_of hid
    rcases hc : C j with ⟨kd, ⟨n, mo, na, aa, bb, re, ef⟩, n2, mo2, na2, aa2, bb2, re2, ef2⟩
    have hJ : IJ j (C j) kn ed ct ti nm xa xb := hI.2 j hj
    rw [hc] at hJ
    obtain ⟨hn, hn2, hz, hct, hct2, hJ⟩ := IJ_el hJ
    have hme : ∀ c : Int32, f_Mo_lacks kn j t = (1, c) → MqS l D cI cJ cZ cO (o + 74) y_Md_result k_Md_result rm_Md_result [.ref (o + 74), .int (nI j), .int t] (some (.long 0)) c (code, kn, ed, ct, ti, nm, xa, xb, ma, it, vs, se, sm, rs, wk, ors, owk) := fun c h => ⟨ma, it, vs, se, sm, rs, wk, ors, owk, hb, m_Mo_result_e l D cI cJ cZ cO (o + 74) code kn ed ct ti nm xa xb ma it vs se sm rs wk ors owk j t hj (by rw [h]; show ¬ (1 : Int32) = 0; decide) c (by show (f_Mo_lacks kn j t).2 = c; rw [h])⟩
    have h1 : ¬ okM t → ∀ (kap : Nat) (r : Int64), CS l D cI cJ cZ cO o y_EP_result k_EP_result rx_EP_result [.ref o, .int (nI j), .int t] E_NSE (some (.long r)) kap C H → kap = 1 → OP_result l D cI cJ cZ cO o Inv (code, kn, ed, ct, ti, nm, xa, xb, ma, it, vs, se, sm, rs, wk, ors, owk) H (nI j) t := fun ht kap r hcs e => fin_result hI (by omega) hcs (hme 1 (lk_1 ht)) (by rw [e]; rfl) (fun h => absurd h (by omega))
    by_cases ht : okM t
    · rcases hJ with ⟨rfl, hk0⟩ | ⟨K, hK, rfl, hkn, hL, hL2, hO, hO2, hed⟩
      · have e : (f_EP_result_c t).1 = 2 := by unfold f_EP_result_c; rw [if_pos ht]
        exact fin_result hI (by omega) (cs_result_c l hlt D cI cJ cZ cO o C q H hq j n mo na aa bb re ef n2 mo2 na2 aa2 bb2 re2 ef2 t hj hc) (hme 2 (lk_2 ht hk0)) (by rw [e]; rfl) (fun h => absurd h (by omega))
      · have hlk : (f_Mo_lacks kn j t).1 = 0 := by rw [lk_0 ht (kn_ne hK hkn)]
        rcases (show K = 0 ∨ K = 1 ∨ K = 2 ∨ K = 3 ∨ K = 4 ∨ K = 5 by omega) with rfl | rfl | rfl | rfl | rfl | rfl
        · obtain ⟨p1, p2, p3, p4⟩ := pq_result_0 (it := it) (vs := vs) (se := se) (rs := rs)  hn hL hO ht hb
          exact fin_result hI p1 (cs_result l hlt D cI cJ cZ cO o C q H hq j _ n mo na aa bb re ef n2 mo2 na2 aa2 bb2 re2 ef2 t hj (by decide) hn hz hc) ⟨_, _, _, _, _, _, _, _, _, p4, m_Mo_result_0 l D cI cJ cZ cO (o + 74) code kn ed ct ti nm xa xb ma it vs se sm rs wk ors owk n j t hj hlk hkn hct hn _ rfl⟩ p2 p3
        · obtain ⟨p1, p2, p3, p4⟩ := pq_result_1 (it := it) (vs := vs) (se := se) (rs := rs)  hn hL hO ht hb
          exact fin_result hI p1 (cs_result l hlt D cI cJ cZ cO o C q H hq j _ n mo na aa bb re ef n2 mo2 na2 aa2 bb2 re2 ef2 t hj (by decide) hn hz hc) ⟨_, _, _, _, _, _, _, _, _, p4, m_Mo_result_1 l D cI cJ cZ cO (o + 74) code kn ed ct ti nm xa xb ma it vs se sm rs wk ors owk n j t hj hlk hkn hct hn _ rfl⟩ p2 p3
        · obtain ⟨p1, p2, p3, p4⟩ := pq_result_2 (it := it) (vs := vs) (se := se) (rs := rs)  hn hL hO ht hb
          exact fin_result hI p1 (cs_result l hlt D cI cJ cZ cO o C q H hq j _ n mo na aa bb re ef n2 mo2 na2 aa2 bb2 re2 ef2 t hj (by decide) hn hz hc) ⟨_, _, _, _, _, _, _, _, _, p4, m_Mo_result_2 l D cI cJ cZ cO (o + 74) code kn ed ct ti nm xa xb ma it vs se sm rs wk ors owk n j t hj hlk hkn hct hn _ rfl⟩ p2 p3
        · obtain ⟨p1, p2, p3, p4⟩ := pq_result_3 (it := it) (vs := vs) (se := se) (rs := rs)  hn hL hO ht hb
          exact fin_result hI p1 (cs_result l hlt D cI cJ cZ cO o C q H hq j _ n mo na aa bb re ef n2 mo2 na2 aa2 bb2 re2 ef2 t hj (by decide) hn hz hc) ⟨_, _, _, _, _, _, _, _, _, p4, m_Mo_result_3 l D cI cJ cZ cO (o + 74) code kn ed ct ti nm xa xb ma it vs se sm rs wk ors owk n j t hj hlk hkn hct hn _ rfl⟩ p2 p3
        · obtain ⟨p1, p2, p3, p4⟩ := pq_result_4 (it := it) (vs := vs) (se := se) (rs := rs)  hn hL hO ht hb
          exact fin_result hI p1 (cs_result l hlt D cI cJ cZ cO o C q H hq j _ n mo na aa bb re ef n2 mo2 na2 aa2 bb2 re2 ef2 t hj (by decide) hn hz hc) ⟨_, _, _, _, _, _, _, _, _, p4, m_Mo_result_4 l D cI cJ cZ cO (o + 74) code kn ed ct ti nm xa xb ma it vs se sm rs wk ors owk n j t hj hlk hkn hct hn _ rfl⟩ p2 p3
        · obtain ⟨p1, p2, p3, p4⟩ := pq_result_5 (it := it) (vs := vs) (se := se) (rs := rs)  hn hL hO ht hb
          exact fin_result hI p1 (cs_result l hlt D cI cJ cZ cO o C q H hq j _ n mo na aa bb re ef n2 mo2 na2 aa2 bb2 re2 ef2 t hj (by decide) hn hz hc) ⟨_, _, _, _, _, _, _, _, _, p4, m_Mo_result_5 l D cI cJ cZ cO (o + 74) code kn ed ct ti nm xa xb ma it vs se sm rs wk ors owk n j t hj hlk hkn hct hn (hop_m hO hL rfl) _ rfl⟩ p2 p3
    · rcases hJ with ⟨rfl, hk0⟩ | ⟨K, hK, rfl, hkn, hL, hL2, hO, hO2, hed⟩
      · exact h1 ht _ _ (cs_result_c l hlt D cI cJ cZ cO o C q H hq j n mo na aa bb re ef n2 mo2 na2 aa2 bb2 re2 ef2 t hj hc) (by unfold f_EP_result_c; rw [if_neg ht])
      · rcases (show K = 0 ∨ K = 1 ∨ K = 2 ∨ K = 3 ∨ K = 4 ∨ K = 5 by omega) with rfl | rfl | rfl | rfl | rfl | rfl
        · exact h1 ht _ _ (cs_result l hlt D cI cJ cZ cO o C q H hq j _ n mo na aa bb re ef n2 mo2 na2 aa2 bb2 re2 ef2 t hj (by decide) hn hz hc) (by unfold f_EP_result; rw [if_neg ht])
        · exact h1 ht _ _ (cs_result l hlt D cI cJ cZ cO o C q H hq j _ n mo na aa bb re ef n2 mo2 na2 aa2 bb2 re2 ef2 t hj (by decide) hn hz hc) (by unfold f_EP_result; rw [if_neg ht])
        · exact h1 ht _ _ (cs_result l hlt D cI cJ cZ cO o C q H hq j _ n mo na aa bb re ef n2 mo2 na2 aa2 bb2 re2 ef2 t hj (by decide) hn hz hc) (by unfold f_EP_result; rw [if_neg ht])
        · exact h1 ht _ _ (cs_result l hlt D cI cJ cZ cO o C q H hq j _ n mo na aa bb re ef n2 mo2 na2 aa2 bb2 re2 ef2 t hj (by decide) hn hz hc) (by unfold f_EP_result; rw [if_neg ht])
        · exact h1 ht _ _ (cs_result l hlt D cI cJ cZ cO o C q H hq j _ n mo na aa bb re ef n2 mo2 na2 aa2 bb2 re2 ef2 t hj (by decide) hn hz hc) (by unfold f_EP_result; rw [if_neg ht])
        · exact h1 ht _ _ (cs_result l hlt D cI cJ cZ cO o C q H hq j _ n mo na aa bb re ef n2 mo2 na2 aa2 bb2 re2 ef2 t hj (by decide) hn hz hc) (by unfold f_EP_result; rw [if_neg ht])
  · have e : (f_EP_result_b t).1 = 1 := by unfold f_EP_result_b; split <;> rfl
    exact fin_result hI (by omega) (cs_result_b l hlt D cI cJ cZ cO o C q H hq id t hid) ⟨ma, it, vs, se, sm, rs, wk, ors, owk, hb, m_Mo_result_b l D cI cJ cZ cO (o + 74) code kn ed ct ti nm xa xb ma it vs se sm rs wk ors owk id t hid 1 rfl⟩ (by rw [e]; rfl) (fun h => absurd h (by omega))
theorem fin_works {l : Launch} {D : va_G} {cI cJ cZ cO : ClassId} {o : Nat} {C : Nat → CoT} {H : Heap} {M : MT} (hI : Inv C M) {a0 a1 : Int32} {kap : Nat} {r r1 : Int32} {c : Int32} (hk : kap ≤ 3) (hcs : CS l D cI cJ cZ cO o y_EP_works k_EP_works rx_EP_works [.ref o, .int a0, .int a1] E_NSE (some (.int r)) kap C H) (hm : MqS l D cI cJ cZ cO (o + 74) y_Md_works k_Md_works rm_Md_works [.ref (o + 74), .int a0, .int a1] (some (.int r1)) c M) (hc : c = nI kap) (hr : r = 0 ∨ r = 1) (he : kap = 0 → r = r1) : OP_works l D cI cJ cZ cO o Inv M H a0 a1 := by
  obtain ⟨ma1, it1, vs1, se1, sm1, rs1, wk1, ors1, owk1, hb, hM⟩ := hm
  exact ⟨kap, r, r1, C, _, hk, hcs, hM, hc, hr, he, hb, hI.2⟩
theorem op_works (l : Launch) (hlt : l.stackTraces = false) (D : va_G) (cI cJ cZ cO : ClassId) (o : Nat) (C : Nat → CoT) (q : ScT) (H : Heap) (hq : PCq D cI cJ cZ cO o C q H) (M : MT) (hI : Inv C M) (id t : Int32) : OP_works l D cI cJ cZ cO o Inv M H id t := by
  obtain ⟨code, kn, ed, ct, ti, nm, xa, xb, ma, it, vs, se, sm, rs, wk, ors, owk⟩ := M
  have hb : bz wk := hI.1
  by_cases hid : okI id
  · obtain ⟨j, hj, rfl⟩ := okI_of hid
    rcases hc : C j with ⟨kd, ⟨n, mo, na, aa, bb, re, ef⟩, n2, mo2, na2, aa2, bb2, re2, ef2⟩
    have hJ : IJ j (C j) kn ed ct ti nm xa xb := hI.2 j hj
    rw [hc] at hJ
    obtain ⟨hn, hn2, hz, hct, hct2, hJ⟩ := IJ_el hJ
    have hme : ∀ c : Int32, f_Mo_lacks kn j t = (1, c) → MqS l D cI cJ cZ cO (o + 74) y_Md_works k_Md_works rm_Md_works [.ref (o + 74), .int (nI j), .int t] (some (.int 0)) c (code, kn, ed, ct, ti, nm, xa, xb, ma, it, vs, se, sm, rs, wk, ors, owk) := fun c h => ⟨ma, it, vs, se, sm, rs, wk, ors, owk, hb, m_Mo_works_e l D cI cJ cZ cO (o + 74) code kn ed ct ti nm xa xb ma it vs se sm rs wk ors owk j t hj (by rw [h]; show ¬ (1 : Int32) = 0; decide) c (by show (f_Mo_lacks kn j t).2 = c; rw [h])⟩
    have h1 : ¬ okM t → ∀ (kap : Nat) (r : Int32), CS l D cI cJ cZ cO o y_EP_works k_EP_works rx_EP_works [.ref o, .int (nI j), .int t] E_NSE (some (.int r)) kap C H → (r = 0 ∨ r = 1) → kap = 1 → OP_works l D cI cJ cZ cO o Inv (code, kn, ed, ct, ti, nm, xa, xb, ma, it, vs, se, sm, rs, wk, ors, owk) H (nI j) t := fun ht kap r hcs h2 e => fin_works hI (by omega) hcs (hme 1 (lk_1 ht)) (by rw [e]; rfl) h2 (fun h => absurd h (by omega))
    by_cases ht : okM t
    · rcases hJ with ⟨rfl, hk0⟩ | ⟨K, hK, rfl, hkn, hL, hL2, hO, hO2, hed⟩
      · have e : (f_EP_works_c t).1 = 2 := by unfold f_EP_works_c; rw [if_pos ht]
        exact fin_works hI (by omega) (cs_works_c l hlt D cI cJ cZ cO o C q H hq j n mo na aa bb re ef n2 mo2 na2 aa2 bb2 re2 ef2 t hj hc) (hme 2 (lk_2 ht hk0)) (by rw [e]; rfl) (Or.inl (by unfold f_EP_works_c; rw [if_pos ht])) (fun h => absurd h (by omega))
      · have hlk : (f_Mo_lacks kn j t).1 = 0 := by rw [lk_0 ht (kn_ne hK hkn)]
        rcases (show K = 0 ∨ K = 1 ∨ K = 2 ∨ K = 3 ∨ K = 4 ∨ K = 5 by omega) with rfl | rfl | rfl | rfl | rfl | rfl
        · obtain ⟨p1, p2, p5, p3, p4⟩ := pq_works_0 (it := it) (vs := vs) (se := se) (rs := rs)  hn hL hO ht hb hz
          exact fin_works hI p1 (cs_works l hlt D cI cJ cZ cO o C q H hq j _ n mo na aa bb re ef n2 mo2 na2 aa2 bb2 re2 ef2 t hj (by decide) hn hz hc) ⟨_, _, _, _, _, _, _, _, _, p4, m_Mo_works_0 l D cI cJ cZ cO (o + 74) code kn ed ct ti nm xa xb ma it vs se sm rs wk ors owk n j t hj hlk hkn hct hn _ rfl⟩ p2 p5 p3
        · obtain ⟨p1, p2, p5, p3, p4⟩ := pq_works_1 (it := it) (vs := vs) (se := se) (rs := rs)  hn hL hO ht hb hz
          exact fin_works hI p1 (cs_works l hlt D cI cJ cZ cO o C q H hq j _ n mo na aa bb re ef n2 mo2 na2 aa2 bb2 re2 ef2 t hj (by decide) hn hz hc) ⟨_, _, _, _, _, _, _, _, _, p4, m_Mo_works_1 l D cI cJ cZ cO (o + 74) code kn ed ct ti nm xa xb ma it vs se sm rs wk ors owk n j t hj hlk hkn hct hn _ rfl⟩ p2 p5 p3
        · obtain ⟨p1, p2, p5, p3, p4⟩ := pq_works_2 (it := it) (vs := vs) (se := se) (rs := rs)  hn hL hO ht hb hz
          exact fin_works hI p1 (cs_works l hlt D cI cJ cZ cO o C q H hq j _ n mo na aa bb re ef n2 mo2 na2 aa2 bb2 re2 ef2 t hj (by decide) hn hz hc) ⟨_, _, _, _, _, _, _, _, _, p4, m_Mo_works_2 l D cI cJ cZ cO (o + 74) code kn ed ct ti nm xa xb ma it vs se sm rs wk ors owk n j t hj hlk hkn hct hn _ rfl⟩ p2 p5 p3
        · obtain ⟨p1, p2, p5, p3, p4⟩ := pq_works_3 (it := it) (vs := vs) (se := se) (rs := rs)  hn hL hO ht hb hz
          exact fin_works hI p1 (cs_works l hlt D cI cJ cZ cO o C q H hq j _ n mo na aa bb re ef n2 mo2 na2 aa2 bb2 re2 ef2 t hj (by decide) hn hz hc) ⟨_, _, _, _, _, _, _, _, _, p4, m_Mo_works_3 l D cI cJ cZ cO (o + 74) code kn ed ct ti nm xa xb ma it vs se sm rs wk ors owk n j t hj hlk hkn hct hn _ rfl⟩ p2 p5 p3
        · obtain ⟨p1, p2, p5, p3, p4⟩ := pq_works_4 (it := it) (vs := vs) (se := se) (rs := rs)  hn hL hO ht hb hz
          exact fin_works hI p1 (cs_works l hlt D cI cJ cZ cO o C q H hq j _ n mo na aa bb re ef n2 mo2 na2 aa2 bb2 re2 ef2 t hj (by decide) hn hz hc) ⟨_, _, _, _, _, _, _, _, _, p4, m_Mo_works_4 l D cI cJ cZ cO (o + 74) code kn ed ct ti nm xa xb ma it vs se sm rs wk ors owk n j t hj hlk hkn hct hn _ rfl⟩ p2 p5 p3
        · obtain ⟨p1, p2, p5, p3, p4⟩ := pq_works_5 (it := it) (vs := vs) (se := se) (rs := rs)  hn hL hO ht hb hz
          exact fin_works hI p1 (cs_works l hlt D cI cJ cZ cO o C q H hq j _ n mo na aa bb re ef n2 mo2 na2 aa2 bb2 re2 ef2 t hj (by decide) hn hz hc) ⟨_, _, _, _, _, _, _, _, _, p4, m_Mo_works_5 l D cI cJ cZ cO (o + 74) code kn ed ct ti nm xa xb ma it vs se sm rs wk ors owk n j t hj hlk hkn hct hn (hop_m hO hL rfl) _ rfl⟩ p2 p5 p3
    · rcases hJ with ⟨rfl, hk0⟩ | ⟨K, hK, rfl, hkn, hL, hL2, hO, hO2, hed⟩
      · exact h1 ht _ _ (cs_works_c l hlt D cI cJ cZ cO o C q H hq j n mo na aa bb re ef n2 mo2 na2 aa2 bb2 re2 ef2 t hj hc) (Or.inl (by unfold f_EP_works_c; rw [if_neg ht])) (by unfold f_EP_works_c; rw [if_neg ht])
      · rcases (show K = 0 ∨ K = 1 ∨ K = 2 ∨ K = 3 ∨ K = 4 ∨ K = 5 by omega) with rfl | rfl | rfl | rfl | rfl | rfl
        · exact h1 ht _ _ (cs_works l hlt D cI cJ cZ cO o C q H hq j _ n mo na aa bb re ef n2 mo2 na2 aa2 bb2 re2 ef2 t hj (by decide) hn hz hc) (Or.inl (by unfold f_EP_works; rw [if_neg ht])) (by unfold f_EP_works; rw [if_neg ht])
        · exact h1 ht _ _ (cs_works l hlt D cI cJ cZ cO o C q H hq j _ n mo na aa bb re ef n2 mo2 na2 aa2 bb2 re2 ef2 t hj (by decide) hn hz hc) (Or.inl (by unfold f_EP_works; rw [if_neg ht])) (by unfold f_EP_works; rw [if_neg ht])
        · exact h1 ht _ _ (cs_works l hlt D cI cJ cZ cO o C q H hq j _ n mo na aa bb re ef n2 mo2 na2 aa2 bb2 re2 ef2 t hj (by decide) hn hz hc) (Or.inl (by unfold f_EP_works; rw [if_neg ht])) (by unfold f_EP_works; rw [if_neg ht])
        · exact h1 ht _ _ (cs_works l hlt D cI cJ cZ cO o C q H hq j _ n mo na aa bb re ef n2 mo2 na2 aa2 bb2 re2 ef2 t hj (by decide) hn hz hc) (Or.inl (by unfold f_EP_works; rw [if_neg ht])) (by unfold f_EP_works; rw [if_neg ht])
        · exact h1 ht _ _ (cs_works l hlt D cI cJ cZ cO o C q H hq j _ n mo na aa bb re ef n2 mo2 na2 aa2 bb2 re2 ef2 t hj (by decide) hn hz hc) (Or.inl (by unfold f_EP_works; rw [if_neg ht])) (by unfold f_EP_works; rw [if_neg ht])
        · exact h1 ht _ _ (cs_works l hlt D cI cJ cZ cO o C q H hq j _ n mo na aa bb re ef n2 mo2 na2 aa2 bb2 re2 ef2 t hj (by decide) hn hz hc) (Or.inl (by unfold f_EP_works; rw [if_neg ht])) (by unfold f_EP_works; rw [if_neg ht])
  · have e : (f_EP_works_b t).1 = 1 := by unfold f_EP_works_b; split <;> rfl
    exact fin_works hI (by omega) (cs_works_b l hlt D cI cJ cZ cO o C q H hq id t hid) ⟨ma, it, vs, se, sm, rs, wk, ors, owk, hb, m_Mo_works_b l D cI cJ cZ cO (o + 74) code kn ed ct ti nm xa xb ma it vs se sm rs wk ors owk id t hid 1 rfl⟩ (by rw [e]; rfl) (Or.inl (by unfold f_EP_works_b; split <;> rfl)) (fun h => absurd h (by omega))
theorem fin_together {l : Launch} {D : va_G} {cI cJ cZ cO : ClassId} {o : Nat} {C : Nat → CoT} {H : Heap} {M : MT} (hI : Inv C M) {a0 a1 a2 a3 : Int32} {kap : Nat} {r r1 : Int32} {c : Int32} (hk : kap ≤ 2) (hcs : CS l D cI cJ cZ cO o y_EP_together k_EP_together rx_EP_together [.ref o, .int a0, .int a1, .int a2, .int a3] E_NSE (some (.int r)) kap C H) (hm : MqS l D cI cJ cZ cO (o + 74) y_Md_together k_Md_together rm_Md_together [.ref (o + 74), .int a0, .int a1, .int a2, .int a3] (some (.int r1)) c M) (hc : c = nI kap) (hr : r = 0 ∨ r = 1) (he : kap = 0 → r = r1) : OP_together l D cI cJ cZ cO o Inv M H a0 a1 a2 a3 := by
  obtain ⟨ma1, it1, vs1, se1, sm1, rs1, wk1, ors1, owk1, hb, hM⟩ := hm
  exact ⟨kap, r, r1, C, _, hk, hcs, hM, hc, hr, he, hb, hI.2⟩
theorem e15 {x : Int32} (h : ¬ x < 0 ∧ ¬ 15 < x) : okE x := by
  refine ⟨h.1, fun h2 => h.2 ?_⟩
  rw [Int32.lt_iff_toInt_lt]
  rw [Int32.le_iff_toInt_le] at h2
  have e1 : (15 : Int32).toInt = 15 := by decide
  have e2 : (16 : Int32).toInt = 16 := by decide
  omega
theorem e15b {x : Int32} (h : x ≤ 15) : ¬ 15 < x := Int32.not_lt.mpr h
theorem op_together (l : Launch) (hlt : l.stackTraces = false) (D : va_G) (cI cJ cZ cO : ClassId) (o : Nat) (C : Nat → CoT) (q : ScT) (H : Heap) (hq : PCq D cI cJ cZ cO o C q H) (M : MT) (hI : Inv C M) (id t x y : Int32) : OP_together l D cI cJ cZ cO o Inv M H id t x y := by
  obtain ⟨code, kn, ed, ct, ti, nm, xa, xb, ma, it, vs, se, sm, rs, wk, ors, owk⟩ := M
  have hb : bz wk := hI.1
  by_cases hE : okE x ∧ okE y
  · obtain ⟨x9, hx9, rfl⟩ := okE_of hE.1
    obtain ⟨y9, hy9, rfl⟩ := okE_of hE.2
    by_cases hid : okI id
    · obtain ⟨j, hj, rfl⟩ := okI_of hid
      rcases hc : C j with ⟨kd, ⟨n, mo, na, aa, bb, re, ef⟩, n2, mo2, na2, aa2, bb2, re2, ef2⟩
      have hJ : IJ j (C j) kn ed ct ti nm xa xb := hI.2 j hj
      rw [hc] at hJ
      obtain ⟨hn, hn2, hz, hct, hct2, hJ⟩ := IJ_el hJ
      have hme : ∀ c : Int32, f_Mo_lacks kn j t = (1, c) → MqS l D cI cJ cZ cO (o + 74) y_Md_together k_Md_together rm_Md_together [.ref (o + 74), .int (nI j), .int t, .int (nI x9), .int (nI y9)] (some (.int 0)) c (code, kn, ed, ct, ti, nm, xa, xb, ma, it, vs, se, sm, rs, wk, ors, owk) := fun c h => ⟨ma, it, vs, se, sm, rs, wk, ors, owk, hb, m_Mo_together_e l D cI cJ cZ cO (o + 74) code kn ed ct ti nm xa xb ma it vs se sm rs wk ors owk j t x9 y9 hj (by rw [h]; show ¬ (1 : Int32) = 0; decide) hx9 hy9 c (by show (f_Mo_lacks kn j t).2 = c; rw [h])⟩
      by_cases ht : okM t
      · rcases hJ with ⟨rfl, hk0⟩ | ⟨K, hK, rfl, hkn, hL, hL2, hO, hO2, hed⟩
        · have e : f_EP_together_c t = (2, 0) := by unfold f_EP_together_c; rw [if_pos ht]
          exact fin_together hI (by rw [e]; decide) (cs_together_c l hlt D cI cJ cZ cO o C q H hq j n mo na aa bb re ef n2 mo2 na2 aa2 bb2 re2 ef2 t x9 y9 hj hx9 hy9 hc) (hme 2 (lk_2 ht hk0)) (by rw [e]; rfl) (by rw [e]; exact Or.inl rfl) (fun h => absurd h (by rw [e]; decide))
        · have hlk : (f_Mo_lacks kn j t).1 = 0 := by rw [lk_0 ht (kn_ne hK hkn)]
          have ew : f_EP_together_w t = (2, 0) := by unfold f_EP_together_w; rw [if_pos ht]
          rcases (show K = 0 ∨ K = 1 ∨ K = 2 ∨ K = 3 ∨ K = 4 ∨ K = 5 by omega) with rfl | rfl | rfl | rfl | rfl | rfl
          · exact fin_together hI (by rw [ew]; decide) (cs_together_w l hlt D cI cJ cZ cO o C q H hq j _ n mo na aa bb re ef n2 mo2 na2 aa2 bb2 re2 ef2 t x9 y9 hj (by decide) (by decide) hx9 hy9 hc) ⟨ma, it, vs, se, sm, rs, wk, ors, owk, hb, m_Mo_together_w l D cI cJ cZ cO (o + 74) code kn ed ct ti nm xa xb ma it vs se sm rs wk ors owk j t x9 y9 hj hlk (by rw [hkn]; decide) hx9 hy9 () rfl⟩ (by rw [ew]; rfl) (by rw [ew]; exact Or.inl rfl) (fun h => absurd h (by rw [ew]; decide))
          · exact fin_together hI (by rw [ew]; decide) (cs_together_w l hlt D cI cJ cZ cO o C q H hq j _ n mo na aa bb re ef n2 mo2 na2 aa2 bb2 re2 ef2 t x9 y9 hj (by decide) (by decide) hx9 hy9 hc) ⟨ma, it, vs, se, sm, rs, wk, ors, owk, hb, m_Mo_together_w l D cI cJ cZ cO (o + 74) code kn ed ct ti nm xa xb ma it vs se sm rs wk ors owk j t x9 y9 hj hlk (by rw [hkn]; decide) hx9 hy9 () rfl⟩ (by rw [ew]; rfl) (by rw [ew]; exact Or.inl rfl) (fun h => absurd h (by rw [ew]; decide))
          · exact fin_together hI (by rw [ew]; decide) (cs_together_w l hlt D cI cJ cZ cO o C q H hq j _ n mo na aa bb re ef n2 mo2 na2 aa2 bb2 re2 ef2 t x9 y9 hj (by decide) (by decide) hx9 hy9 hc) ⟨ma, it, vs, se, sm, rs, wk, ors, owk, hb, m_Mo_together_w l D cI cJ cZ cO (o + 74) code kn ed ct ti nm xa xb ma it vs se sm rs wk ors owk j t x9 y9 hj hlk (by rw [hkn]; decide) hx9 hy9 () rfl⟩ (by rw [ew]; rfl) (by rw [ew]; exact Or.inl rfl) (fun h => absurd h (by rw [ew]; decide))
          · exact fin_together hI (by rw [ew]; decide) (cs_together_w l hlt D cI cJ cZ cO o C q H hq j _ n mo na aa bb re ef n2 mo2 na2 aa2 bb2 re2 ef2 t x9 y9 hj (by decide) (by decide) hx9 hy9 hc) ⟨ma, it, vs, se, sm, rs, wk, ors, owk, hb, m_Mo_together_w l D cI cJ cZ cO (o + 74) code kn ed ct ti nm xa xb ma it vs se sm rs wk ors owk j t x9 y9 hj hlk (by rw [hkn]; decide) hx9 hy9 () rfl⟩ (by rw [ew]; rfl) (by rw [ew]; exact Or.inl rfl) (fun h => absurd h (by rw [ew]; decide))
          · exact fin_together hI (by rw [ew]; decide) (cs_together_w l hlt D cI cJ cZ cO o C q H hq j _ n mo na aa bb re ef n2 mo2 na2 aa2 bb2 re2 ef2 t x9 y9 hj (by decide) (by decide) hx9 hy9 hc) ⟨ma, it, vs, se, sm, rs, wk, ors, owk, hb, m_Mo_together_w l D cI cJ cZ cO (o + 74) code kn ed ct ti nm xa xb ma it vs se sm rs wk ors owk j t x9 y9 hj hlk (by rw [hkn]; decide) hx9 hy9 () rfl⟩ (by rw [ew]; rfl) (by rw [ew]; exact Or.inl rfl) (fun h => absurd h (by rw [ew]; decide))
          · obtain ⟨p1, p2, p5, p4⟩ := pq_together_5 (it := it) (vs := vs) (se := se) (rs := rs) (ql := q.2.2.2.2.2.2.1) (qr := q.2.2.2.2.2.2.2.1) (qf := q.2.2.2.2.2.2.2.2) hx9 hy9 hn hL hO ht hb
            exact fin_together hI (by omega) (cs_together_5 l hlt D cI cJ cZ cO o C q H hq j n mo na aa bb re ef n2 mo2 na2 aa2 bb2 re2 ef2 t x9 y9 hj hn (hop_c hO rfl) hx9 hy9 hc) ⟨_, _, _, _, _, _, _, _, _, p4, m_Mo_together_5 l D cI cJ cZ cO (o + 74) code kn ed ct ti nm xa xb ma it vs se sm rs wk ors owk n j t x9 y9 hj hlk hkn hct hn (hop_m hO hL rfl) hx9 hy9 _ rfl⟩ (by rw [p1]; rfl) p5 (fun _ => p2)
      · have ec : f_EP_together_c t = (1, 0) := by unfold f_EP_together_c; rw [if_neg ht]
        have ew : f_EP_together_w t = (1, 0) := by unfold f_EP_together_w; rw [if_neg ht]
        rcases hJ with ⟨rfl, hk0⟩ | ⟨K, hK, rfl, hkn, hL, hL2, hO, hO2, hed⟩
        · exact fin_together hI (by rw [ec]; decide) (cs_together_c l hlt D cI cJ cZ cO o C q H hq j n mo na aa bb re ef n2 mo2 na2 aa2 bb2 re2 ef2 t x9 y9 hj hx9 hy9 hc) (hme 1 (lk_1 ht)) (by rw [ec]; rfl) (by rw [ec]; exact Or.inl rfl) (fun h => absurd h (by rw [ec]; decide))
        · rcases (show K = 0 ∨ K = 1 ∨ K = 2 ∨ K = 3 ∨ K = 4 ∨ K = 5 by omega) with rfl | rfl | rfl | rfl | rfl | rfl
          · exact fin_together hI (by rw [ew]; decide) (cs_together_w l hlt D cI cJ cZ cO o C q H hq j _ n mo na aa bb re ef n2 mo2 na2 aa2 bb2 re2 ef2 t x9 y9 hj (by decide) (by decide) hx9 hy9 hc) (hme 1 (lk_1 ht)) (by rw [ew]; rfl) (by rw [ew]; exact Or.inl rfl) (fun h => absurd h (by rw [ew]; decide))
          · exact fin_together hI (by rw [ew]; decide) (cs_together_w l hlt D cI cJ cZ cO o C q H hq j _ n mo na aa bb re ef n2 mo2 na2 aa2 bb2 re2 ef2 t x9 y9 hj (by decide) (by decide) hx9 hy9 hc) (hme 1 (lk_1 ht)) (by rw [ew]; rfl) (by rw [ew]; exact Or.inl rfl) (fun h => absurd h (by rw [ew]; decide))
          · exact fin_together hI (by rw [ew]; decide) (cs_together_w l hlt D cI cJ cZ cO o C q H hq j _ n mo na aa bb re ef n2 mo2 na2 aa2 bb2 re2 ef2 t x9 y9 hj (by decide) (by decide) hx9 hy9 hc) (hme 1 (lk_1 ht)) (by rw [ew]; rfl) (by rw [ew]; exact Or.inl rfl) (fun h => absurd h (by rw [ew]; decide))
          · exact fin_together hI (by rw [ew]; decide) (cs_together_w l hlt D cI cJ cZ cO o C q H hq j _ n mo na aa bb re ef n2 mo2 na2 aa2 bb2 re2 ef2 t x9 y9 hj (by decide) (by decide) hx9 hy9 hc) (hme 1 (lk_1 ht)) (by rw [ew]; rfl) (by rw [ew]; exact Or.inl rfl) (fun h => absurd h (by rw [ew]; decide))
          · exact fin_together hI (by rw [ew]; decide) (cs_together_w l hlt D cI cJ cZ cO o C q H hq j _ n mo na aa bb re ef n2 mo2 na2 aa2 bb2 re2 ef2 t x9 y9 hj (by decide) (by decide) hx9 hy9 hc) (hme 1 (lk_1 ht)) (by rw [ew]; rfl) (by rw [ew]; exact Or.inl rfl) (fun h => absurd h (by rw [ew]; decide))
          · have e5 : f_EP_together_5 n mo na aa bb q.2.2.2.2.2.2.1 q.2.2.2.2.2.2.2.1 q.2.2.2.2.2.2.2.2 t x9 y9 = (1, 0) := by unfold f_EP_together_5; rw [if_neg ht]
            exact fin_together hI (by rw [e5]; decide) (cs_together_5 l hlt D cI cJ cZ cO o C q H hq j n mo na aa bb re ef n2 mo2 na2 aa2 bb2 re2 ef2 t x9 y9 hj hn (hop_c hO rfl) hx9 hy9 hc) (hme 1 (lk_1 ht)) (by rw [e5]; rfl) (by rw [e5]; exact Or.inl rfl) (fun h => absurd h (by rw [e5]; decide))
    · have e : f_EP_together_b t = (1, 0) := by unfold f_EP_together_b; split <;> rfl
      exact fin_together hI (by rw [e]; decide) (cs_together_b l hlt D cI cJ cZ cO o C q H hq id t x9 y9 hid hx9 hy9) ⟨ma, it, vs, se, sm, rs, wk, ors, owk, hb, m_Mo_together_b l D cI cJ cZ cO (o + 74) code kn ed ct ti nm xa xb ma it vs se sm rs wk ors owk id t x9 y9 hid hx9 hy9 1 rfl⟩ (by rw [e]; rfl) (by rw [e]; exact Or.inl rfl) (fun h => absurd h (by rw [e]; decide))
  · have e : f_EP_together_x t x y = (1, 0) := by
      unfold f_EP_together_x
      split
      · split
        · split <;> rfl
        · rfl
      · rfl
    exact fin_together hI (by rw [e]; decide) (cs_together_x l hlt D cI cJ cZ cO o C q H hq id t x y hE) ⟨ma, it, vs, se, sm, rs, wk, ors, owk, hb, m_Mo_together_x l D cI cJ cZ cO (o + 74) code kn ed ct ti nm xa xb ma it vs se sm rs wk ors owk id t x y (fun h => hE ⟨e15 h.1, e15 ⟨h.2.1, e15b h.2.2⟩⟩) () rfl⟩ (by rw [e]; rfl) (by rw [e]; exact Or.inl rfl) (fun h => absurd h (by rw [e]; decide))
theorem fin_operations {l : Launch} {D : va_G} {cI cJ cZ cO : ClassId} {o : Nat} {C : Nat → CoT} {H : Heap} {M : MT} (hI : Inv C M) {a0 : Int32} {kap : Nat} {r r1 : Int32} {c : Int32} (hk : kap ≤ 2) (hcs : CS l D cI cJ cZ cO o y_EP_operations k_EP_operations rx_EP_operations [.ref o, .int a0] E_NSE (some (.int r)) kap C H) (hm : MqS l D cI cJ cZ cO (o + 74) y_Md_operations k_Md_operations rm_Md_operations [.ref (o + 74), .int a0] (some (.int r1)) c M) (hc : c = nI kap) (he : kap = 0 → r = r1) : OP_operations l D cI cJ cZ cO o Inv M H a0 := by
  obtain ⟨ma1, it1, vs1, se1, sm1, rs1, wk1, ors1, owk1, hb, hM⟩ := hm
  exact ⟨kap, r, r1, C, _, hk, hcs, hM, hc, he, hb, hI.2⟩
theorem op_operations (l : Launch) (hlt : l.stackTraces = false) (D : va_G) (cI cJ cZ cO : ClassId) (o : Nat) (C : Nat → CoT) (q : ScT) (H : Heap) (hq : PCq D cI cJ cZ cO o C q H) (M : MT) (hI : Inv C M) (id : Int32) : OP_operations l D cI cJ cZ cO o Inv M H id := by
  obtain ⟨code, kn, ed, ct, ti, nm, xa, xb, ma, it, vs, se, sm, rs, wk, ors, owk⟩ := M
  have hb : bz wk := hI.1
  by_cases hid : okI id
  · obtain ⟨j, hj, rfl⟩ := okI_of hid
    rcases hc : C j with ⟨kd, ⟨n, mo, na, aa, bb, re, ef⟩, n2, mo2, na2, aa2, bb2, re2, ef2⟩
    have hJ : IJ j (C j) kn ed ct ti nm xa xb := hI.2 j hj
    rw [hc] at hJ
    obtain ⟨hn, hn2, hz, hct, hct2, hJ⟩ := IJ_el hJ
    have h1 : okM 1 := by decide
    rcases hJ with ⟨rfl, hk0⟩ | ⟨K, hK, rfl, hkn, hL, hL2, hO, hO2, hed⟩
    · have e : f_Mo_operations kn ct j = (0, 2) := by unfold f_Mo_operations; rw [lk_2 h1 hk0]; rfl
      exact fin_operations hI (by decide) (cs_operations_c l hlt D cI cJ cZ cO o C q H hq j n mo na aa bb re ef n2 mo2 na2 aa2 bb2 re2 ef2 hj hc) ⟨ma, it, vs, se, sm, rs, wk, ors, owk, hb, m_Mo_operations l D cI cJ cZ cO (o + 74) code kn ed ct ti nm xa xb ma it vs se sm rs wk ors owk j hj _ e⟩ rfl (fun h => absurd h (by decide))
    · have e : f_Mo_operations kn ct j = (ct j, 0) := by unfold f_Mo_operations; rw [lk_0 h1 (kn_ne hK hkn)]; rfl
      exact fin_operations hI (Nat.zero_le _) (cs_operations l hlt D cI cJ cZ cO o C q H hq j _ n mo na aa bb re ef n2 mo2 na2 aa2 bb2 re2 ef2 hj (by exact nI_ne_m1 (by omega)) hc) ⟨ma, it, vs, se, sm, rs, wk, ors, owk, hb, m_Mo_operations l D cI cJ cZ cO (o + 74) code kn ed ct ti nm xa xb ma it vs se sm rs wk ors owk j hj _ e⟩ rfl (fun _ => hct.symm)
  · exact fin_operations hI (by decide) (cs_operations_b l hlt D cI cJ cZ cO o C q H hq id hid) ⟨ma, it, vs, se, sm, rs, wk, ors, owk, hb, m_Mo_operations_b l D cI cJ cZ cO (o + 74) code kn ed ct ti nm xa xb ma it vs se sm rs wk ors owk id hid 1 rfl⟩ rfl (fun h => absurd h (by decide))
theorem fin_operation {l : Launch} {D : va_G} {cI cJ cZ cO : ClassId} {o : Nat} {C : Nat → CoT} {H : Heap} {M : MT} (hI : Inv C M) {a0 a1 a2 : Int32} {kap : Nat} {r r1 : Int32} {c : Int32} (hk : kap ≤ 3) (hcs : CS l D cI cJ cZ cO o y_EP_operation k_EP_operation rx_EP_operation [.ref o, .int a0, .int a1, .int a2] E_IOB (some (.int r)) kap C H) (hm : MqS l D cI cJ cZ cO (o + 74) y_Md_operation k_Md_operation rm_Md_operation [.ref (o + 74), .int a0, .int a1, .int a2] (some (.int r1)) c M) (hc : c = nI kap) (he : kap = 0 → r = r1) : OP_operation l D cI cJ cZ cO o Inv M H a0 a1 a2 := by
  obtain ⟨ma1, it1, vs1, se1, sm1, rs1, wk1, ors1, owk1, hb, hM⟩ := hm
  exact ⟨kap, r, r1, C, _, hk, hcs, hM, hc, he, hb, hI.2⟩
theorem i4 {f : Int32} (h : ¬ f < 0 ∧ f ≤ 3) : f = 0 ∨ f = 1 ∨ f = 2 ∨ f = 3 := by
  obtain ⟨j, h1, rfl⟩ := nI_of h.1
  have hj : j < 4 := by
    rcases Nat.lt_or_ge j 4 with h2 | h2
    · exact h2
    · have := nI_le (a := 4) h2 h1
      exact absurd (Int32.le_trans this h.2) (by decide)
  rcases (show j = 0 ∨ j = 1 ∨ j = 2 ∨ j = 3 by omega) with rfl | rfl | rfl | rfl
  · exact Or.inl rfl
  · exact Or.inr (Or.inl rfl)
  · exact Or.inr (Or.inr (Or.inl rfl))
  · exact Or.inr (Or.inr (Or.inr rfl))
theorem op_operation (l : Launch) (hlt : l.stackTraces = false) (D : va_G) (cI cJ cZ cO : ClassId) (o : Nat) (C : Nat → CoT) (q : ScT) (H : Heap) (hq : PCq D cI cJ cZ cO o C q H) (M : MT) (hI : Inv C M) (id i9 f9 : Int32) : OP_operation l D cI cJ cZ cO o Inv M H id i9 f9 := by
  obtain ⟨code, kn, ed, ct, ti, nm, xa, xb, ma, it, vs, se, sm, rs, wk, ors, owk⟩ := M
  have hb : bz wk := hI.1
  by_cases hid : okI id
  · obtain ⟨j, hj, rfl⟩ := okI_of hid
    rcases hc : C j with ⟨kd, ⟨n, mo, na, aa, bb, re, ef⟩, n2, mo2, na2, aa2, bb2, re2, ef2⟩
    have hJ : IJ j (C j) kn ed ct ti nm xa xb := hI.2 j hj
    rw [hc] at hJ
    obtain ⟨hn, hn2, hz, hct, hct2, hJ⟩ := IJ_el hJ
    -- the reference, by its own condition
    have hmm : ∀ c : Int32, i9 < 0 → f_Mo_operation_m kn j f9 = c → MqS l D cI cJ cZ cO (o + 74) y_Md_operation k_Md_operation rm_Md_operation [.ref (o + 74), .int (nI j), .int i9, .int f9] (some (.int 0)) c (code, kn, ed, ct, ti, nm, xa, xb, ma, it, vs, se, sm, rs, wk, ors, owk) := fun c h e => ⟨ma, it, vs, se, sm, rs, wk, ors, owk, hb, m_Mo_operation_m l D cI cJ cZ cO (o + 74) code kn ed ct ti nm xa xb ma it vs se sm rs wk ors owk j i9 f9 hj h c e⟩
    have hmn : ∀ (i8 : Nat) (R : Int32 × Int32), i8 < 2 ^ 31 → i9 = nI i8 → f_Mo_operation kn ti nm xa xb n j i8 f9 = R → MqS l D cI cJ cZ cO (o + 74) y_Md_operation k_Md_operation rm_Md_operation [.ref (o + 74), .int (nI j), .int i9, .int f9] (some (.int R.1)) R.2 (code, kn, ed, ct, ti, nm, xa, xb, ma, it, vs, se, sm, rs, wk, ors, owk) := fun i8 R h e h2 => ⟨ma, it, vs, se, sm, rs, wk, ors, owk, hb, by rw [e]; exact m_Mo_operation l D cI cJ cZ cO (o + 74) code kn ed ct ti nm xa xb ma it vs se sm rs wk ors owk n j i8 f9 hj h hct hn R h2⟩
    have hbad : ∀ c : Int32, (i9 < 0 → f_Mo_operation_m kn j f9 = c) → (∀ i8 : Nat, f_Mo_operation kn ti nm xa xb n j i8 f9 = (0, c)) → MqS l D cI cJ cZ cO (o + 74) y_Md_operation k_Md_operation rm_Md_operation [.ref (o + 74), .int (nI j), .int i9, .int f9] (some (.int 0)) c (code, kn, ed, ct, ti, nm, xa, xb, ma, it, vs, se, sm, rs, wk, ors, owk) := fun c h1 h2 => by
      by_cases hi : i9 < 0
      · exact hmm c hi (h1 hi)
      · obtain ⟨i8, k1, k2⟩ := nI_of hi
        exact hmn i8 (0, c) k1 k2 (h2 i8)
    by_cases hf : ¬ f9 < 0 ∧ f9 ≤ 3
    · rcases hJ with ⟨rfl, hk0⟩ | ⟨K, hK, rfl, hkn, hL, hL2, hO, hO2, hed⟩
      · have e : (f_EP_operation_c f9).1 = 2 := by unfold f_EP_operation_c; rw [if_neg hf.1, if_pos hf.2]
        exact fin_operation hI (by omega) (cs_operation_c l hlt D cI cJ cZ cO o C q H hq j n mo na aa bb re ef n2 mo2 na2 aa2 bb2 re2 ef2 i9 f9 hj hc) (hbad 2 (fun _ => by unfold f_Mo_operation_m; rw [if_neg hf.1, if_pos hf.2, if_pos hk0]) (fun i8 => by unfold f_Mo_operation; rw [if_neg hf.1, if_pos hf.2, if_pos hk0])) (by rw [e]; rfl) (fun h => absurd h (by omega))
      · have hkz := kn_ne hK hkn
        have hkd : ¬ nI K = -1 := nI_ne_m1 (by omega)
        by_cases hi : i9 < 0
        · have e : (f_EP_operation_m f9).1 = 3 := by unfold f_EP_operation_m; rw [if_neg hf.1, if_pos hf.2]
          exact fin_operation hI (by omega) (cs_operation_m l hlt D cI cJ cZ cO o C q H hq j _ n mo na aa bb re ef n2 mo2 na2 aa2 bb2 re2 ef2 i9 f9 hj hkd hi hc) (hmm 3 hi (by unfold f_Mo_operation_m; rw [if_neg hf.1, if_pos hf.2, if_neg hkz])) (by rw [e]; rfl) (fun h => absurd h (by omega))
        · obtain ⟨i8, k1, k2⟩ := nI_of hi
          have e0 : f_Mo_operation kn ti nm xa xb n j i8 f9 = if i8 < n then (if f9 = 0 then (ti (32 * j + i8), 0) else (if f9 = 1 then (nm (32 * j + i8), 0) else (if f9 = 2 then (xa (32 * j + i8), 0) else (xb (32 * j + i8), 0)))) else (0, 3) := by unfold f_Mo_operation; rw [if_neg hf.1, if_pos hf.2, if_neg hkz]
          by_cases hin : i8 < n
          · rw [if_pos hin] at e0
            obtain ⟨l1, l2, l3, l4⟩ := hL i8 hin
            rcases i4 hf with rfl | rfl | rfl | rfl
            · have e : f_EP_operation_0 n mo i8 = (0, mo i8) := by unfold f_EP_operation_0; rw [if_pos hin]
              have hm := hmn i8 _ k1 k2 e0
              rw [k2] at hm ⊢
              exact fin_operation hI (by rw [e]; exact Nat.zero_le _) (cs_operation_0 l hlt D cI cJ cZ cO o C q H hq j _ n mo na aa bb re ef n2 mo2 na2 aa2 bb2 re2 ef2 i8 hj hkd hn k1 hc) hm (by rw [e]; rfl) (fun _ => by rw [e]; exact l1.symm)
            · have e : f_EP_operation_1 n na i8 = (0, na i8) := by unfold f_EP_operation_1; rw [if_pos hin]
              have hm := hmn i8 _ k1 k2 e0
              rw [k2] at hm ⊢
              exact fin_operation hI (by rw [e]; exact Nat.zero_le _) (cs_operation_1 l hlt D cI cJ cZ cO o C q H hq j _ n mo na aa bb re ef n2 mo2 na2 aa2 bb2 re2 ef2 i8 hj hkd hn k1 hc) hm (by rw [e]; rfl) (fun _ => by rw [e]; exact l2.symm)
            · have e : f_EP_operation_2 n aa i8 = (0, aa i8) := by unfold f_EP_operation_2; rw [if_pos hin]
              have hm := hmn i8 _ k1 k2 e0
              rw [k2] at hm ⊢
              exact fin_operation hI (by rw [e]; exact Nat.zero_le _) (cs_operation_2 l hlt D cI cJ cZ cO o C q H hq j _ n mo na aa bb re ef n2 mo2 na2 aa2 bb2 re2 ef2 i8 hj hkd hn k1 hc) hm (by rw [e]; rfl) (fun _ => by rw [e]; exact l3.symm)
            · have e : f_EP_operation_3 n bb i8 = (0, bb i8) := by unfold f_EP_operation_3; rw [if_pos hin]
              have hm := hmn i8 _ k1 k2 e0
              rw [k2] at hm ⊢
              exact fin_operation hI (by rw [e]; exact Nat.zero_le _) (cs_operation_3 l hlt D cI cJ cZ cO o C q H hq j _ n mo na aa bb re ef n2 mo2 na2 aa2 bb2 re2 ef2 i8 hj hkd hn k1 hc) hm (by rw [e]; rfl) (fun _ => by rw [e]; exact l4.symm)
          · rw [if_neg hin] at e0
            rcases i4 hf with rfl | rfl | rfl | rfl
            · have e : f_EP_operation_0 n mo i8 = (3, 0) := by unfold f_EP_operation_0; rw [if_neg hin]
              have hm := hmn i8 _ k1 k2 e0
              rw [k2] at hm ⊢
              exact fin_operation hI (by rw [e]; decide) (cs_operation_0 l hlt D cI cJ cZ cO o C q H hq j _ n mo na aa bb re ef n2 mo2 na2 aa2 bb2 re2 ef2 i8 hj hkd hn k1 hc) hm (by rw [e]; rfl) (fun h => absurd h (by rw [e]; decide))
            · have e : f_EP_operation_1 n na i8 = (3, 0) := by unfold f_EP_operation_1; rw [if_neg hin]
              have hm := hmn i8 _ k1 k2 e0
              rw [k2] at hm ⊢
              exact fin_operation hI (by rw [e]; decide) (cs_operation_1 l hlt D cI cJ cZ cO o C q H hq j _ n mo na aa bb re ef n2 mo2 na2 aa2 bb2 re2 ef2 i8 hj hkd hn k1 hc) hm (by rw [e]; rfl) (fun h => absurd h (by rw [e]; decide))
            · have e : f_EP_operation_2 n aa i8 = (3, 0) := by unfold f_EP_operation_2; rw [if_neg hin]
              have hm := hmn i8 _ k1 k2 e0
              rw [k2] at hm ⊢
              exact fin_operation hI (by rw [e]; decide) (cs_operation_2 l hlt D cI cJ cZ cO o C q H hq j _ n mo na aa bb re ef n2 mo2 na2 aa2 bb2 re2 ef2 i8 hj hkd hn k1 hc) hm (by rw [e]; rfl) (fun h => absurd h (by rw [e]; decide))
            · have e : f_EP_operation_3 n bb i8 = (3, 0) := by unfold f_EP_operation_3; rw [if_neg hin]
              have hm := hmn i8 _ k1 k2 e0
              rw [k2] at hm ⊢
              exact fin_operation hI (by rw [e]; decide) (cs_operation_3 l hlt D cI cJ cZ cO o C q H hq j _ n mo na aa bb re ef n2 mo2 na2 aa2 bb2 re2 ef2 i8 hj hkd hn k1 hc) hm (by rw [e]; rfl) (fun h => absurd h (by rw [e]; decide))
    · have e : (f_EP_operation_x f9).1 = 1 := by
        unfold f_EP_operation_x
        split
        · rfl
        · split <;> rfl
      have hq1 : ∀ (A B : Int32), (if f9 < 0 then (1 : Int32) else (if f9 ≤ 3 then A else 1)) = 1 := fun A B => by
        by_cases h1 : f9 < 0
        · rw [if_pos h1]
        · rw [if_neg h1, if_neg (fun h2 => hf ⟨h1, h2⟩)]
      have hq2 : ∀ (A : Int32 × Int32), (if f9 < 0 then ((0, 1) : Int32 × Int32) else (if f9 ≤ 3 then A else (0, 1))) = (0, 1) := fun A => by
        by_cases h1 : f9 < 0
        · rw [if_pos h1]
        · rw [if_neg h1, if_neg (fun h2 => hf ⟨h1, h2⟩)]
      exact fin_operation hI (by omega) (cs_operation_x l hlt D cI cJ cZ cO o C q H hq (nI j) i9 f9 hf) (hbad 1 (fun _ => hq1 _ 0) (fun i8 => hq2 _)) (by rw [e]; rfl) (fun h => absurd h (by omega))
  · have e : (f_EP_operation_b f9).1 = 1 := by
      unfold f_EP_operation_b
      split
      · rfl
      · split <;> rfl
    exact fin_operation hI (by omega) (cs_operation_b l hlt D cI cJ cZ cO o C q H hq id i9 f9 hid) ⟨ma, it, vs, se, sm, rs, wk, ors, owk, hb, m_Mo_operation_b l D cI cJ cZ cO (o + 74) code kn ed ct ti nm xa xb ma it vs se sm rs wk ors owk id i9 f9 hid () rfl⟩ (by rw [e]; rfl) (fun h => absurd h (by omega))
