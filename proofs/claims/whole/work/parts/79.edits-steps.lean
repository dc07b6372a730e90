/-! the editing calls as steps of both sides (by wip/whole/gen/ops4.py) -/
theorem op_open (l : Launch) (hlt : l.stackTraces = false) (D : va_G) (cI cJ cZ cO : ClassId) (o : Nat) (C : Nat → CoT) (q : ScT) (H : Heap) (hq : PCq D cI cJ cZ cO o C q H) (M : MT) (hI : Inv C M) (id u : Int32) : OP_open l D cI cJ cZ cO o Inv M H id u := by
  obtain ⟨code, kn, ed, ct, ti, nm, xa, xb, ma, it, vs, se, sm, rs, wk, ors, owk⟩ := M
  have hb : bz wk := hI.1
  by_cases hid : okI id
  · obtain ⟨j, hj, rfl⟩ := okI_of hid
    rcases hc : C j with ⟨kd, ⟨n, mo, na, aa, bb, re, ef⟩, n2, mo2, na2, aa2, bb2, re2, ef2⟩
    have hJ : IJ j (C j) kn ed ct ti nm xa xb := hI.2 j hj
    rw [hc] at hJ
    obtain ⟨hn, hn2, hz, hct, hct2, hJ⟩ := IJ_el hJ
    have hcs := cs_open l hlt D cI cJ cZ cO o C q H hq j kd n mo na aa bb re ef n2 mo2 na2 aa2 bb2 re2 ef2 u hj hc
    have same : ∀ k : Nat, k ≤ 2 → f_EP_open kd n n2 u = (k, kd, n, n2) → f_Mo_open kn ed ct j u = (nI k, kn, ed, ct) → OP_open l D cI cJ cZ cO o Inv (code, kn, ed, ct, ti, nm, xa, xb, ma, it, vs, se, sm, rs, wk, ors, owk) H (nI j) u := fun k hk e1 e2 => by
      rw [e1] at hcs
      have hcs2 : CS l D cI cJ cZ cO o y_EP_open k_EP_open rx_EP_open [.ref o, .int (nI j), .int u] E_NSE none k (updC C j (kd, (n, mo, na, aa, bb, re, ef), (n2, mo2, na2, aa2, bb2, re2, ef2))) H := hcs
      rw [updC_self hc] at hcs2
      exact fin_open hI hk hcs2 ⟨ma, it, vs, se, sm, rs, wk, ors, owk, hb, m_Mo_open l D cI cJ cZ cO (o + 74) code kn ed ct ti nm xa xb ma it vs se sm rs wk ors owk j u hj _ e2⟩ rfl
    by_cases h1 : u < 0
    · exact same 1 (by decide) (by unfold f_EP_open; rw [if_pos h1]) (by unfold f_Mo_open; rw [if_pos h1]; rfl)
    · by_cases h2 : u ≤ 5
      · rcases hJ with ⟨rfl, hk0⟩ | ⟨K, hK, rfl, hkn, hL, hL2, hO, hO2, hed⟩
        · obtain ⟨K, hK, rfl⟩ := kd_of h1 h2
          have e1 : f_EP_open (-1) n n2 (nI K) = (0, nI K, 0, 0) := by unfold f_EP_open; rw [if_neg h1, if_pos h2, if_pos rfl]
          have e2 : f_Mo_open kn ed ct j (nI K) = (0, upd kn j (nI (K + 1)), upd ed j 0, upd (upd ct j 0) (j + 4) 0) := by
            unfold f_Mo_open
            rw [if_neg h1, if_pos h2, if_pos (by rw [hk0]; decide), kn_up hK]
          rw [e1] at hcs
          refine ⟨0, _, (0, upd kn j (nI (K + 1)), upd ed j 0, upd (upd ct j 0) (j + 4) 0, ti, nm, xa, xb, ma, it, vs, se, sm, rs, wk, ors, owk), by decide, hcs, m_Mo_open l D cI cJ cZ cO (o + 74) code kn ed ct ti nm xa xb ma it vs se sm rs wk ors owk j (nI K) hj _ e2, rfl, Inv_up hI hb (IJ_mk ⟨Nat.zero_le _, Nat.zero_le _, hz, ?_, ?_, Or.inr ⟨K, hK, rfl, ?_, fun p hp => absurd hp (Nat.not_lt_zero p), fun p hp => absurd hp (Nat.not_lt_zero p), LOK_nil K _ _ _ _ _ _, LOK_nil K _ _ _ _ _ _, fun _ => ⟨rfl, rfl⟩⟩⟩) (fun i hi e => ⟨?_, ?_, ?_, ?_, fun q9 _ => ⟨rfl, rfl, rfl, rfl⟩⟩)⟩
          · show upd (upd ct j 0) (j + 4) 0 j = nI 0
            rw [upd_ne _ _ (by omega), upd_at]; rfl
          · show upd (upd ct j 0) (j + 4) 0 (j + 4) = nI 0
            rw [upd_at]; rfl
          · exact upd_at _ _ _
          · exact upd_ne _ _ e
          · exact upd_ne _ _ e
          · show upd (upd ct j 0) (j + 4) 0 i = ct i
            rw [upd_ne _ _ (by omega), upd_ne _ _ e]
          · show upd (upd ct j 0) (j + 4) 0 (i + 4) = ct (i + 4)
            rw [upd_ne _ _ (by omega), upd_ne _ _ (by omega)]
        · have hkd : ¬ nI K = -1 := nI_ne_m1 (by omega)
          exact same 2 (by decide) (by unfold f_EP_open; rw [if_neg h1, if_pos h2, if_neg hkd]) (by unfold f_Mo_open; rw [if_neg h1, if_pos h2, if_neg (kn_le hK hkn)]; rfl)
      · exact same 1 (by decide) (by unfold f_EP_open; rw [if_neg h1, if_neg h2]) (by unfold f_Mo_open; rw [if_neg h1, if_neg h2]; rfl)
  · have e : f_EP_open_b u = 1 := by
      unfold f_EP_open_b
      split
      · rfl
      · split <;> rfl
    exact fin_open hI (by omega) (cs_open_b l hlt D cI cJ cZ cO o C q H hq id u hid) ⟨ma, it, vs, se, sm, rs, wk, ors, owk, hb, m_Mo_open_b l D cI cJ cZ cO (o + 74) code kn ed ct ti nm xa xb ma it vs se sm rs wk ors owk id u hid 1 rfl⟩ (by rw [e]; rfl)
theorem op_close (l : Launch) (hlt : l.stackTraces = false) (D : va_G) (cI cJ cZ cO : ClassId) (o : Nat) (C : Nat → CoT) (q : ScT) (H : Heap) (hq : PCq D cI cJ cZ cO o C q H) (M : MT) (hI : Inv C M) (id : Int32) : OP_close l D cI cJ cZ cO o Inv M H id := by
  obtain ⟨code, kn, ed, ct, ti, nm, xa, xb, ma, it, vs, se, sm, rs, wk, ors, owk⟩ := M
  have hb : bz wk := hI.1
  by_cases hid : okI id
  · obtain ⟨j, hj, rfl⟩ := okI_of hid
    rcases hc : C j with ⟨kd, ⟨n, mo, na, aa, bb, re, ef⟩, n2, mo2, na2, aa2, bb2, re2, ef2⟩
    have hJ : IJ j (C j) kn ed ct ti nm xa xb := hI.2 j hj
    rw [hc] at hJ
    obtain ⟨hn, hn2, hz, hct, hct2, hJ⟩ := IJ_el hJ
    have h1 : okM 1 := by decide
    rcases hJ with ⟨rfl, hk0⟩ | ⟨K, hK, rfl, hkn, hL, hL2, hO, hO2, hed⟩
    · have e : f_Mo_close kn ct j = (0, 2, kn) := by unfold f_Mo_close; rw [lk_2 h1 hk0]; rfl
      exact fin_close hI (by decide) (cs_close_c l hlt D cI cJ cZ cO o C q H hq j n mo na aa bb re ef n2 mo2 na2 aa2 bb2 re2 ef2 hj hc) ⟨ma, it, vs, se, sm, rs, wk, ors, owk, hb, m_Mo_close l D cI cJ cZ cO (o + 74) code kn ed ct ti nm xa xb ma it vs se sm rs wk ors owk j hj _ e⟩ rfl (fun h => absurd h (by decide))
    · have e : f_Mo_close kn ct j = (ct j, 0, upd kn j 0) := by unfold f_Mo_close; rw [lk_0 h1 (kn_ne hK hkn)]; rfl
      exact ⟨0, nI n, ct j, _, (0, upd kn j 0, ed, ct, ti, nm, xa, xb, ma, it, vs, se, sm, rs, wk, ors, owk), by decide, cs_close l hlt D cI cJ cZ cO o C q H hq j _ n mo na aa bb re ef n2 mo2 na2 aa2 bb2 re2 ef2 hj (nI_ne_m1 (by omega)) hc, m_Mo_close l D cI cJ cZ cO (o + 74) code kn ed ct ti nm xa xb ma it vs se sm rs wk ors owk j hj _ e, rfl, fun _ => hct.symm, Inv_up hI hb (IJ_mk ⟨hn, hn2, hz, hct, hct2, Or.inl ⟨rfl, upd_at _ _ _⟩⟩) (fun i hi e => ⟨upd_ne _ _ e, rfl, rfl, rfl, fun q9 _ => ⟨rfl, rfl, rfl, rfl⟩⟩)⟩
  · exact fin_close hI (by decide) (cs_close_b l hlt D cI cJ cZ cO o C q H hq id hid) ⟨ma, it, vs, se, sm, rs, wk, ors, owk, hb, m_Mo_close_b l D cI cJ cZ cO (o + 74) code kn ed ct ti nm xa xb ma it vs se sm rs wk ors owk id hid 1 rfl⟩ rfl (fun h => absurd h (by decide))
theorem op_put_0 (l : Launch) (hlt : l.stackTraces = false) (D : va_G) (cI cJ cZ cO : ClassId) (o : Nat) (C : Nat → CoT) (q : ScT) (H : Heap) (hq : PCq D cI cJ cZ cO o C q H) (code : Int32) (kn ed ct ti nm xa xb : Nat → Int32) (ma : Int32) (it vs se : Nat → Int32) (sm : Int64) (rs : Nat → Int64) (wk : Nat → Int32) (ors : Nat → Int64) (owk : Nat → Int32) (hI : Inv C (code, kn, ed, ct, ti, nm, xa, xb, ma, it, vs, se, sm, rs, wk, ors, owk)) (j : Nat) (n : Nat) (mo na aa bb : Nat → Int32) (re : Nat → Int64) (ef : Nat → Int32) (n2 : Nat) (mo2 na2 aa2 bb2 : Nat → Int32) (re2 : Nat → Int64) (ef2 : Nat → Int32) (t u x y : Int32) (hj : j < 4) (hn : n ≤ 32) (hz : bz ef) (hct : ct j = nI n) (hkn : kn j = nI (0 + 1)) (hc : C j = (nI 0, (n, mo, na, aa, bb, re, ef), (n2, mo2, na2, aa2, bb2, re2, ef2))) (hL : LEq n mo na aa bb ti nm xa xb (32 * j)) (hO : LOK 0 n mo na aa bb re ef) (ht : okM t) : OP_put l D cI cJ cZ cO o Inv (code, kn, ed, ct, ti, nm, xa, xb, ma, it, vs, se, sm, rs, wk, ors, owk) H (nI j) t u x y := by
  have hb : bz wk := hI.1
  have hcs := cs_put_0 l hlt D cI cJ cZ cO o C q H hq j n mo na aa bb re ef n2 mo2 na2 aa2 bb2 re2 ef2 t u x y hj hn hz hc
  have hlk : (f_Mo_lacks kn j t).1 = 0 := by rw [lk_0 ht (kn_ne (by decide) hkn)]
  have hE : f_Mo_find ti n j t = pat mo t n := find_pat hL.mo hO.1
  have hal : f_Ba_allows u x y = f_Mo_fits_0 u x y := al_Ba u x y
  have same : ∀ k : Nat, k ≤ 3 → f_EP_put_0 n mo na aa bb re ef n2 mo2 na2 aa2 bb2 re2 ef2 q.1.2.1 q.1.2.2.1 q.1.2.2.2 t u x y = (k, n, mo, na, aa, bb, re, ef, n2, mo2, na2, aa2, bb2, re2, ef2) → f_Mo_put_0 ed ct ti nm xa xb n j t u x y = (nI k, ed, ct, ti, nm, xa, xb) → OP_put l D cI cJ cZ cO o Inv (code, kn, ed, ct, ti, nm, xa, xb, ma, it, vs, se, sm, rs, wk, ors, owk) H (nI j) t u x y := fun k hk e1 e2 => by
    rw [e1] at hcs
    have hcs2 : CS l D cI cJ cZ cO o y_EP_put k_EP_put rx_EP_put [.ref o, .int (nI j), .int t, .int u, .int x, .int y] E_UOE none k (updC C j (nI 0, (n, mo, na, aa, bb, re, ef), (n2, mo2, na2, aa2, bb2, re2, ef2))) H := hcs
    rw [updC_self hc] at hcs2
    exact fin_put hI hk hcs2 ⟨ma, it, vs, se, sm, rs, wk, ors, owk, hb, m_Mo_put_0 l D cI cJ cZ cO (o + 74) code kn ed ct ti nm xa xb ma it vs se sm rs wk ors owk n j t u x y hj hlk hkn hct hn _ e2⟩ rfl
  by_cases h1 : pat mo t n = -1
  · by_cases h2 : n < 32
    · by_cases h3 : f_Ba_allows u x y = 0
      · exact same 3 (by decide) (by unfold f_EP_put_0; rw [if_pos ht, if_pos h1, if_pos h2, if_pos h3]) (by unfold f_Mo_put_0; rw [hE, if_neg (fun h => h h1), if_neg (by omega), if_pos (hal.symm.trans h3)]; rfl)
      · have hno := pat_no hn hO.1 h1
        obtain ⟨R, hR⟩ : ∃ R, f_EP_put_0 n mo na aa bb re ef n2 mo2 na2 aa2 bb2 re2 ef2 q.1.2.1 q.1.2.2.1 q.1.2.2.2 t u x y = R := ⟨_, rfl⟩
        have hR2 := hR
        unfold f_EP_put_0 at hR2
        rw [if_pos ht, if_pos h1, if_pos h2, if_neg h3] at hR2
        subst hR2
        rw [hR] at hcs
        obtain ⟨R2, hM⟩ : ∃ R, f_Mo_put_0 ed ct ti nm xa xb n j t u x y = R := ⟨_, rfl⟩
        have hM2 := hM
        unfold f_Mo_put_0 at hM2
        rw [hE, if_neg (fun h => h h1), if_neg (by omega), if_neg (fun h => h3 (hal.trans h))] at hM2
        refine ⟨0, _, (R2.1, kn, R2.2.1, R2.2.2.1, R2.2.2.2.1, R2.2.2.2.2.1, R2.2.2.2.2.2.1, R2.2.2.2.2.2.2, ma, it, vs, se, sm, rs, wk, ors, owk), by decide, hcs, m_Mo_put_0 l D cI cJ cZ cO (o + 74) code kn ed ct ti nm xa xb ma it vs se sm rs wk ors owk n j t u x y hj hlk hkn hct hn R2 hM, ?_, ?_⟩
        · subst hM2
          rfl
        · subst hM2
          exact Inv_edit hI hj (by decide) rfl hkn hn hL hO (put_edt h2 hL hO.1 hno hct) h2 (rdo_bz (stC := (fun nm x _ => bgS 2 nm x)) (fun u x y s => bgS_bz 2 u x s) _ _ _ _ _ (shu_bz hz (Nat.sub_le _ _))) (LOK_ins hO hno ht (vk_0 _ _ _) (RES_0 _ _ _ _ _ _ _ _ _))
    · exact same 2 (by decide) (by unfold f_EP_put_0; rw [if_pos ht, if_pos h1, if_neg h2]) (by unfold f_Mo_put_0; rw [hE, if_neg (fun h => h h1), if_pos (by omega)]; rfl)
  · exact same 2 (by decide) (by unfold f_EP_put_0; rw [if_pos ht, if_neg h1]) (by unfold f_Mo_put_0; rw [hE, if_pos h1]; rfl)
theorem op_strike_0 (l : Launch) (hlt : l.stackTraces = false) (D : va_G) (cI cJ cZ cO : ClassId) (o : Nat) (C : Nat → CoT) (q : ScT) (H : Heap) (hq : PCq D cI cJ cZ cO o C q H) (code : Int32) (kn ed ct ti nm xa xb : Nat → Int32) (ma : Int32) (it vs se : Nat → Int32) (sm : Int64) (rs : Nat → Int64) (wk : Nat → Int32) (ors : Nat → Int64) (owk : Nat → Int32) (hI : Inv C (code, kn, ed, ct, ti, nm, xa, xb, ma, it, vs, se, sm, rs, wk, ors, owk)) (j : Nat) (n : Nat) (mo na aa bb : Nat → Int32) (re : Nat → Int64) (ef : Nat → Int32) (n2 : Nat) (mo2 na2 aa2 bb2 : Nat → Int32) (re2 : Nat → Int64) (ef2 : Nat → Int32) (t : Int32) (hj : j < 4) (hn : n ≤ 32) (hz : bz ef) (hct : ct j = nI n) (hkn : kn j = nI (0 + 1)) (hc : C j = (nI 0, (n, mo, na, aa, bb, re, ef), (n2, mo2, na2, aa2, bb2, re2, ef2))) (hL : LEq n mo na aa bb ti nm xa xb (32 * j)) (hO : LOK 0 n mo na aa bb re ef) (ht : okM t) : OP_strike l D cI cJ cZ cO o Inv (code, kn, ed, ct, ti, nm, xa, xb, ma, it, vs, se, sm, rs, wk, ors, owk) H (nI j) t := by
  have hb : bz wk := hI.1
  have hcs := cs_strike_0 l hlt D cI cJ cZ cO o C q H hq j n mo na aa bb re ef n2 mo2 na2 aa2 bb2 re2 ef2 t hj hn hz hc
  have hkz : ¬ kn j = 0 := kn_ne (by decide) hkn
  have hlk : (f_Mo_lacks kn j t).1 = 0 := by rw [lk_0 ht hkz]
  have hE : f_Mo_find ti n j t = pat mo t n := find_pat hL.mo hO.1
  by_cases h1 : pat mo t n = -1
  · have e1 : f_EP_strike_0 n mo na aa bb re ef n2 mo2 na2 aa2 bb2 re2 ef2 q.1.2.1 q.1.2.2.1 q.1.2.2.2 t = (0, 0, n, mo, na, aa, bb, re, ef, n2, mo2, na2, aa2, bb2, re2, ef2) := by unfold f_EP_strike_0; rw [if_pos ht, if_neg (fun h => h h1)]
    have e2 : f_Mo_strike kn ed ct ti nm xa xb n j t = (0, (f_Mo_lacks kn j t).2, ed, ct, ti, nm, xa, xb) := by unfold f_Mo_strike; rw [hE, if_neg (fun h => h h1)]
    rw [e1] at hcs
    have hcs2 : CS l D cI cJ cZ cO o y_EP_strike k_EP_strike rx_EP_strike [.ref o, .int (nI j), .int t] E_NSE (some (.int 0)) 0 (updC C j (nI 0, (n, mo, na, aa, bb, re, ef), (n2, mo2, na2, aa2, bb2, re2, ef2))) H := hcs
    rw [updC_self hc] at hcs2
    exact fin_strike hI (by decide) hcs2 ⟨ma, it, vs, se, sm, rs, wk, ors, owk, hb, m_Mo_strike l D cI cJ cZ cO (o + 74) code kn ed ct ti nm xa xb ma it vs se sm rs wk ors owk n j t hj hlk hct hn _ e2⟩ (lk_s ht hkz) (Or.inl rfl) (fun _ => rfl)
  · have hp0 := pat_lt hn h1
    obtain ⟨R, hR⟩ : ∃ R, f_EP_strike_0 n mo na aa bb re ef n2 mo2 na2 aa2 bb2 re2 ef2 q.1.2.1 q.1.2.2.1 q.1.2.2.2 t = R := ⟨_, rfl⟩
    have hR2 := hR
    unfold f_EP_strike_0 at hR2
    rw [if_pos ht, if_pos h1] at hR2
    subst hR2
    rw [hR] at hcs
    obtain ⟨R2, hM⟩ : ∃ R, f_Mo_strike kn ed ct ti nm xa xb n j t = R := ⟨_, rfl⟩
    have hM2 := hM
    unfold f_Mo_strike at hM2
    rw [hE, if_pos h1] at hM2
    refine ⟨0, 1, R2.1, _, (R2.2.1, kn, R2.2.2.1, R2.2.2.2.1, R2.2.2.2.2.1, R2.2.2.2.2.2.1, R2.2.2.2.2.2.2.1, R2.2.2.2.2.2.2.2, ma, it, vs, se, sm, rs, wk, ors, owk), by decide, hcs, m_Mo_strike l D cI cJ cZ cO (o + 74) code kn ed ct ti nm xa xb ma it vs se sm rs wk ors owk n j t hj hlk hct hn R2 hM, ?_, Or.inr rfl, ?_, ?_⟩
    · subst hM2
      exact lk_s ht hkz
    · subst hM2
      exact fun _ => rfl
    · subst hM2
      exact Inv_edit hI hj (by decide) rfl hkn hn hL hO (strike_edt hn hp0 hL hct) (show n - 1 ≤ 32 by omega) (rdo_bz (stC := (fun nm x _ => bgS 2 nm x)) (fun u x y s => bgS_bz 2 u x s) _ _ _ _ _ (shd_bz hz _ _)) (LOK_rem hO hp0 (RES_0 _ _ _ _ _ _ _ _ _))
theorem op_shift_0 (l : Launch) (hlt : l.stackTraces = false) (D : va_G) (cI cJ cZ cO : ClassId) (o : Nat) (C : Nat → CoT) (q : ScT) (H : Heap) (hq : PCq D cI cJ cZ cO o C q H) (code : Int32) (kn ed ct ti nm xa xb : Nat → Int32) (ma : Int32) (it vs se : Nat → Int32) (sm : Int64) (rs : Nat → Int64) (wk : Nat → Int32) (ors : Nat → Int64) (owk : Nat → Int32) (hI : Inv C (code, kn, ed, ct, ti, nm, xa, xb, ma, it, vs, se, sm, rs, wk, ors, owk)) (j : Nat) (n : Nat) (mo na aa bb : Nat → Int32) (re : Nat → Int64) (ef : Nat → Int32) (n2 : Nat) (mo2 na2 aa2 bb2 : Nat → Int32) (re2 : Nat → Int64) (ef2 : Nat → Int32) (t u : Int32) (hj : j < 4) (hn : n ≤ 32) (hz : bz ef) (hct : ct j = nI n) (hkn : kn j = nI (0 + 1)) (hc : C j = (nI 0, (n, mo, na, aa, bb, re, ef), (n2, mo2, na2, aa2, bb2, re2, ef2))) (hL : LEq n mo na aa bb ti nm xa xb (32 * j)) (hO : LOK 0 n mo na aa bb re ef) (ht : okM t) (hu : okM u) : OP_shift l D cI cJ cZ cO o Inv (code, kn, ed, ct, ti, nm, xa, xb, ma, it, vs, se, sm, rs, wk, ors, owk) H (nI j) t u := by
  have hb : bz wk := hI.1
  have hcs := cs_shift_0 l hlt D cI cJ cZ cO o C q H hq j n mo na aa bb re ef n2 mo2 na2 aa2 bb2 re2 ef2 t u hj hn hz hc
  have hkz : ¬ kn j = 0 := kn_ne (by decide) hkn
  have hEt : f_Mo_find ti n j t = pat mo t n := find_pat hL.mo hO.1
  have hEu : f_Mo_find ti n j u = pat mo u n := find_pat hL.mo hO.1
  have same : ∀ k : Nat, k ≤ 3 → f_EP_shift_0 n mo na aa bb re ef n2 mo2 na2 aa2 bb2 re2 ef2 q.1.2.1 q.1.2.2.1 q.1.2.2.2 t u = (k, n, mo, na, aa, bb, re, ef, n2, mo2, na2, aa2, bb2, re2, ef2) → f_Mo_shift kn ed ct ti nm xa xb n j t u = (nI k, ed, ct, ti, nm, xa, xb) → OP_shift l D cI cJ cZ cO o Inv (code, kn, ed, ct, ti, nm, xa, xb, ma, it, vs, se, sm, rs, wk, ors, owk) H (nI j) t u := fun k hk e1 e2 => by
    rw [e1] at hcs
    have hcs2 : CS l D cI cJ cZ cO o y_EP_shift k_EP_shift rx_EP_shift [.ref o, .int (nI j), .int t, .int u] E_NSE none k (updC C j (nI 0, (n, mo, na, aa, bb, re, ef), (n2, mo2, na2, aa2, bb2, re2, ef2))) H := hcs
    rw [updC_self hc] at hcs2
    exact fin_shift hI hk hcs2 ⟨ma, it, vs, se, sm, rs, wk, ors, owk, hb, m_Mo_shift l D cI cJ cZ cO (o + 74) code kn ed ct ti nm xa xb ma it vs se sm rs wk ors owk n j t u hj hct hn _ e2⟩ rfl
  by_cases h2 : pat mo u n = -1
  · by_cases h1 : pat mo t n = -1
    · exact same 3 (by decide) (by unfold f_EP_shift_0; rw [if_pos ht, if_pos hu, if_pos h2, if_neg (fun h => h h1)]) (by unfold f_Mo_shift; rw [hEt, hEu, if_pos ht, if_pos hu, if_neg hkz, if_neg (fun h => h h2), if_neg (fun h => h h1)]; rfl)
    · have hp0 := pat_lt hn h1
      have hno := pat_no hn hO.1 h2
      have hno2 : ∀ q9, q9 < n - 1 → ¬ shd mo (n - 1 - (pat mo t n).toNatClampNeg) (pat mo t n).toNatClampNeg q9 = u := fun q9 hq9 => all_rem (P := fun m _ _ _ => ¬ m = u) (a := mo) (b := mo) (c := mo) (d := mo) (fun p hp => hno p hp) hp0 q9 hq9
      obtain ⟨-, g2, g3, g4⟩ := rem_LEq (ed := ed) (ct := ct) hn hL _ hp0
      have hO9 := LOK_rem hO hp0 (RES_0 _ _ _ _ (fun _ => 0) 0 0 (fun _ => 0) (fun _ => 0))
      obtain ⟨R, hR⟩ : ∃ R, f_EP_shift_0 n mo na aa bb re ef n2 mo2 na2 aa2 bb2 re2 ef2 q.1.2.1 q.1.2.2.1 q.1.2.2.2 t u = R := ⟨_, rfl⟩
      have hR2 := hR
      unfold f_EP_shift_0 at hR2
      rw [if_pos ht, if_pos hu, if_pos h2, if_pos h1] at hR2
      unfold f_Li_relocate at hR2
      subst hR2
      rw [hR] at hcs
      obtain ⟨R2, hM⟩ : ∃ R, f_Mo_shift kn ed ct ti nm xa xb n j t u = R := ⟨_, rfl⟩
      have hM2 := hM
      unfold f_Mo_shift at hM2
      rw [hEt, hEu, if_pos ht, if_pos hu, if_neg hkz, if_neg (fun h => h h2), if_pos h1, g2, g3, g4] at hM2
      refine ⟨0, _, (R2.1, kn, R2.2.1, R2.2.2.1, R2.2.2.2.1, R2.2.2.2.2.1, R2.2.2.2.2.2.1, R2.2.2.2.2.2.2, ma, it, vs, se, sm, rs, wk, ors, owk), by decide, hcs, m_Mo_shift l D cI cJ cZ cO (o + 74) code kn ed ct ti nm xa xb ma it vs se sm rs wk ors owk n j t u hj hct hn R2 hM, ?_, ?_⟩
      · subst hM2
        rfl
      · subst hM2
        exact Inv_edit hI hj (by decide) rfl hkn hn hL hO (edt_ins (show n - 1 < 32 by omega) (Srt_rem hO.1 hp0) hno2 (strike_edt hn hp0 hL hct)) (show n - 1 + 1 ≤ 32 by omega) (rdo_bz (stC := (fun nm x _ => bgS 2 nm x)) (fun u x y s => bgS_bz 2 u x s) _ _ _ _ _ (shu_bz (shd_bz hz _ _) (Nat.sub_le _ _))) (LOK_ins hO9 hno2 hu (hO.2.2.1 _ hp0) (RES_0 _ _ _ _ _ _ _ _ _))
  · exact same 2 (by decide) (by unfold f_EP_shift_0; rw [if_pos ht, if_pos hu, if_neg h2]) (by unfold f_Mo_shift; rw [hEu, if_pos ht, if_pos hu, if_neg hkz, if_pos h2]; rfl)
theorem op_put_1 (l : Launch) (hlt : l.stackTraces = false) (D : va_G) (cI cJ cZ cO : ClassId) (o : Nat) (C : Nat → CoT) (q : ScT) (H : Heap) (hq : PCq D cI cJ cZ cO o C q H) (code : Int32) (kn ed ct ti nm xa xb : Nat → Int32) (ma : Int32) (it vs se : Nat → Int32) (sm : Int64) (rs : Nat → Int64) (wk : Nat → Int32) (ors : Nat → Int64) (owk : Nat → Int32) (hI : Inv C (code, kn, ed, ct, ti, nm, xa, xb, ma, it, vs, se, sm, rs, wk, ors, owk)) (j : Nat) (n : Nat) (mo na aa bb : Nat → Int32) (re : Nat → Int64) (ef : Nat → Int32) (n2 : Nat) (mo2 na2 aa2 bb2 : Nat → Int32) (re2 : Nat → Int64) (ef2 : Nat → Int32) (t u x y : Int32) (hj : j < 4) (hn : n ≤ 32) (hz : bz ef) (hct : ct j = nI n) (hkn : kn j = nI (1 + 1)) (hc : C j = (nI 1, (n, mo, na, aa, bb, re, ef), (n2, mo2, na2, aa2, bb2, re2, ef2))) (hL : LEq n mo na aa bb ti nm xa xb (32 * j)) (hO : LOK 1 n mo na aa bb re ef) (ht : okM t) : OP_put l D cI cJ cZ cO o Inv (code, kn, ed, ct, ti, nm, xa, xb, ma, it, vs, se, sm, rs, wk, ors, owk) H (nI j) t u x y := by
  have hb : bz wk := hI.1
  have hcs := cs_put_1 l hlt D cI cJ cZ cO o C q H hq j n mo na aa bb re ef n2 mo2 na2 aa2 bb2 re2 ef2 t u x y hj hn hz hc
  have hlk : (f_Mo_lacks kn j t).1 = 0 := by rw [lk_0 ht (kn_ne (by decide) hkn)]
  have hE : f_Mo_find ti n j t = pat mo t n := find_pat hL.mo hO.1
  have hal : f_Ba_allows u x y = f_Mo_fits_1 u x y := al_Ba u x y
  have same : ∀ k : Nat, k ≤ 3 → f_EP_put_1 n mo na aa bb re ef n2 mo2 na2 aa2 bb2 re2 ef2 q.2.1.2.1 q.2.1.2.2.1 q.2.1.2.2.2 t u x y = (k, n, mo, na, aa, bb, re, ef, n2, mo2, na2, aa2, bb2, re2, ef2) → f_Mo_put_1 ed ct ti nm xa xb n j t u x y = (nI k, ed, ct, ti, nm, xa, xb) → OP_put l D cI cJ cZ cO o Inv (code, kn, ed, ct, ti, nm, xa, xb, ma, it, vs, se, sm, rs, wk, ors, owk) H (nI j) t u x y := fun k hk e1 e2 => by
    rw [e1] at hcs
    have hcs2 : CS l D cI cJ cZ cO o y_EP_put k_EP_put rx_EP_put [.ref o, .int (nI j), .int t, .int u, .int x, .int y] E_UOE none k (updC C j (nI 1, (n, mo, na, aa, bb, re, ef), (n2, mo2, na2, aa2, bb2, re2, ef2))) H := hcs
    rw [updC_self hc] at hcs2
    exact fin_put hI hk hcs2 ⟨ma, it, vs, se, sm, rs, wk, ors, owk, hb, m_Mo_put_1 l D cI cJ cZ cO (o + 74) code kn ed ct ti nm xa xb ma it vs se sm rs wk ors owk n j t u x y hj hlk hkn hct hn _ e2⟩ rfl
  by_cases h1 : pat mo t n = -1
  · by_cases h2 : n < 32
    · by_cases h3 : f_Ba_allows u x y = 0
      · exact same 3 (by decide) (by unfold f_EP_put_1; rw [if_pos ht, if_pos h1, if_pos h2, if_pos h3]) (by unfold f_Mo_put_1; rw [hE, if_neg (fun h => h h1), if_neg (by omega), if_pos (hal.symm.trans h3)]; rfl)
      · have hno := pat_no hn hO.1 h1
        obtain ⟨R, hR⟩ : ∃ R, f_EP_put_1 n mo na aa bb re ef n2 mo2 na2 aa2 bb2 re2 ef2 q.2.1.2.1 q.2.1.2.2.1 q.2.1.2.2.2 t u x y = R := ⟨_, rfl⟩
        have hR2 := hR
        unfold f_EP_put_1 at hR2
        rw [if_pos ht, if_pos h1, if_pos h2, if_neg h3] at hR2
        subst hR2
        rw [hR] at hcs
        obtain ⟨R2, hM⟩ : ∃ R, f_Mo_put_1 ed ct ti nm xa xb n j t u x y = R := ⟨_, rfl⟩
        have hM2 := hM
        unfold f_Mo_put_1 at hM2
        rw [hE, if_neg (fun h => h h1), if_neg (by omega), if_neg (fun h => h3 (hal.trans h))] at hM2
        refine ⟨0, _, (R2.1, kn, R2.2.1, R2.2.2.1, R2.2.2.2.1, R2.2.2.2.2.1, R2.2.2.2.2.2.1, R2.2.2.2.2.2.2, ma, it, vs, se, sm, rs, wk, ors, owk), by decide, hcs, m_Mo_put_1 l D cI cJ cZ cO (o + 74) code kn ed ct ti nm xa xb ma it vs se sm rs wk ors owk n j t u x y hj hlk hkn hct hn R2 hM, ?_, ?_⟩
        · subst hM2
          rfl
        · subst hM2
          exact Inv_edit hI hj (by decide) rfl hkn hn hL hO (put_edt h2 hL hO.1 hno hct) h2 (rdo_bz (stC := (fun nm x _ => bgS 3 nm x)) (fun u x y s => bgS_bz 3 u x s) _ _ _ _ _ (shu_bz hz (Nat.sub_le _ _))) (LOK_ins hO hno ht (vk_1 _ _ _) (RES_1 _ _ _ _ _ _ _ _ _))
    · exact same 2 (by decide) (by unfold f_EP_put_1; rw [if_pos ht, if_pos h1, if_neg h2]) (by unfold f_Mo_put_1; rw [hE, if_neg (fun h => h h1), if_pos (by omega)]; rfl)
  · exact same 2 (by decide) (by unfold f_EP_put_1; rw [if_pos ht, if_neg h1]) (by unfold f_Mo_put_1; rw [hE, if_pos h1]; rfl)
theorem op_strike_1 (l : Launch) (hlt : l.stackTraces = false) (D : va_G) (cI cJ cZ cO : ClassId) (o : Nat) (C : Nat → CoT) (q : ScT) (H : Heap) (hq : PCq D cI cJ cZ cO o C q H) (code : Int32) (kn ed ct ti nm xa xb : Nat → Int32) (ma : Int32) (it vs se : Nat → Int32) (sm : Int64) (rs : Nat → Int64) (wk : Nat → Int32) (ors : Nat → Int64) (owk : Nat → Int32) (hI : Inv C (code, kn, ed, ct, ti, nm, xa, xb, ma, it, vs, se, sm, rs, wk, ors, owk)) (j : Nat) (n : Nat) (mo na aa bb : Nat → Int32) (re : Nat → Int64) (ef : Nat → Int32) (n2 : Nat) (mo2 na2 aa2 bb2 : Nat → Int32) (re2 : Nat → Int64) (ef2 : Nat → Int32) (t : Int32) (hj : j < 4) (hn : n ≤ 32) (hz : bz ef) (hct : ct j = nI n) (hkn : kn j = nI (1 + 1)) (hc : C j = (nI 1, (n, mo, na, aa, bb, re, ef), (n2, mo2, na2, aa2, bb2, re2, ef2))) (hL : LEq n mo na aa bb ti nm xa xb (32 * j)) (hO : LOK 1 n mo na aa bb re ef) (ht : okM t) : OP_strike l D cI cJ cZ cO o Inv (code, kn, ed, ct, ti, nm, xa, xb, ma, it, vs, se, sm, rs, wk, ors, owk) H (nI j) t := by
  have hb : bz wk := hI.1
  have hcs := cs_strike_1 l hlt D cI cJ cZ cO o C q H hq j n mo na aa bb re ef n2 mo2 na2 aa2 bb2 re2 ef2 t hj hn hz hc
  have hkz : ¬ kn j = 0 := kn_ne (by decide) hkn
  have hlk : (f_Mo_lacks kn j t).1 = 0 := by rw [lk_0 ht hkz]
  have hE : f_Mo_find ti n j t = pat mo t n := find_pat hL.mo hO.1
  by_cases h1 : pat mo t n = -1
  · have e1 : f_EP_strike_1 n mo na aa bb re ef n2 mo2 na2 aa2 bb2 re2 ef2 q.2.1.2.1 q.2.1.2.2.1 q.2.1.2.2.2 t = (0, 0, n, mo, na, aa, bb, re, ef, n2, mo2, na2, aa2, bb2, re2, ef2) := by unfold f_EP_strike_1; rw [if_pos ht, if_neg (fun h => h h1)]
    have e2 : f_Mo_strike kn ed ct ti nm xa xb n j t = (0, (f_Mo_lacks kn j t).2, ed, ct, ti, nm, xa, xb) := by unfold f_Mo_strike; rw [hE, if_neg (fun h => h h1)]
    rw [e1] at hcs
    have hcs2 : CS l D cI cJ cZ cO o y_EP_strike k_EP_strike rx_EP_strike [.ref o, .int (nI j), .int t] E_NSE (some (.int 0)) 0 (updC C j (nI 1, (n, mo, na, aa, bb, re, ef), (n2, mo2, na2, aa2, bb2, re2, ef2))) H := hcs
    rw [updC_self hc] at hcs2
    exact fin_strike hI (by decide) hcs2 ⟨ma, it, vs, se, sm, rs, wk, ors, owk, hb, m_Mo_strike l D cI cJ cZ cO (o + 74) code kn ed ct ti nm xa xb ma it vs se sm rs wk ors owk n j t hj hlk hct hn _ e2⟩ (lk_s ht hkz) (Or.inl rfl) (fun _ => rfl)
  · have hp0 := pat_lt hn h1
    obtain ⟨R, hR⟩ : ∃ R, f_EP_strike_1 n mo na aa bb re ef n2 mo2 na2 aa2 bb2 re2 ef2 q.2.1.2.1 q.2.1.2.2.1 q.2.1.2.2.2 t = R := ⟨_, rfl⟩
    have hR2 := hR
    unfold f_EP_strike_1 at hR2
    rw [if_pos ht, if_pos h1] at hR2
    subst hR2
    rw [hR] at hcs
    obtain ⟨R2, hM⟩ : ∃ R, f_Mo_strike kn ed ct ti nm xa xb n j t = R := ⟨_, rfl⟩
    have hM2 := hM
    unfold f_Mo_strike at hM2
    rw [hE, if_pos h1] at hM2
    refine ⟨0, 1, R2.1, _, (R2.2.1, kn, R2.2.2.1, R2.2.2.2.1, R2.2.2.2.2.1, R2.2.2.2.2.2.1, R2.2.2.2.2.2.2.1, R2.2.2.2.2.2.2.2, ma, it, vs, se, sm, rs, wk, ors, owk), by decide, hcs, m_Mo_strike l D cI cJ cZ cO (o + 74) code kn ed ct ti nm xa xb ma it vs se sm rs wk ors owk n j t hj hlk hct hn R2 hM, ?_, Or.inr rfl, ?_, ?_⟩
    · subst hM2
      exact lk_s ht hkz
    · subst hM2
      exact fun _ => rfl
    · subst hM2
      exact Inv_edit hI hj (by decide) rfl hkn hn hL hO (strike_edt hn hp0 hL hct) (show n - 1 ≤ 32 by omega) (rdo_bz (stC := (fun nm x _ => bgS 3 nm x)) (fun u x y s => bgS_bz 3 u x s) _ _ _ _ _ (shd_bz hz _ _)) (LOK_rem hO hp0 (RES_1 _ _ _ _ _ _ _ _ _))
theorem op_shift_1 (l : Launch) (hlt : l.stackTraces = false) (D : va_G) (cI cJ cZ cO : ClassId) (o : Nat) (C : Nat → CoT) (q : ScT) (H : Heap) (hq : PCq D cI cJ cZ cO o C q H) (code : Int32) (kn ed ct ti nm xa xb : Nat → Int32) (ma : Int32) (it vs se : Nat → Int32) (sm : Int64) (rs : Nat → Int64) (wk : Nat → Int32) (ors : Nat → Int64) (owk : Nat → Int32) (hI : Inv C (code, kn, ed, ct, ti, nm, xa, xb, ma, it, vs, se, sm, rs, wk, ors, owk)) (j : Nat) (n : Nat) (mo na aa bb : Nat → Int32) (re : Nat → Int64) (ef : Nat → Int32) (n2 : Nat) (mo2 na2 aa2 bb2 : Nat → Int32) (re2 : Nat → Int64) (ef2 : Nat → Int32) (t u : Int32) (hj : j < 4) (hn : n ≤ 32) (hz : bz ef) (hct : ct j = nI n) (hkn : kn j = nI (1 + 1)) (hc : C j = (nI 1, (n, mo, na, aa, bb, re, ef), (n2, mo2, na2, aa2, bb2, re2, ef2))) (hL : LEq n mo na aa bb ti nm xa xb (32 * j)) (hO : LOK 1 n mo na aa bb re ef) (ht : okM t) (hu : okM u) : OP_shift l D cI cJ cZ cO o Inv (code, kn, ed, ct, ti, nm, xa, xb, ma, it, vs, se, sm, rs, wk, ors, owk) H (nI j) t u := by
  have hb : bz wk := hI.1
  have hcs := cs_shift_1 l hlt D cI cJ cZ cO o C q H hq j n mo na aa bb re ef n2 mo2 na2 aa2 bb2 re2 ef2 t u hj hn hz hc
  have hkz : ¬ kn j = 0 := kn_ne (by decide) hkn
  have hEt : f_Mo_find ti n j t = pat mo t n := find_pat hL.mo hO.1
  have hEu : f_Mo_find ti n j u = pat mo u n := find_pat hL.mo hO.1
  have same : ∀ k : Nat, k ≤ 3 → f_EP_shift_1 n mo na aa bb re ef n2 mo2 na2 aa2 bb2 re2 ef2 q.2.1.2.1 q.2.1.2.2.1 q.2.1.2.2.2 t u = (k, n, mo, na, aa, bb, re, ef, n2, mo2, na2, aa2, bb2, re2, ef2) → f_Mo_shift kn ed ct ti nm xa xb n j t u = (nI k, ed, ct, ti, nm, xa, xb) → OP_shift l D cI cJ cZ cO o Inv (code, kn, ed, ct, ti, nm, xa, xb, ma, it, vs, se, sm, rs, wk, ors, owk) H (nI j) t u := fun k hk e1 e2 => by
    rw [e1] at hcs
    have hcs2 : CS l D cI cJ cZ cO o y_EP_shift k_EP_shift rx_EP_shift [.ref o, .int (nI j), .int t, .int u] E_NSE none k (updC C j (nI 1, (n, mo, na, aa, bb, re, ef), (n2, mo2, na2, aa2, bb2, re2, ef2))) H := hcs
    rw [updC_self hc] at hcs2
    exact fin_shift hI hk hcs2 ⟨ma, it, vs, se, sm, rs, wk, ors, owk, hb, m_Mo_shift l D cI cJ cZ cO (o + 74) code kn ed ct ti nm xa xb ma it vs se sm rs wk ors owk n j t u hj hct hn _ e2⟩ rfl
  by_cases h2 : pat mo u n = -1
  · by_cases h1 : pat mo t n = -1
    · exact same 3 (by decide) (by unfold f_EP_shift_1; rw [if_pos ht, if_pos hu, if_pos h2, if_neg (fun h => h h1)]) (by unfold f_Mo_shift; rw [hEt, hEu, if_pos ht, if_pos hu, if_neg hkz, if_neg (fun h => h h2), if_neg (fun h => h h1)]; rfl)
    · have hp0 := pat_lt hn h1
      have hno := pat_no hn hO.1 h2
      have hno2 : ∀ q9, q9 < n - 1 → ¬ shd mo (n - 1 - (pat mo t n).toNatClampNeg) (pat mo t n).toNatClampNeg q9 = u := fun q9 hq9 => all_rem (P := fun m _ _ _ => ¬ m = u) (a := mo) (b := mo) (c := mo) (d := mo) (fun p hp => hno p hp) hp0 q9 hq9
      obtain ⟨-, g2, g3, g4⟩ := rem_LEq (ed := ed) (ct := ct) hn hL _ hp0
      have hO9 := LOK_rem hO hp0 (RES_1 _ _ _ _ (fun _ => 0) 0 0 (fun _ => 0) (fun _ => 0))
      obtain ⟨R, hR⟩ : ∃ R, f_EP_shift_1 n mo na aa bb re ef n2 mo2 na2 aa2 bb2 re2 ef2 q.2.1.2.1 q.2.1.2.2.1 q.2.1.2.2.2 t u = R := ⟨_, rfl⟩
      have hR2 := hR
      unfold f_EP_shift_1 at hR2
      rw [if_pos ht, if_pos hu, if_pos h2, if_pos h1] at hR2
      unfold f_Li_relocate at hR2
      subst hR2
      rw [hR] at hcs
      obtain ⟨R2, hM⟩ : ∃ R, f_Mo_shift kn ed ct ti nm xa xb n j t u = R := ⟨_, rfl⟩
      have hM2 := hM
      unfold f_Mo_shift at hM2
      rw [hEt, hEu, if_pos ht, if_pos hu, if_neg hkz, if_neg (fun h => h h2), if_pos h1, g2, g3, g4] at hM2
      refine ⟨0, _, (R2.1, kn, R2.2.1, R2.2.2.1, R2.2.2.2.1, R2.2.2.2.2.1, R2.2.2.2.2.2.1, R2.2.2.2.2.2.2, ma, it, vs, se, sm, rs, wk, ors, owk), by decide, hcs, m_Mo_shift l D cI cJ cZ cO (o + 74) code kn ed ct ti nm xa xb ma it vs se sm rs wk ors owk n j t u hj hct hn R2 hM, ?_, ?_⟩
      · subst hM2
        rfl
      · subst hM2
        exact Inv_edit hI hj (by decide) rfl hkn hn hL hO (edt_ins (show n - 1 < 32 by omega) (Srt_rem hO.1 hp0) hno2 (strike_edt hn hp0 hL hct)) (show n - 1 + 1 ≤ 32 by omega) (rdo_bz (stC := (fun nm x _ => bgS 3 nm x)) (fun u x y s => bgS_bz 3 u x s) _ _ _ _ _ (shu_bz (shd_bz hz _ _) (Nat.sub_le _ _))) (LOK_ins hO9 hno2 hu (hO.2.2.1 _ hp0) (RES_1 _ _ _ _ _ _ _ _ _))
  · exact same 2 (by decide) (by unfold f_EP_shift_1; rw [if_pos ht, if_pos hu, if_neg h2]) (by unfold f_Mo_shift; rw [hEu, if_pos ht, if_pos hu, if_neg hkz, if_pos h2]; rfl)
theorem op_put_2 (l : Launch) (hlt : l.stackTraces = false) (D : va_G) (cI cJ cZ cO : ClassId) (o : Nat) (C : Nat → CoT) (q : ScT) (H : Heap) (hq : PCq D cI cJ cZ cO o C q H) (code : Int32) (kn ed ct ti nm xa xb : Nat → Int32) (ma : Int32) (it vs se : Nat → Int32) (sm : Int64) (rs : Nat → Int64) (wk : Nat → Int32) (ors : Nat → Int64) (owk : Nat → Int32) (hI : Inv C (code, kn, ed, ct, ti, nm, xa, xb, ma, it, vs, se, sm, rs, wk, ors, owk)) (j : Nat) (n : Nat) (mo na aa bb : Nat → Int32) (re : Nat → Int64) (ef : Nat → Int32) (n2 : Nat) (mo2 na2 aa2 bb2 : Nat → Int32) (re2 : Nat → Int64) (ef2 : Nat → Int32) (t u x y : Int32) (hj : j < 4) (hn : n ≤ 32) (hz : bz ef) (hct : ct j = nI n) (hkn : kn j = nI (2 + 1)) (hc : C j = (nI 2, (n, mo, na, aa, bb, re, ef), (n2, mo2, na2, aa2, bb2, re2, ef2))) (hL : LEq n mo na aa bb ti nm xa xb (32 * j)) (hO : LOK 2 n mo na aa bb re ef) (ht : okM t) : OP_put l D cI cJ cZ cO o Inv (code, kn, ed, ct, ti, nm, xa, xb, ma, it, vs, se, sm, rs, wk, ors, owk) H (nI j) t u x y := by
  have hb : bz wk := hI.1
  have hcs := cs_put_2 l hlt D cI cJ cZ cO o C q H hq j n mo na aa bb re ef n2 mo2 na2 aa2 bb2 re2 ef2 t u x y hj hn hz hc
  have hlk : (f_Mo_lacks kn j t).1 = 0 := by rw [lk_0 ht (kn_ne (by decide) hkn)]
  have hE : f_Mo_find ti n j t = pat mo t n := find_pat hL.mo hO.1
  have hal : f_Ta_allows u x y = f_Mo_fits_2 u x y := al_Ta u x y
  have same : ∀ k : Nat, k ≤ 3 → f_EP_put_2 n mo na aa bb re ef n2 mo2 na2 aa2 bb2 re2 ef2 q.2.2.1.2.2.1 q.2.2.1.2.1 q.2.2.1.2.2.2.1 q.2.2.1.2.2.2.2 t u x y = (k, n, mo, na, aa, bb, re, ef, n2, mo2, na2, aa2, bb2, re2, ef2) → f_Mo_put_2 ed ct ti nm xa xb n j t u x y = (nI k, ed, ct, ti, nm, xa, xb) → OP_put l D cI cJ cZ cO o Inv (code, kn, ed, ct, ti, nm, xa, xb, ma, it, vs, se, sm, rs, wk, ors, owk) H (nI j) t u x y := fun k hk e1 e2 => by
    rw [e1] at hcs
    have hcs2 : CS l D cI cJ cZ cO o y_EP_put k_EP_put rx_EP_put [.ref o, .int (nI j), .int t, .int u, .int x, .int y] E_UOE none k (updC C j (nI 2, (n, mo, na, aa, bb, re, ef), (n2, mo2, na2, aa2, bb2, re2, ef2))) H := hcs
    rw [updC_self hc] at hcs2
    exact fin_put hI hk hcs2 ⟨ma, it, vs, se, sm, rs, wk, ors, owk, hb, m_Mo_put_2 l D cI cJ cZ cO (o + 74) code kn ed ct ti nm xa xb ma it vs se sm rs wk ors owk n j t u x y hj hlk hkn hct hn _ e2⟩ rfl
  by_cases h1 : pat mo t n = -1
  · by_cases h2 : n < 32
    · by_cases h3 : f_Ta_allows u x y = 0
      · exact same 3 (by decide) (by unfold f_EP_put_2; rw [if_pos ht, if_pos h1, if_pos h2, if_pos h3]) (by unfold f_Mo_put_2; rw [hE, if_neg (fun h => h h1), if_neg (by omega), if_pos (hal.symm.trans h3)]; rfl)
      · have hno := pat_no hn hO.1 h1
        obtain ⟨R, hR⟩ : ∃ R, f_EP_put_2 n mo na aa bb re ef n2 mo2 na2 aa2 bb2 re2 ef2 q.2.2.1.2.2.1 q.2.2.1.2.1 q.2.2.1.2.2.2.1 q.2.2.1.2.2.2.2 t u x y = R := ⟨_, rfl⟩
        have hR2 := hR
        unfold f_EP_put_2 at hR2
        rw [if_pos ht, if_pos h1, if_pos h2, if_neg h3] at hR2
        subst hR2
        rw [hR] at hcs
        obtain ⟨R2, hM⟩ : ∃ R, f_Mo_put_2 ed ct ti nm xa xb n j t u x y = R := ⟨_, rfl⟩
        have hM2 := hM
        unfold f_Mo_put_2 at hM2
        rw [hE, if_neg (fun h => h h1), if_neg (by omega), if_neg (fun h => h3 (hal.trans h))] at hM2
        refine ⟨0, _, (R2.1, kn, R2.2.1, R2.2.2.1, R2.2.2.2.1, R2.2.2.2.2.1, R2.2.2.2.2.2.1, R2.2.2.2.2.2.2, ma, it, vs, se, sm, rs, wk, ors, owk), by decide, hcs, m_Mo_put_2 l D cI cJ cZ cO (o + 74) code kn ed ct ti nm xa xb ma it vs se sm rs wk ors owk n j t u x y hj hlk hkn hct hn R2 hM, ?_, ?_⟩
        · subst hM2
          rfl
        · subst hM2
          exact Inv_edit hI hj (by decide) rfl hkn hn hL hO (put_edt h2 hL hO.1 hno hct) h2 (rdo_bz (stC := taS) (fun u x y s => taS_bz u x y s) _ _ _ _ _ (shu_bz hz (Nat.sub_le _ _))) (LOK_ins hO hno ht (vk_2 h3) (RES_2 _ _ _ _ _ _ _ _ _ _))
    · exact same 2 (by decide) (by unfold f_EP_put_2; rw [if_pos ht, if_pos h1, if_neg h2]) (by unfold f_Mo_put_2; rw [hE, if_neg (fun h => h h1), if_pos (by omega)]; rfl)
  · exact same 2 (by decide) (by unfold f_EP_put_2; rw [if_pos ht, if_neg h1]) (by unfold f_Mo_put_2; rw [hE, if_pos h1]; rfl)
theorem op_strike_2 (l : Launch) (hlt : l.stackTraces = false) (D : va_G) (cI cJ cZ cO : ClassId) (o : Nat) (C : Nat → CoT) (q : ScT) (H : Heap) (hq : PCq D cI cJ cZ cO o C q H) (code : Int32) (kn ed ct ti nm xa xb : Nat → Int32) (ma : Int32) (it vs se : Nat → Int32) (sm : Int64) (rs : Nat → Int64) (wk : Nat → Int32) (ors : Nat → Int64) (owk : Nat → Int32) (hI : Inv C (code, kn, ed, ct, ti, nm, xa, xb, ma, it, vs, se, sm, rs, wk, ors, owk)) (j : Nat) (n : Nat) (mo na aa bb : Nat → Int32) (re : Nat → Int64) (ef : Nat → Int32) (n2 : Nat) (mo2 na2 aa2 bb2 : Nat → Int32) (re2 : Nat → Int64) (ef2 : Nat → Int32) (t : Int32) (hj : j < 4) (hn : n ≤ 32) (hz : bz ef) (hct : ct j = nI n) (hkn : kn j = nI (2 + 1)) (hc : C j = (nI 2, (n, mo, na, aa, bb, re, ef), (n2, mo2, na2, aa2, bb2, re2, ef2))) (hL : LEq n mo na aa bb ti nm xa xb (32 * j)) (hO : LOK 2 n mo na aa bb re ef) (ht : okM t) : OP_strike l D cI cJ cZ cO o Inv (code, kn, ed, ct, ti, nm, xa, xb, ma, it, vs, se, sm, rs, wk, ors, owk) H (nI j) t := by
  have hb : bz wk := hI.1
  have hcs := cs_strike_2 l hlt D cI cJ cZ cO o C q H hq j n mo na aa bb re ef n2 mo2 na2 aa2 bb2 re2 ef2 t hj hn hz hc
  have hkz : ¬ kn j = 0 := kn_ne (by decide) hkn
  have hlk : (f_Mo_lacks kn j t).1 = 0 := by rw [lk_0 ht hkz]
  have hE : f_Mo_find ti n j t = pat mo t n := find_pat hL.mo hO.1
  by_cases h1 : pat mo t n = -1
  · have e1 : f_EP_strike_2 n mo na aa bb re ef n2 mo2 na2 aa2 bb2 re2 ef2 q.2.2.1.2.2.1 q.2.2.1.2.1 q.2.2.1.2.2.2.1 q.2.2.1.2.2.2.2 t = (0, 0, n, mo, na, aa, bb, re, ef, n2, mo2, na2, aa2, bb2, re2, ef2) := by unfold f_EP_strike_2; rw [if_pos ht, if_neg (fun h => h h1)]
    have e2 : f_Mo_strike kn ed ct ti nm xa xb n j t = (0, (f_Mo_lacks kn j t).2, ed, ct, ti, nm, xa, xb) := by unfold f_Mo_strike; rw [hE, if_neg (fun h => h h1)]
    rw [e1] at hcs
    have hcs2 : CS l D cI cJ cZ cO o y_EP_strike k_EP_strike rx_EP_strike [.ref o, .int (nI j), .int t] E_NSE (some (.int 0)) 0 (updC C j (nI 2, (n, mo, na, aa, bb, re, ef), (n2, mo2, na2, aa2, bb2, re2, ef2))) H := hcs
    rw [updC_self hc] at hcs2
    exact fin_strike hI (by decide) hcs2 ⟨ma, it, vs, se, sm, rs, wk, ors, owk, hb, m_Mo_strike l D cI cJ cZ cO (o + 74) code kn ed ct ti nm xa xb ma it vs se sm rs wk ors owk n j t hj hlk hct hn _ e2⟩ (lk_s ht hkz) (Or.inl rfl) (fun _ => rfl)
  · have hp0 := pat_lt hn h1
    obtain ⟨R, hR⟩ : ∃ R, f_EP_strike_2 n mo na aa bb re ef n2 mo2 na2 aa2 bb2 re2 ef2 q.2.2.1.2.2.1 q.2.2.1.2.1 q.2.2.1.2.2.2.1 q.2.2.1.2.2.2.2 t = R := ⟨_, rfl⟩
    have hR2 := hR
    unfold f_EP_strike_2 at hR2
    rw [if_pos ht, if_pos h1] at hR2
    subst hR2
    rw [hR] at hcs
    obtain ⟨R2, hM⟩ : ∃ R, f_Mo_strike kn ed ct ti nm xa xb n j t = R := ⟨_, rfl⟩
    have hM2 := hM
    unfold f_Mo_strike at hM2
    rw [hE, if_pos h1] at hM2
    refine ⟨0, 1, R2.1, _, (R2.2.1, kn, R2.2.2.1, R2.2.2.2.1, R2.2.2.2.2.1, R2.2.2.2.2.2.1, R2.2.2.2.2.2.2.1, R2.2.2.2.2.2.2.2, ma, it, vs, se, sm, rs, wk, ors, owk), by decide, hcs, m_Mo_strike l D cI cJ cZ cO (o + 74) code kn ed ct ti nm xa xb ma it vs se sm rs wk ors owk n j t hj hlk hct hn R2 hM, ?_, Or.inr rfl, ?_, ?_⟩
    · subst hM2
      exact lk_s ht hkz
    · subst hM2
      exact fun _ => rfl
    · subst hM2
      exact Inv_edit hI hj (by decide) rfl hkn hn hL hO (strike_edt hn hp0 hL hct) (show n - 1 ≤ 32 by omega) (rdo_bz (stC := taS) (fun u x y s => taS_bz u x y s) _ _ _ _ _ (shd_bz hz _ _)) (LOK_rem hO hp0 (RES_2 _ _ _ _ _ _ _ _ _ _))
theorem op_shift_2 (l : Launch) (hlt : l.stackTraces = false) (D : va_G) (cI cJ cZ cO : ClassId) (o : Nat) (C : Nat → CoT) (q : ScT) (H : Heap) (hq : PCq D cI cJ cZ cO o C q H) (code : Int32) (kn ed ct ti nm xa xb : Nat → Int32) (ma : Int32) (it vs se : Nat → Int32) (sm : Int64) (rs : Nat → Int64) (wk : Nat → Int32) (ors : Nat → Int64) (owk : Nat → Int32) (hI : Inv C (code, kn, ed, ct, ti, nm, xa, xb, ma, it, vs, se, sm, rs, wk, ors, owk)) (j : Nat) (n : Nat) (mo na aa bb : Nat → Int32) (re : Nat → Int64) (ef : Nat → Int32) (n2 : Nat) (mo2 na2 aa2 bb2 : Nat → Int32) (re2 : Nat → Int64) (ef2 : Nat → Int32) (t u : Int32) (hj : j < 4) (hn : n ≤ 32) (hz : bz ef) (hct : ct j = nI n) (hkn : kn j = nI (2 + 1)) (hc : C j = (nI 2, (n, mo, na, aa, bb, re, ef), (n2, mo2, na2, aa2, bb2, re2, ef2))) (hL : LEq n mo na aa bb ti nm xa xb (32 * j)) (hO : LOK 2 n mo na aa bb re ef) (ht : okM t) (hu : okM u) : OP_shift l D cI cJ cZ cO o Inv (code, kn, ed, ct, ti, nm, xa, xb, ma, it, vs, se, sm, rs, wk, ors, owk) H (nI j) t u := by
  have hb : bz wk := hI.1
  have hcs := cs_shift_2 l hlt D cI cJ cZ cO o C q H hq j n mo na aa bb re ef n2 mo2 na2 aa2 bb2 re2 ef2 t u hj hn hz hc
  have hkz : ¬ kn j = 0 := kn_ne (by decide) hkn
  have hEt : f_Mo_find ti n j t = pat mo t n := find_pat hL.mo hO.1
  have hEu : f_Mo_find ti n j u = pat mo u n := find_pat hL.mo hO.1
  have same : ∀ k : Nat, k ≤ 3 → f_EP_shift_2 n mo na aa bb re ef n2 mo2 na2 aa2 bb2 re2 ef2 q.2.2.1.2.2.1 q.2.2.1.2.1 q.2.2.1.2.2.2.1 q.2.2.1.2.2.2.2 t u = (k, n, mo, na, aa, bb, re, ef, n2, mo2, na2, aa2, bb2, re2, ef2) → f_Mo_shift kn ed ct ti nm xa xb n j t u = (nI k, ed, ct, ti, nm, xa, xb) → OP_shift l D cI cJ cZ cO o Inv (code, kn, ed, ct, ti, nm, xa, xb, ma, it, vs, se, sm, rs, wk, ors, owk) H (nI j) t u := fun k hk e1 e2 => by
    rw [e1] at hcs
    have hcs2 : CS l D cI cJ cZ cO o y_EP_shift k_EP_shift rx_EP_shift [.ref o, .int (nI j), .int t, .int u] E_NSE none k (updC C j (nI 2, (n, mo, na, aa, bb, re, ef), (n2, mo2, na2, aa2, bb2, re2, ef2))) H := hcs
    rw [updC_self hc] at hcs2
    exact fin_shift hI hk hcs2 ⟨ma, it, vs, se, sm, rs, wk, ors, owk, hb, m_Mo_shift l D cI cJ cZ cO (o + 74) code kn ed ct ti nm xa xb ma it vs se sm rs wk ors owk n j t u hj hct hn _ e2⟩ rfl
  by_cases h2 : pat mo u n = -1
  · by_cases h1 : pat mo t n = -1
    · exact same 3 (by decide) (by unfold f_EP_shift_2; rw [if_pos ht, if_pos hu, if_pos h2, if_neg (fun h => h h1)]) (by unfold f_Mo_shift; rw [hEt, hEu, if_pos ht, if_pos hu, if_neg hkz, if_neg (fun h => h h2), if_neg (fun h => h h1)]; rfl)
    · have hp0 := pat_lt hn h1
      have hno := pat_no hn hO.1 h2
      have hno2 : ∀ q9, q9 < n - 1 → ¬ shd mo (n - 1 - (pat mo t n).toNatClampNeg) (pat mo t n).toNatClampNeg q9 = u := fun q9 hq9 => all_rem (P := fun m _ _ _ => ¬ m = u) (a := mo) (b := mo) (c := mo) (d := mo) (fun p hp => hno p hp) hp0 q9 hq9
      obtain ⟨-, g2, g3, g4⟩ := rem_LEq (ed := ed) (ct := ct) hn hL _ hp0
      have hO9 := LOK_rem hO hp0 (RES_2 _ _ _ _ (fun _ => 0) (fun _ => 0) 0 0 (fun _ => 0) (fun _ => 0))
      obtain ⟨R, hR⟩ : ∃ R, f_EP_shift_2 n mo na aa bb re ef n2 mo2 na2 aa2 bb2 re2 ef2 q.2.2.1.2.2.1 q.2.2.1.2.1 q.2.2.1.2.2.2.1 q.2.2.1.2.2.2.2 t u = R := ⟨_, rfl⟩
      have hR2 := hR
      unfold f_EP_shift_2 at hR2
      rw [if_pos ht, if_pos hu, if_pos h2, if_pos h1] at hR2
      unfold f_Li_relocate at hR2
      subst hR2
      rw [hR] at hcs
      obtain ⟨R2, hM⟩ : ∃ R, f_Mo_shift kn ed ct ti nm xa xb n j t u = R := ⟨_, rfl⟩
      have hM2 := hM
      unfold f_Mo_shift at hM2
      rw [hEt, hEu, if_pos ht, if_pos hu, if_neg hkz, if_neg (fun h => h h2), if_pos h1, g2, g3, g4] at hM2
      refine ⟨0, _, (R2.1, kn, R2.2.1, R2.2.2.1, R2.2.2.2.1, R2.2.2.2.2.1, R2.2.2.2.2.2.1, R2.2.2.2.2.2.2, ma, it, vs, se, sm, rs, wk, ors, owk), by decide, hcs, m_Mo_shift l D cI cJ cZ cO (o + 74) code kn ed ct ti nm xa xb ma it vs se sm rs wk ors owk n j t u hj hct hn R2 hM, ?_, ?_⟩
      · subst hM2
        rfl
      · subst hM2
        exact Inv_edit hI hj (by decide) rfl hkn hn hL hO (edt_ins (show n - 1 < 32 by omega) (Srt_rem hO.1 hp0) hno2 (strike_edt hn hp0 hL hct)) (show n - 1 + 1 ≤ 32 by omega) (rdo_bz (stC := taS) (fun u x y s => taS_bz u x y s) _ _ _ _ _ (shu_bz (shd_bz hz _ _) (Nat.sub_le _ _))) (LOK_ins hO9 hno2 hu (hO.2.2.1 _ hp0) (RES_2 _ _ _ _ _ _ _ _ _ _))
  · exact same 2 (by decide) (by unfold f_EP_shift_2; rw [if_pos ht, if_pos hu, if_neg h2]) (by unfold f_Mo_shift; rw [hEu, if_pos ht, if_pos hu, if_neg hkz, if_pos h2]; rfl)
theorem op_put_3 (l : Launch) (hlt : l.stackTraces = false) (D : va_G) (cI cJ cZ cO : ClassId) (o : Nat) (C : Nat → CoT) (q : ScT) (H : Heap) (hq : PCq D cI cJ cZ cO o C q H) (code : Int32) (kn ed ct ti nm xa xb : Nat → Int32) (ma : Int32) (it vs se : Nat → Int32) (sm : Int64) (rs : Nat → Int64) (wk : Nat → Int32) (ors : Nat → Int64) (owk : Nat → Int32) (hI : Inv C (code, kn, ed, ct, ti, nm, xa, xb, ma, it, vs, se, sm, rs, wk, ors, owk)) (j : Nat) (n : Nat) (mo na aa bb : Nat → Int32) (re : Nat → Int64) (ef : Nat → Int32) (n2 : Nat) (mo2 na2 aa2 bb2 : Nat → Int32) (re2 : Nat → Int64) (ef2 : Nat → Int32) (t u x y : Int32) (hj : j < 4) (hn : n ≤ 32) (hz : bz ef) (hct : ct j = nI n) (hkn : kn j = nI (3 + 1)) (hc : C j = (nI 3, (n, mo, na, aa, bb, re, ef), (n2, mo2, na2, aa2, bb2, re2, ef2))) (hL : LEq n mo na aa bb ti nm xa xb (32 * j)) (hO : LOK 3 n mo na aa bb re ef) (ht : okM t) : OP_put l D cI cJ cZ cO o Inv (code, kn, ed, ct, ti, nm, xa, xb, ma, it, vs, se, sm, rs, wk, ors, owk) H (nI j) t u x y := by
  have hb : bz wk := hI.1
  have hcs := cs_put_3 l hlt D cI cJ cZ cO o C q H hq j n mo na aa bb re ef n2 mo2 na2 aa2 bb2 re2 ef2 t u x y hj hn hz hc
  have hlk : (f_Mo_lacks kn j t).1 = 0 := by rw [lk_0 ht (kn_ne (by decide) hkn)]
  have hE : f_Mo_find ti n j t = pat mo t n := find_pat hL.mo hO.1
  have hal : f_Ba_allows u x y = f_Mo_fits_3 u x y := al_Ba u x y
  have same : ∀ k : Nat, k ≤ 3 → f_EP_put_3 n mo na aa bb re ef n2 mo2 na2 aa2 bb2 re2 ef2 q.2.2.2.1.2.1 q.2.2.2.1.2.2.1 q.2.2.2.1.2.2.2 t u x y = (k, n, mo, na, aa, bb, re, ef, n2, mo2, na2, aa2, bb2, re2, ef2) → f_Mo_put_3 ed ct ti nm xa xb n j t u x y = (nI k, ed, ct, ti, nm, xa, xb) → OP_put l D cI cJ cZ cO o Inv (code, kn, ed, ct, ti, nm, xa, xb, ma, it, vs, se, sm, rs, wk, ors, owk) H (nI j) t u x y := fun k hk e1 e2 => by
    rw [e1] at hcs
    have hcs2 : CS l D cI cJ cZ cO o y_EP_put k_EP_put rx_EP_put [.ref o, .int (nI j), .int t, .int u, .int x, .int y] E_UOE none k (updC C j (nI 3, (n, mo, na, aa, bb, re, ef), (n2, mo2, na2, aa2, bb2, re2, ef2))) H := hcs
    rw [updC_self hc] at hcs2
    exact fin_put hI hk hcs2 ⟨ma, it, vs, se, sm, rs, wk, ors, owk, hb, m_Mo_put_3 l D cI cJ cZ cO (o + 74) code kn ed ct ti nm xa xb ma it vs se sm rs wk ors owk n j t u x y hj hlk hkn hct hn _ e2⟩ rfl
  by_cases h1 : pat mo t n = -1
  · by_cases h2 : n < 32
    · by_cases h3 : f_Ba_allows u x y = 0
      · exact same 3 (by decide) (by unfold f_EP_put_3; rw [if_pos ht, if_pos h1, if_pos h2, if_pos h3]) (by unfold f_Mo_put_3; rw [hE, if_neg (fun h => h h1), if_neg (by omega), if_pos (hal.symm.trans h3)]; rfl)
      · have hno := pat_no hn hO.1 h1
        obtain ⟨R, hR⟩ : ∃ R, f_EP_put_3 n mo na aa bb re ef n2 mo2 na2 aa2 bb2 re2 ef2 q.2.2.2.1.2.1 q.2.2.2.1.2.2.1 q.2.2.2.1.2.2.2 t u x y = R := ⟨_, rfl⟩
        have hR2 := hR
        unfold f_EP_put_3 at hR2
        rw [if_pos ht, if_pos h1, if_pos h2, if_neg h3] at hR2
        subst hR2
        rw [hR] at hcs
        obtain ⟨R2, hM⟩ : ∃ R, f_Mo_put_3 ed ct ti nm xa xb n j t u x y = R := ⟨_, rfl⟩
        have hM2 := hM
        unfold f_Mo_put_3 at hM2
        rw [hE, if_neg (fun h => h h1), if_neg (by omega), if_neg (fun h => h3 (hal.trans h))] at hM2
        refine ⟨0, _, (R2.1, kn, R2.2.1, R2.2.2.1, R2.2.2.2.1, R2.2.2.2.2.1, R2.2.2.2.2.2.1, R2.2.2.2.2.2.2, ma, it, vs, se, sm, rs, wk, ors, owk), by decide, hcs, m_Mo_put_3 l D cI cJ cZ cO (o + 74) code kn ed ct ti nm xa xb ma it vs se sm rs wk ors owk n j t u x y hj hlk hkn hct hn R2 hM, ?_, ?_⟩
        · subst hM2
          rfl
        · subst hM2
          exact Inv_edit hI hj (by decide) rfl hkn hn hL hO (put_edt h2 hL hO.1 hno hct) h2 (rdo_bz (stC := (fun nm x _ => bgS 4 nm x)) (fun u x y s => bgS_bz 4 u x s) _ _ _ _ _ (shu_bz hz (Nat.sub_le _ _))) (LOK_ins hO hno ht (vk_3 _ _ _) (RES_3 _ _ _ _ _ _ _ _ _))
    · exact same 2 (by decide) (by unfold f_EP_put_3; rw [if_pos ht, if_pos h1, if_neg h2]) (by unfold f_Mo_put_3; rw [hE, if_neg (fun h => h h1), if_pos (by omega)]; rfl)
  · exact same 2 (by decide) (by unfold f_EP_put_3; rw [if_pos ht, if_neg h1]) (by unfold f_Mo_put_3; rw [hE, if_pos h1]; rfl)
theorem op_strike_3 (l : Launch) (hlt : l.stackTraces = false) (D : va_G) (cI cJ cZ cO : ClassId) (o : Nat) (C : Nat → CoT) (q : ScT) (H : Heap) (hq : PCq D cI cJ cZ cO o C q H) (code : Int32) (kn ed ct ti nm xa xb : Nat → Int32) (ma : Int32) (it vs se : Nat → Int32) (sm : Int64) (rs : Nat → Int64) (wk : Nat → Int32) (ors : Nat → Int64) (owk : Nat → Int32) (hI : Inv C (code, kn, ed, ct, ti, nm, xa, xb, ma, it, vs, se, sm, rs, wk, ors, owk)) (j : Nat) (n : Nat) (mo na aa bb : Nat → Int32) (re : Nat → Int64) (ef : Nat → Int32) (n2 : Nat) (mo2 na2 aa2 bb2 : Nat → Int32) (re2 : Nat → Int64) (ef2 : Nat → Int32) (t : Int32) (hj : j < 4) (hn : n ≤ 32) (hz : bz ef) (hct : ct j = nI n) (hkn : kn j = nI (3 + 1)) (hc : C j = (nI 3, (n, mo, na, aa, bb, re, ef), (n2, mo2, na2, aa2, bb2, re2, ef2))) (hL : LEq n mo na aa bb ti nm xa xb (32 * j)) (hO : LOK 3 n mo na aa bb re ef) (ht : okM t) : OP_strike l D cI cJ cZ cO o Inv (code, kn, ed, ct, ti, nm, xa, xb, ma, it, vs, se, sm, rs, wk, ors, owk) H (nI j) t := by
  have hb : bz wk := hI.1
  have hcs := cs_strike_3 l hlt D cI cJ cZ cO o C q H hq j n mo na aa bb re ef n2 mo2 na2 aa2 bb2 re2 ef2 t hj hn hz hc
  have hkz : ¬ kn j = 0 := kn_ne (by decide) hkn
  have hlk : (f_Mo_lacks kn j t).1 = 0 := by rw [lk_0 ht hkz]
  have hE : f_Mo_find ti n j t = pat mo t n := find_pat hL.mo hO.1
  by_cases h1 : pat mo t n = -1
  · have e1 : f_EP_strike_3 n mo na aa bb re ef n2 mo2 na2 aa2 bb2 re2 ef2 q.2.2.2.1.2.1 q.2.2.2.1.2.2.1 q.2.2.2.1.2.2.2 t = (0, 0, n, mo, na, aa, bb, re, ef, n2, mo2, na2, aa2, bb2, re2, ef2) := by unfold f_EP_strike_3; rw [if_pos ht, if_neg (fun h => h h1)]
    have e2 : f_Mo_strike kn ed ct ti nm xa xb n j t = (0, (f_Mo_lacks kn j t).2, ed, ct, ti, nm, xa, xb) := by unfold f_Mo_strike; rw [hE, if_neg (fun h => h h1)]
    rw [e1] at hcs
    have hcs2 : CS l D cI cJ cZ cO o y_EP_strike k_EP_strike rx_EP_strike [.ref o, .int (nI j), .int t] E_NSE (some (.int 0)) 0 (updC C j (nI 3, (n, mo, na, aa, bb, re, ef), (n2, mo2, na2, aa2, bb2, re2, ef2))) H := hcs
    rw [updC_self hc] at hcs2
    exact fin_strike hI (by decide) hcs2 ⟨ma, it, vs, se, sm, rs, wk, ors, owk, hb, m_Mo_strike l D cI cJ cZ cO (o + 74) code kn ed ct ti nm xa xb ma it vs se sm rs wk ors owk n j t hj hlk hct hn _ e2⟩ (lk_s ht hkz) (Or.inl rfl) (fun _ => rfl)
  · have hp0 := pat_lt hn h1
    obtain ⟨R, hR⟩ : ∃ R, f_EP_strike_3 n mo na aa bb re ef n2 mo2 na2 aa2 bb2 re2 ef2 q.2.2.2.1.2.1 q.2.2.2.1.2.2.1 q.2.2.2.1.2.2.2 t = R := ⟨_, rfl⟩
    have hR2 := hR
    unfold f_EP_strike_3 at hR2
    rw [if_pos ht, if_pos h1] at hR2
    subst hR2
    rw [hR] at hcs
    obtain ⟨R2, hM⟩ : ∃ R, f_Mo_strike kn ed ct ti nm xa xb n j t = R := ⟨_, rfl⟩
    have hM2 := hM
    unfold f_Mo_strike at hM2
    rw [hE, if_pos h1] at hM2
    refine ⟨0, 1, R2.1, _, (R2.2.1, kn, R2.2.2.1, R2.2.2.2.1, R2.2.2.2.2.1, R2.2.2.2.2.2.1, R2.2.2.2.2.2.2.1, R2.2.2.2.2.2.2.2, ma, it, vs, se, sm, rs, wk, ors, owk), by decide, hcs, m_Mo_strike l D cI cJ cZ cO (o + 74) code kn ed ct ti nm xa xb ma it vs se sm rs wk ors owk n j t hj hlk hct hn R2 hM, ?_, Or.inr rfl, ?_, ?_⟩
    · subst hM2
      exact lk_s ht hkz
    · subst hM2
      exact fun _ => rfl
    · subst hM2
      exact Inv_edit hI hj (by decide) rfl hkn hn hL hO (strike_edt hn hp0 hL hct) (show n - 1 ≤ 32 by omega) (rdo_bz (stC := (fun nm x _ => bgS 4 nm x)) (fun u x y s => bgS_bz 4 u x s) _ _ _ _ _ (shd_bz hz _ _)) (LOK_rem hO hp0 (RES_3 _ _ _ _ _ _ _ _ _))
theorem op_shift_3 (l : Launch) (hlt : l.stackTraces = false) (D : va_G) (cI cJ cZ cO : ClassId) (o : Nat) (C : Nat → CoT) (q : ScT) (H : Heap) (hq : PCq D cI cJ cZ cO o C q H) (code : Int32) (kn ed ct ti nm xa xb : Nat → Int32) (ma : Int32) (it vs se : Nat → Int32) (sm : Int64) (rs : Nat → Int64) (wk : Nat → Int32) (ors : Nat → Int64) (owk : Nat → Int32) (hI : Inv C (code, kn, ed, ct, ti, nm, xa, xb, ma, it, vs, se, sm, rs, wk, ors, owk)) (j : Nat) (n : Nat) (mo na aa bb : Nat → Int32) (re : Nat → Int64) (ef : Nat → Int32) (n2 : Nat) (mo2 na2 aa2 bb2 : Nat → Int32) (re2 : Nat → Int64) (ef2 : Nat → Int32) (t u : Int32) (hj : j < 4) (hn : n ≤ 32) (hz : bz ef) (hct : ct j = nI n) (hkn : kn j = nI (3 + 1)) (hc : C j = (nI 3, (n, mo, na, aa, bb, re, ef), (n2, mo2, na2, aa2, bb2, re2, ef2))) (hL : LEq n mo na aa bb ti nm xa xb (32 * j)) (hO : LOK 3 n mo na aa bb re ef) (ht : okM t) (hu : okM u) : OP_shift l D cI cJ cZ cO o Inv (code, kn, ed, ct, ti, nm, xa, xb, ma, it, vs, se, sm, rs, wk, ors, owk) H (nI j) t u := by
  have hb : bz wk := hI.1
  have hcs := cs_shift_3 l hlt D cI cJ cZ cO o C q H hq j n mo na aa bb re ef n2 mo2 na2 aa2 bb2 re2 ef2 t u hj hn hz hc
  have hkz : ¬ kn j = 0 := kn_ne (by decide) hkn
  have hEt : f_Mo_find ti n j t = pat mo t n := find_pat hL.mo hO.1
  have hEu : f_Mo_find ti n j u = pat mo u n := find_pat hL.mo hO.1
  have same : ∀ k : Nat, k ≤ 3 → f_EP_shift_3 n mo na aa bb re ef n2 mo2 na2 aa2 bb2 re2 ef2 q.2.2.2.1.2.1 q.2.2.2.1.2.2.1 q.2.2.2.1.2.2.2 t u = (k, n, mo, na, aa, bb, re, ef, n2, mo2, na2, aa2, bb2, re2, ef2) → f_Mo_shift kn ed ct ti nm xa xb n j t u = (nI k, ed, ct, ti, nm, xa, xb) → OP_shift l D cI cJ cZ cO o Inv (code, kn, ed, ct, ti, nm, xa, xb, ma, it, vs, se, sm, rs, wk, ors, owk) H (nI j) t u := fun k hk e1 e2 => by
    rw [e1] at hcs
    have hcs2 : CS l D cI cJ cZ cO o y_EP_shift k_EP_shift rx_EP_shift [.ref o, .int (nI j), .int t, .int u] E_NSE none k (updC C j (nI 3, (n, mo, na, aa, bb, re, ef), (n2, mo2, na2, aa2, bb2, re2, ef2))) H := hcs
    rw [updC_self hc] at hcs2
    exact fin_shift hI hk hcs2 ⟨ma, it, vs, se, sm, rs, wk, ors, owk, hb, m_Mo_shift l D cI cJ cZ cO (o + 74) code kn ed ct ti nm xa xb ma it vs se sm rs wk ors owk n j t u hj hct hn _ e2⟩ rfl
  by_cases h2 : pat mo u n = -1
  · by_cases h1 : pat mo t n = -1
    · exact same 3 (by decide) (by unfold f_EP_shift_3; rw [if_pos ht, if_pos hu, if_pos h2, if_neg (fun h => h h1)]) (by unfold f_Mo_shift; rw [hEt, hEu, if_pos ht, if_pos hu, if_neg hkz, if_neg (fun h => h h2), if_neg (fun h => h h1)]; rfl)
    · have hp0 := pat_lt hn h1
      have hno := pat_no hn hO.1 h2
      have hno2 : ∀ q9, q9 < n - 1 → ¬ shd mo (n - 1 - (pat mo t n).toNatClampNeg) (pat mo t n).toNatClampNeg q9 = u := fun q9 hq9 => all_rem (P := fun m _ _ _ => ¬ m = u) (a := mo) (b := mo) (c := mo) (d := mo) (fun p hp => hno p hp) hp0 q9 hq9
      obtain ⟨-, g2, g3, g4⟩ := rem_LEq (ed := ed) (ct := ct) hn hL _ hp0
      have hO9 := LOK_rem hO hp0 (RES_3 _ _ _ _ (fun _ => 0) 0 0 (fun _ => 0) (fun _ => 0))
      obtain ⟨R, hR⟩ : ∃ R, f_EP_shift_3 n mo na aa bb re ef n2 mo2 na2 aa2 bb2 re2 ef2 q.2.2.2.1.2.1 q.2.2.2.1.2.2.1 q.2.2.2.1.2.2.2 t u = R := ⟨_, rfl⟩
      have hR2 := hR
      unfold f_EP_shift_3 at hR2
      rw [if_pos ht, if_pos hu, if_pos h2, if_pos h1] at hR2
      unfold f_Li_relocate at hR2
      subst hR2
      rw [hR] at hcs
      obtain ⟨R2, hM⟩ : ∃ R, f_Mo_shift kn ed ct ti nm xa xb n j t u = R := ⟨_, rfl⟩
      have hM2 := hM
      unfold f_Mo_shift at hM2
      rw [hEt, hEu, if_pos ht, if_pos hu, if_neg hkz, if_neg (fun h => h h2), if_pos h1, g2, g3, g4] at hM2
      refine ⟨0, _, (R2.1, kn, R2.2.1, R2.2.2.1, R2.2.2.2.1, R2.2.2.2.2.1, R2.2.2.2.2.2.1, R2.2.2.2.2.2.2, ma, it, vs, se, sm, rs, wk, ors, owk), by decide, hcs, m_Mo_shift l D cI cJ cZ cO (o + 74) code kn ed ct ti nm xa xb ma it vs se sm rs wk ors owk n j t u hj hct hn R2 hM, ?_, ?_⟩
      · subst hM2
        rfl
      · subst hM2
        exact Inv_edit hI hj (by decide) rfl hkn hn hL hO (edt_ins (show n - 1 < 32 by omega) (Srt_rem hO.1 hp0) hno2 (strike_edt hn hp0 hL hct)) (show n - 1 + 1 ≤ 32 by omega) (rdo_bz (stC := (fun nm x _ => bgS 4 nm x)) (fun u x y s => bgS_bz 4 u x s) _ _ _ _ _ (shu_bz (shd_bz hz _ _) (Nat.sub_le _ _))) (LOK_ins hO9 hno2 hu (hO.2.2.1 _ hp0) (RES_3 _ _ _ _ _ _ _ _ _))
  · exact same 2 (by decide) (by unfold f_EP_shift_3; rw [if_pos ht, if_pos hu, if_neg h2]) (by unfold f_Mo_shift; rw [hEu, if_pos ht, if_pos hu, if_neg hkz, if_pos h2]; rfl)
theorem op_put_4 (l : Launch) (hlt : l.stackTraces = false) (D : va_G) (cI cJ cZ cO : ClassId) (o : Nat) (C : Nat → CoT) (q : ScT) (H : Heap) (hq : PCq D cI cJ cZ cO o C q H) (code : Int32) (kn ed ct ti nm xa xb : Nat → Int32) (ma : Int32) (it vs se : Nat → Int32) (sm : Int64) (rs : Nat → Int64) (wk : Nat → Int32) (ors : Nat → Int64) (owk : Nat → Int32) (hI : Inv C (code, kn, ed, ct, ti, nm, xa, xb, ma, it, vs, se, sm, rs, wk, ors, owk)) (j : Nat) (n : Nat) (mo na aa bb : Nat → Int32) (re : Nat → Int64) (ef : Nat → Int32) (n2 : Nat) (mo2 na2 aa2 bb2 : Nat → Int32) (re2 : Nat → Int64) (ef2 : Nat → Int32) (t u x y : Int32) (hj : j < 4) (hn : n ≤ 32) (hz : bz ef) (hct : ct j = nI n) (hkn : kn j = nI (4 + 1)) (hc : C j = (nI 4, (n, mo, na, aa, bb, re, ef), (n2, mo2, na2, aa2, bb2, re2, ef2))) (hL : LEq n mo na aa bb ti nm xa xb (32 * j)) (hO : LOK 4 n mo na aa bb re ef) (ht : okM t) : OP_put l D cI cJ cZ cO o Inv (code, kn, ed, ct, ti, nm, xa, xb, ma, it, vs, se, sm, rs, wk, ors, owk) H (nI j) t u x y := by
  have hb : bz wk := hI.1
  have hcs := cs_put_4 l hlt D cI cJ cZ cO o C q H hq j n mo na aa bb re ef n2 mo2 na2 aa2 bb2 re2 ef2 t u x y hj hn hz hc
  have hlk : (f_Mo_lacks kn j t).1 = 0 := by rw [lk_0 ht (kn_ne (by decide) hkn)]
  have hE : f_Mo_find ti n j t = pat mo t n := find_pat hL.mo hO.1
  have hal : f_Re_allows u x y = f_Mo_fits_4 u x y := rfl
  have same : ∀ k : Nat, k ≤ 3 → f_EP_put_4 n mo na aa bb re ef n2 mo2 na2 aa2 bb2 re2 ef2 q.2.2.2.2.1.2.1 q.2.2.2.2.1.2.2.1 q.2.2.2.2.1.2.2.2 t u x y = (k, n, mo, na, aa, bb, re, ef, n2, mo2, na2, aa2, bb2, re2, ef2) → f_Mo_put_4 ed ct ti nm xa xb n j t u x y = (nI k, ed, ct, ti, nm, xa, xb) → OP_put l D cI cJ cZ cO o Inv (code, kn, ed, ct, ti, nm, xa, xb, ma, it, vs, se, sm, rs, wk, ors, owk) H (nI j) t u x y := fun k hk e1 e2 => by
    rw [e1] at hcs
    have hcs2 : CS l D cI cJ cZ cO o y_EP_put k_EP_put rx_EP_put [.ref o, .int (nI j), .int t, .int u, .int x, .int y] E_UOE none k (updC C j (nI 4, (n, mo, na, aa, bb, re, ef), (n2, mo2, na2, aa2, bb2, re2, ef2))) H := hcs
    rw [updC_self hc] at hcs2
    exact fin_put hI hk hcs2 ⟨ma, it, vs, se, sm, rs, wk, ors, owk, hb, m_Mo_put_4 l D cI cJ cZ cO (o + 74) code kn ed ct ti nm xa xb ma it vs se sm rs wk ors owk n j t u x y hj hlk hkn hct hn _ e2⟩ rfl
  by_cases h1 : pat mo t n = -1
  · by_cases h2 : n < 32
    · by_cases h3 : f_Re_allows u x y = 0
      · exact same 3 (by decide) (by unfold f_EP_put_4; rw [if_pos ht, if_pos h1, if_pos h2, if_pos h3]) (by unfold f_Mo_put_4; rw [hE, if_neg (fun h => h h1), if_neg (by omega), if_pos (hal.symm.trans h3)]; rfl)
      · have hno := pat_no hn hO.1 h1
        obtain ⟨R, hR⟩ : ∃ R, f_EP_put_4 n mo na aa bb re ef n2 mo2 na2 aa2 bb2 re2 ef2 q.2.2.2.2.1.2.1 q.2.2.2.2.1.2.2.1 q.2.2.2.2.1.2.2.2 t u x y = R := ⟨_, rfl⟩
        have hR2 := hR
        unfold f_EP_put_4 at hR2
        rw [if_pos ht, if_pos h1, if_pos h2, if_neg h3] at hR2
        subst hR2
        rw [hR] at hcs
        obtain ⟨R2, hM⟩ : ∃ R, f_Mo_put_4 ed ct ti nm xa xb n j t u x y = R := ⟨_, rfl⟩
        have hM2 := hM
        unfold f_Mo_put_4 at hM2
        rw [hE, if_neg (fun h => h h1), if_neg (by omega), if_neg (fun h => h3 (hal.trans h))] at hM2
        refine ⟨0, _, (R2.1, kn, R2.2.1, R2.2.2.1, R2.2.2.2.1, R2.2.2.2.2.1, R2.2.2.2.2.2.1, R2.2.2.2.2.2.2, ma, it, vs, se, sm, rs, wk, ors, owk), by decide, hcs, m_Mo_put_4 l D cI cJ cZ cO (o + 74) code kn ed ct ti nm xa xb ma it vs se sm rs wk ors owk n j t u x y hj hlk hkn hct hn R2 hM, ?_, ?_⟩
        · subst hM2
          rfl
        · subst hM2
          exact Inv_edit hI hj (by decide) rfl hkn hn hL hO (put_edt h2 hL hO.1 hno hct) h2 (rdo_bz (stC := (fun _ x _ => reS x)) (fun u x y s => Or.inr rfl) _ _ _ _ _ (shu_bz hz (Nat.sub_le _ _))) (LOK_ins hO hno ht (vk_4 _ _ _) (RES_4 _ _ _ _ _ _ _ _ _))
    · exact same 2 (by decide) (by unfold f_EP_put_4; rw [if_pos ht, if_pos h1, if_neg h2]) (by unfold f_Mo_put_4; rw [hE, if_neg (fun h => h h1), if_pos (by omega)]; rfl)
  · exact same 2 (by decide) (by unfold f_EP_put_4; rw [if_pos ht, if_neg h1]) (by unfold f_Mo_put_4; rw [hE, if_pos h1]; rfl)
theorem op_strike_4 (l : Launch) (hlt : l.stackTraces = false) (D : va_G) (cI cJ cZ cO : ClassId) (o : Nat) (C : Nat → CoT) (q : ScT) (H : Heap) (hq : PCq D cI cJ cZ cO o C q H) (code : Int32) (kn ed ct ti nm xa xb : Nat → Int32) (ma : Int32) (it vs se : Nat → Int32) (sm : Int64) (rs : Nat → Int64) (wk : Nat → Int32) (ors : Nat → Int64) (owk : Nat → Int32) (hI : Inv C (code, kn, ed, ct, ti, nm, xa, xb, ma, it, vs, se, sm, rs, wk, ors, owk)) (j : Nat) (n : Nat) (mo na aa bb : Nat → Int32) (re : Nat → Int64) (ef : Nat → Int32) (n2 : Nat) (mo2 na2 aa2 bb2 : Nat → Int32) (re2 : Nat → Int64) (ef2 : Nat → Int32) (t : Int32) (hj : j < 4) (hn : n ≤ 32) (hz : bz ef) (hct : ct j = nI n) (hkn : kn j = nI (4 + 1)) (hc : C j = (nI 4, (n, mo, na, aa, bb, re, ef), (n2, mo2, na2, aa2, bb2, re2, ef2))) (hL : LEq n mo na aa bb ti nm xa xb (32 * j)) (hO : LOK 4 n mo na aa bb re ef) (ht : okM t) : OP_strike l D cI cJ cZ cO o Inv (code, kn, ed, ct, ti, nm, xa, xb, ma, it, vs, se, sm, rs, wk, ors, owk) H (nI j) t := by
  have hb : bz wk := hI.1
  have hcs := cs_strike_4 l hlt D cI cJ cZ cO o C q H hq j n mo na aa bb re ef n2 mo2 na2 aa2 bb2 re2 ef2 t hj hn hz hc
  have hkz : ¬ kn j = 0 := kn_ne (by decide) hkn
  have hlk : (f_Mo_lacks kn j t).1 = 0 := by rw [lk_0 ht hkz]
  have hE : f_Mo_find ti n j t = pat mo t n := find_pat hL.mo hO.1
  by_cases h1 : pat mo t n = -1
  · have e1 : f_EP_strike_4 n mo na aa bb re ef n2 mo2 na2 aa2 bb2 re2 ef2 q.2.2.2.2.1.2.1 q.2.2.2.2.1.2.2.1 q.2.2.2.2.1.2.2.2 t = (0, 0, n, mo, na, aa, bb, re, ef, n2, mo2, na2, aa2, bb2, re2, ef2) := by unfold f_EP_strike_4; rw [if_pos ht, if_neg (fun h => h h1)]
    have e2 : f_Mo_strike kn ed ct ti nm xa xb n j t = (0, (f_Mo_lacks kn j t).2, ed, ct, ti, nm, xa, xb) := by unfold f_Mo_strike; rw [hE, if_neg (fun h => h h1)]
    rw [e1] at hcs
    have hcs2 : CS l D cI cJ cZ cO o y_EP_strike k_EP_strike rx_EP_strike [.ref o, .int (nI j), .int t] E_NSE (some (.int 0)) 0 (updC C j (nI 4, (n, mo, na, aa, bb, re, ef), (n2, mo2, na2, aa2, bb2, re2, ef2))) H := hcs
    rw [updC_self hc] at hcs2
    exact fin_strike hI (by decide) hcs2 ⟨ma, it, vs, se, sm, rs, wk, ors, owk, hb, m_Mo_strike l D cI cJ cZ cO (o + 74) code kn ed ct ti nm xa xb ma it vs se sm rs wk ors owk n j t hj hlk hct hn _ e2⟩ (lk_s ht hkz) (Or.inl rfl) (fun _ => rfl)
  · have hp0 := pat_lt hn h1
    obtain ⟨R, hR⟩ : ∃ R, f_EP_strike_4 n mo na aa bb re ef n2 mo2 na2 aa2 bb2 re2 ef2 q.2.2.2.2.1.2.1 q.2.2.2.2.1.2.2.1 q.2.2.2.2.1.2.2.2 t = R := ⟨_, rfl⟩
    have hR2 := hR
    unfold f_EP_strike_4 at hR2
    rw [if_pos ht, if_pos h1] at hR2
    subst hR2
    rw [hR] at hcs
    obtain ⟨R2, hM⟩ : ∃ R, f_Mo_strike kn ed ct ti nm xa xb n j t = R := ⟨_, rfl⟩
    have hM2 := hM
    unfold f_Mo_strike at hM2
    rw [hE, if_pos h1] at hM2
    refine ⟨0, 1, R2.1, _, (R2.2.1, kn, R2.2.2.1, R2.2.2.2.1, R2.2.2.2.2.1, R2.2.2.2.2.2.1, R2.2.2.2.2.2.2.1, R2.2.2.2.2.2.2.2, ma, it, vs, se, sm, rs, wk, ors, owk), by decide, hcs, m_Mo_strike l D cI cJ cZ cO (o + 74) code kn ed ct ti nm xa xb ma it vs se sm rs wk ors owk n j t hj hlk hct hn R2 hM, ?_, Or.inr rfl, ?_, ?_⟩
    · subst hM2
      exact lk_s ht hkz
    · subst hM2
      exact fun _ => rfl
    · subst hM2
      exact Inv_edit hI hj (by decide) rfl hkn hn hL hO (strike_edt hn hp0 hL hct) (show n - 1 ≤ 32 by omega) (rdo_bz (stC := (fun _ x _ => reS x)) (fun u x y s => Or.inr rfl) _ _ _ _ _ (shd_bz hz _ _)) (LOK_rem hO hp0 (RES_4 _ _ _ _ _ _ _ _ _))
theorem op_shift_4 (l : Launch) (hlt : l.stackTraces = false) (D : va_G) (cI cJ cZ cO : ClassId) (o : Nat) (C : Nat → CoT) (q : ScT) (H : Heap) (hq : PCq D cI cJ cZ cO o C q H) (code : Int32) (kn ed ct ti nm xa xb : Nat → Int32) (ma : Int32) (it vs se : Nat → Int32) (sm : Int64) (rs : Nat → Int64) (wk : Nat → Int32) (ors : Nat → Int64) (owk : Nat → Int32) (hI : Inv C (code, kn, ed, ct, ti, nm, xa, xb, ma, it, vs, se, sm, rs, wk, ors, owk)) (j : Nat) (n : Nat) (mo na aa bb : Nat → Int32) (re : Nat → Int64) (ef : Nat → Int32) (n2 : Nat) (mo2 na2 aa2 bb2 : Nat → Int32) (re2 : Nat → Int64) (ef2 : Nat → Int32) (t u : Int32) (hj : j < 4) (hn : n ≤ 32) (hz : bz ef) (hct : ct j = nI n) (hkn : kn j = nI (4 + 1)) (hc : C j = (nI 4, (n, mo, na, aa, bb, re, ef), (n2, mo2, na2, aa2, bb2, re2, ef2))) (hL : LEq n mo na aa bb ti nm xa xb (32 * j)) (hO : LOK 4 n mo na aa bb re ef) (ht : okM t) (hu : okM u) : OP_shift l D cI cJ cZ cO o Inv (code, kn, ed, ct, ti, nm, xa, xb, ma, it, vs, se, sm, rs, wk, ors, owk) H (nI j) t u := by
  have hb : bz wk := hI.1
  have hcs := cs_shift_4 l hlt D cI cJ cZ cO o C q H hq j n mo na aa bb re ef n2 mo2 na2 aa2 bb2 re2 ef2 t u hj hn hz hc
  have hkz : ¬ kn j = 0 := kn_ne (by decide) hkn
  have hEt : f_Mo_find ti n j t = pat mo t n := find_pat hL.mo hO.1
  have hEu : f_Mo_find ti n j u = pat mo u n := find_pat hL.mo hO.1
  have same : ∀ k : Nat, k ≤ 3 → f_EP_shift_4 n mo na aa bb re ef n2 mo2 na2 aa2 bb2 re2 ef2 q.2.2.2.2.1.2.1 q.2.2.2.2.1.2.2.1 q.2.2.2.2.1.2.2.2 t u = (k, n, mo, na, aa, bb, re, ef, n2, mo2, na2, aa2, bb2, re2, ef2) → f_Mo_shift kn ed ct ti nm xa xb n j t u = (nI k, ed, ct, ti, nm, xa, xb) → OP_shift l D cI cJ cZ cO o Inv (code, kn, ed, ct, ti, nm, xa, xb, ma, it, vs, se, sm, rs, wk, ors, owk) H (nI j) t u := fun k hk e1 e2 => by
    rw [e1] at hcs
    have hcs2 : CS l D cI cJ cZ cO o y_EP_shift k_EP_shift rx_EP_shift [.ref o, .int (nI j), .int t, .int u] E_NSE none k (updC C j (nI 4, (n, mo, na, aa, bb, re, ef), (n2, mo2, na2, aa2, bb2, re2, ef2))) H := hcs
    rw [updC_self hc] at hcs2
    exact fin_shift hI hk hcs2 ⟨ma, it, vs, se, sm, rs, wk, ors, owk, hb, m_Mo_shift l D cI cJ cZ cO (o + 74) code kn ed ct ti nm xa xb ma it vs se sm rs wk ors owk n j t u hj hct hn _ e2⟩ rfl
  by_cases h2 : pat mo u n = -1
  · by_cases h1 : pat mo t n = -1
    · exact same 3 (by decide) (by unfold f_EP_shift_4; rw [if_pos ht, if_pos hu, if_pos h2, if_neg (fun h => h h1)]) (by unfold f_Mo_shift; rw [hEt, hEu, if_pos ht, if_pos hu, if_neg hkz, if_neg (fun h => h h2), if_neg (fun h => h h1)]; rfl)
    · have hp0 := pat_lt hn h1
      have hno := pat_no hn hO.1 h2
      have hno2 : ∀ q9, q9 < n - 1 → ¬ shd mo (n - 1 - (pat mo t n).toNatClampNeg) (pat mo t n).toNatClampNeg q9 = u := fun q9 hq9 => all_rem (P := fun m _ _ _ => ¬ m = u) (a := mo) (b := mo) (c := mo) (d := mo) (fun p hp => hno p hp) hp0 q9 hq9
      obtain ⟨-, g2, g3, g4⟩ := rem_LEq (ed := ed) (ct := ct) hn hL _ hp0
      have hO9 := LOK_rem hO hp0 (RES_4 _ _ _ _ 0 0 0 (fun _ => 0) (fun _ => 0))
      obtain ⟨R, hR⟩ : ∃ R, f_EP_shift_4 n mo na aa bb re ef n2 mo2 na2 aa2 bb2 re2 ef2 q.2.2.2.2.1.2.1 q.2.2.2.2.1.2.2.1 q.2.2.2.2.1.2.2.2 t u = R := ⟨_, rfl⟩
      have hR2 := hR
      unfold f_EP_shift_4 at hR2
      rw [if_pos ht, if_pos hu, if_pos h2, if_pos h1] at hR2
      unfold f_Li_relocate at hR2
      subst hR2
      rw [hR] at hcs
      obtain ⟨R2, hM⟩ : ∃ R, f_Mo_shift kn ed ct ti nm xa xb n j t u = R := ⟨_, rfl⟩
      have hM2 := hM
      unfold f_Mo_shift at hM2
      rw [hEt, hEu, if_pos ht, if_pos hu, if_neg hkz, if_neg (fun h => h h2), if_pos h1, g2, g3, g4] at hM2
      refine ⟨0, _, (R2.1, kn, R2.2.1, R2.2.2.1, R2.2.2.2.1, R2.2.2.2.2.1, R2.2.2.2.2.2.1, R2.2.2.2.2.2.2, ma, it, vs, se, sm, rs, wk, ors, owk), by decide, hcs, m_Mo_shift l D cI cJ cZ cO (o + 74) code kn ed ct ti nm xa xb ma it vs se sm rs wk ors owk n j t u hj hct hn R2 hM, ?_, ?_⟩
      · subst hM2
        rfl
      · subst hM2
        exact Inv_edit hI hj (by decide) rfl hkn hn hL hO (edt_ins (show n - 1 < 32 by omega) (Srt_rem hO.1 hp0) hno2 (strike_edt hn hp0 hL hct)) (show n - 1 + 1 ≤ 32 by omega) (rdo_bz (stC := (fun _ x _ => reS x)) (fun u x y s => Or.inr rfl) _ _ _ _ _ (shu_bz (shd_bz hz _ _) (Nat.sub_le _ _))) (LOK_ins hO9 hno2 hu (hO.2.2.1 _ hp0) (RES_4 _ _ _ _ _ _ _ _ _))
  · exact same 2 (by decide) (by unfold f_EP_shift_4; rw [if_pos ht, if_pos hu, if_neg h2]) (by unfold f_Mo_shift; rw [hEu, if_pos ht, if_pos hu, if_neg hkz, if_pos h2]; rfl)
theorem op_put_5 (l : Launch) (hlt : l.stackTraces = false) (D : va_G) (cI cJ cZ cO : ClassId) (o : Nat) (C : Nat → CoT) (q : ScT) (H : Heap) (hq : PCq D cI cJ cZ cO o C q H) (code : Int32) (kn ed ct ti nm xa xb : Nat → Int32) (ma : Int32) (it vs se : Nat → Int32) (sm : Int64) (rs : Nat → Int64) (wk : Nat → Int32) (ors : Nat → Int64) (owk : Nat → Int32) (hI : Inv C (code, kn, ed, ct, ti, nm, xa, xb, ma, it, vs, se, sm, rs, wk, ors, owk)) (j : Nat) (n : Nat) (mo na aa bb : Nat → Int32) (re : Nat → Int64) (ef : Nat → Int32) (n2 : Nat) (mo2 na2 aa2 bb2 : Nat → Int32) (re2 : Nat → Int64) (ef2 : Nat → Int32) (t u x y : Int32) (hj : j < 4) (hn : n ≤ 32) (hz : bz ef) (hct : ct j = nI n) (hkn : kn j = nI (5 + 1)) (hc : C j = (nI 5, (n, mo, na, aa, bb, re, ef), (n2, mo2, na2, aa2, bb2, re2, ef2))) (hL : LEq n mo na aa bb ti nm xa xb (32 * j)) (hO : LOK 5 n mo na aa bb re ef) (ht : okM t) : OP_put l D cI cJ cZ cO o Inv (code, kn, ed, ct, ti, nm, xa, xb, ma, it, vs, se, sm, rs, wk, ors, owk) H (nI j) t u x y := by
  have hb : bz wk := hI.1
  have hcs := cs_put_5 l hlt D cI cJ cZ cO o C q H hq j n mo na aa bb re ef n2 mo2 na2 aa2 bb2 re2 ef2 t u x y hj hn hz (hop_c hO rfl) hc
  have hlk : (f_Mo_lacks kn j t).1 = 0 := by rw [lk_0 ht (kn_ne (by decide) hkn)]
  have hE : f_Mo_find ti n j t = pat mo t n := find_pat hL.mo hO.1
  have hal : f_Se_allows u x y = f_Mo_fits_5 u x y := al_Se u x y
  have same : ∀ k : Nat, k ≤ 3 → f_EP_put_5 n mo na aa bb re ef n2 mo2 na2 aa2 bb2 re2 ef2 q.2.2.2.2.2.2.1 q.2.2.2.2.2.2.2.1 q.2.2.2.2.2.2.2.2 t u x y = (k, n, mo, na, aa, bb, re, ef, n2, mo2, na2, aa2, bb2, re2, ef2) → f_Mo_put_5 ed ct ti nm xa xb n j t u x y = (nI k, ed, ct, ti, nm, xa, xb) → OP_put l D cI cJ cZ cO o Inv (code, kn, ed, ct, ti, nm, xa, xb, ma, it, vs, se, sm, rs, wk, ors, owk) H (nI j) t u x y := fun k hk e1 e2 => by
    rw [e1] at hcs
    have hcs2 : CS l D cI cJ cZ cO o y_EP_put k_EP_put rx_EP_put [.ref o, .int (nI j), .int t, .int u, .int x, .int y] E_UOE none k (updC C j (nI 5, (n, mo, na, aa, bb, re, ef), (n2, mo2, na2, aa2, bb2, re2, ef2))) H := hcs
    rw [updC_self hc] at hcs2
    exact fin_put hI hk hcs2 ⟨ma, it, vs, se, sm, rs, wk, ors, owk, hb, m_Mo_put_5 l D cI cJ cZ cO (o + 74) code kn ed ct ti nm xa xb ma it vs se sm rs wk ors owk n j t u x y hj hlk hkn hct hn _ e2⟩ rfl
  by_cases h1 : pat mo t n = -1
  · by_cases h2 : n < 32
    · by_cases h3 : f_Se_allows u x y = 0
      · exact same 3 (by decide) (by unfold f_EP_put_5; rw [if_pos ht, if_pos h1, if_pos h2, if_pos h3]) (by unfold f_Mo_put_5; rw [hE, if_neg (fun h => h h1), if_neg (by omega), if_pos (hal.symm.trans h3)]; rfl)
      · have hno := pat_no hn hO.1 h1
        obtain ⟨R, hR⟩ : ∃ R, f_EP_put_5 n mo na aa bb re ef n2 mo2 na2 aa2 bb2 re2 ef2 q.2.2.2.2.2.2.1 q.2.2.2.2.2.2.2.1 q.2.2.2.2.2.2.2.2 t u x y = R := ⟨_, rfl⟩
        have hR2 := hR
        unfold f_EP_put_5 at hR2
        rw [if_pos ht, if_pos h1, if_pos h2, if_neg h3] at hR2
        subst hR2
        rw [hR] at hcs
        obtain ⟨R2, hM⟩ : ∃ R, f_Mo_put_5 ed ct ti nm xa xb n j t u x y = R := ⟨_, rfl⟩
        have hM2 := hM
        unfold f_Mo_put_5 at hM2
        rw [hE, if_neg (fun h => h h1), if_neg (by omega), if_neg (fun h => h3 (hal.trans h))] at hM2
        refine ⟨0, _, (R2.1, kn, R2.2.1, R2.2.2.1, R2.2.2.2.1, R2.2.2.2.2.1, R2.2.2.2.2.2.1, R2.2.2.2.2.2.2, ma, it, vs, se, sm, rs, wk, ors, owk), by decide, hcs, m_Mo_put_5 l D cI cJ cZ cO (o + 74) code kn ed ct ti nm xa xb ma it vs se sm rs wk ors owk n j t u x y hj hlk hkn hct hn R2 hM, ?_, ?_⟩
        · subst hM2
          rfl
        · subst hM2
          exact Inv_edit hI hj (by decide) rfl hkn hn hL hO (put_edt h2 hL hO.1 hno hct) h2 (rdo_bz (stC := (fun _ x y => seS x y)) (fun u x y s => seS_bz x y s) _ _ _ _ _ (shu_bz hz (Nat.sub_le _ _))) (LOK_ins hO hno ht (vk_5 h3) (RES_5 _ _ _ _ _ _ _ _ _))
    · exact same 2 (by decide) (by unfold f_EP_put_5; rw [if_pos ht, if_pos h1, if_neg h2]) (by unfold f_Mo_put_5; rw [hE, if_neg (fun h => h h1), if_pos (by omega)]; rfl)
  · exact same 2 (by decide) (by unfold f_EP_put_5; rw [if_pos ht, if_neg h1]) (by unfold f_Mo_put_5; rw [hE, if_pos h1]; rfl)
theorem op_strike_5 (l : Launch) (hlt : l.stackTraces = false) (D : va_G) (cI cJ cZ cO : ClassId) (o : Nat) (C : Nat → CoT) (q : ScT) (H : Heap) (hq : PCq D cI cJ cZ cO o C q H) (code : Int32) (kn ed ct ti nm xa xb : Nat → Int32) (ma : Int32) (it vs se : Nat → Int32) (sm : Int64) (rs : Nat → Int64) (wk : Nat → Int32) (ors : Nat → Int64) (owk : Nat → Int32) (hI : Inv C (code, kn, ed, ct, ti, nm, xa, xb, ma, it, vs, se, sm, rs, wk, ors, owk)) (j : Nat) (n : Nat) (mo na aa bb : Nat → Int32) (re : Nat → Int64) (ef : Nat → Int32) (n2 : Nat) (mo2 na2 aa2 bb2 : Nat → Int32) (re2 : Nat → Int64) (ef2 : Nat → Int32) (t : Int32) (hj : j < 4) (hn : n ≤ 32) (hz : bz ef) (hct : ct j = nI n) (hkn : kn j = nI (5 + 1)) (hc : C j = (nI 5, (n, mo, na, aa, bb, re, ef), (n2, mo2, na2, aa2, bb2, re2, ef2))) (hL : LEq n mo na aa bb ti nm xa xb (32 * j)) (hO : LOK 5 n mo na aa bb re ef) (ht : okM t) : OP_strike l D cI cJ cZ cO o Inv (code, kn, ed, ct, ti, nm, xa, xb, ma, it, vs, se, sm, rs, wk, ors, owk) H (nI j) t := by
  have hb : bz wk := hI.1
  have hcs := cs_strike_5 l hlt D cI cJ cZ cO o C q H hq j n mo na aa bb re ef n2 mo2 na2 aa2 bb2 re2 ef2 t hj hn hz (hop_c hO rfl) hc
  have hkz : ¬ kn j = 0 := kn_ne (by decide) hkn
  have hlk : (f_Mo_lacks kn j t).1 = 0 := by rw [lk_0 ht hkz]
  have hE : f_Mo_find ti n j t = pat mo t n := find_pat hL.mo hO.1
  by_cases h1 : pat mo t n = -1
  · have e1 : f_EP_strike_5 n mo na aa bb re ef n2 mo2 na2 aa2 bb2 re2 ef2 q.2.2.2.2.2.2.1 q.2.2.2.2.2.2.2.1 q.2.2.2.2.2.2.2.2 t = (0, 0, n, mo, na, aa, bb, re, ef, n2, mo2, na2, aa2, bb2, re2, ef2) := by unfold f_EP_strike_5; rw [if_pos ht, if_neg (fun h => h h1)]
    have e2 : f_Mo_strike kn ed ct ti nm xa xb n j t = (0, (f_Mo_lacks kn j t).2, ed, ct, ti, nm, xa, xb) := by unfold f_Mo_strike; rw [hE, if_neg (fun h => h h1)]
    rw [e1] at hcs
    have hcs2 : CS l D cI cJ cZ cO o y_EP_strike k_EP_strike rx_EP_strike [.ref o, .int (nI j), .int t] E_NSE (some (.int 0)) 0 (updC C j (nI 5, (n, mo, na, aa, bb, re, ef), (n2, mo2, na2, aa2, bb2, re2, ef2))) H := hcs
    rw [updC_self hc] at hcs2
    exact fin_strike hI (by decide) hcs2 ⟨ma, it, vs, se, sm, rs, wk, ors, owk, hb, m_Mo_strike l D cI cJ cZ cO (o + 74) code kn ed ct ti nm xa xb ma it vs se sm rs wk ors owk n j t hj hlk hct hn _ e2⟩ (lk_s ht hkz) (Or.inl rfl) (fun _ => rfl)
  · have hp0 := pat_lt hn h1
    obtain ⟨R, hR⟩ : ∃ R, f_EP_strike_5 n mo na aa bb re ef n2 mo2 na2 aa2 bb2 re2 ef2 q.2.2.2.2.2.2.1 q.2.2.2.2.2.2.2.1 q.2.2.2.2.2.2.2.2 t = R := ⟨_, rfl⟩
    have hR2 := hR
    unfold f_EP_strike_5 at hR2
    rw [if_pos ht, if_pos h1] at hR2
    subst hR2
    rw [hR] at hcs
    obtain ⟨R2, hM⟩ : ∃ R, f_Mo_strike kn ed ct ti nm xa xb n j t = R := ⟨_, rfl⟩
    have hM2 := hM
    unfold f_Mo_strike at hM2
    rw [hE, if_pos h1] at hM2
    refine ⟨0, 1, R2.1, _, (R2.2.1, kn, R2.2.2.1, R2.2.2.2.1, R2.2.2.2.2.1, R2.2.2.2.2.2.1, R2.2.2.2.2.2.2.1, R2.2.2.2.2.2.2.2, ma, it, vs, se, sm, rs, wk, ors, owk), by decide, hcs, m_Mo_strike l D cI cJ cZ cO (o + 74) code kn ed ct ti nm xa xb ma it vs se sm rs wk ors owk n j t hj hlk hct hn R2 hM, ?_, Or.inr rfl, ?_, ?_⟩
    · subst hM2
      exact lk_s ht hkz
    · subst hM2
      exact fun _ => rfl
    · subst hM2
      exact Inv_edit hI hj (by decide) rfl hkn hn hL hO (strike_edt hn hp0 hL hct) (show n - 1 ≤ 32 by omega) (rdo_bz (stC := (fun _ x y => seS x y)) (fun u x y s => seS_bz x y s) _ _ _ _ _ (shd_bz hz _ _)) (LOK_rem hO hp0 (RES_5 _ _ _ _ _ _ _ _ _))
theorem op_shift_5 (l : Launch) (hlt : l.stackTraces = false) (D : va_G) (cI cJ cZ cO : ClassId) (o : Nat) (C : Nat → CoT) (q : ScT) (H : Heap) (hq : PCq D cI cJ cZ cO o C q H) (code : Int32) (kn ed ct ti nm xa xb : Nat → Int32) (ma : Int32) (it vs se : Nat → Int32) (sm : Int64) (rs : Nat → Int64) (wk : Nat → Int32) (ors : Nat → Int64) (owk : Nat → Int32) (hI : Inv C (code, kn, ed, ct, ti, nm, xa, xb, ma, it, vs, se, sm, rs, wk, ors, owk)) (j : Nat) (n : Nat) (mo na aa bb : Nat → Int32) (re : Nat → Int64) (ef : Nat → Int32) (n2 : Nat) (mo2 na2 aa2 bb2 : Nat → Int32) (re2 : Nat → Int64) (ef2 : Nat → Int32) (t u : Int32) (hj : j < 4) (hn : n ≤ 32) (hz : bz ef) (hct : ct j = nI n) (hkn : kn j = nI (5 + 1)) (hc : C j = (nI 5, (n, mo, na, aa, bb, re, ef), (n2, mo2, na2, aa2, bb2, re2, ef2))) (hL : LEq n mo na aa bb ti nm xa xb (32 * j)) (hO : LOK 5 n mo na aa bb re ef) (ht : okM t) (hu : okM u) : OP_shift l D cI cJ cZ cO o Inv (code, kn, ed, ct, ti, nm, xa, xb, ma, it, vs, se, sm, rs, wk, ors, owk) H (nI j) t u := by
  have hb : bz wk := hI.1
  have hcs := cs_shift_5 l hlt D cI cJ cZ cO o C q H hq j n mo na aa bb re ef n2 mo2 na2 aa2 bb2 re2 ef2 t u hj hn hz (hop_c hO rfl) hc
  have hkz : ¬ kn j = 0 := kn_ne (by decide) hkn
  have hEt : f_Mo_find ti n j t = pat mo t n := find_pat hL.mo hO.1
  have hEu : f_Mo_find ti n j u = pat mo u n := find_pat hL.mo hO.1
  have same : ∀ k : Nat, k ≤ 3 → f_EP_shift_5 n mo na aa bb re ef n2 mo2 na2 aa2 bb2 re2 ef2 q.2.2.2.2.2.2.1 q.2.2.2.2.2.2.2.1 q.2.2.2.2.2.2.2.2 t u = (k, n, mo, na, aa, bb, re, ef, n2, mo2, na2, aa2, bb2, re2, ef2) → f_Mo_shift kn ed ct ti nm xa xb n j t u = (nI k, ed, ct, ti, nm, xa, xb) → OP_shift l D cI cJ cZ cO o Inv (code, kn, ed, ct, ti, nm, xa, xb, ma, it, vs, se, sm, rs, wk, ors, owk) H (nI j) t u := fun k hk e1 e2 => by
    rw [e1] at hcs
    have hcs2 : CS l D cI cJ cZ cO o y_EP_shift k_EP_shift rx_EP_shift [.ref o, .int (nI j), .int t, .int u] E_NSE none k (updC C j (nI 5, (n, mo, na, aa, bb, re, ef), (n2, mo2, na2, aa2, bb2, re2, ef2))) H := hcs
    rw [updC_self hc] at hcs2
    exact fin_shift hI hk hcs2 ⟨ma, it, vs, se, sm, rs, wk, ors, owk, hb, m_Mo_shift l D cI cJ cZ cO (o + 74) code kn ed ct ti nm xa xb ma it vs se sm rs wk ors owk n j t u hj hct hn _ e2⟩ rfl
  by_cases h2 : pat mo u n = -1
  · by_cases h1 : pat mo t n = -1
    · exact same 3 (by decide) (by unfold f_EP_shift_5; rw [if_pos ht, if_pos hu, if_pos h2, if_neg (fun h => h h1)]) (by unfold f_Mo_shift; rw [hEt, hEu, if_pos ht, if_pos hu, if_neg hkz, if_neg (fun h => h h2), if_neg (fun h => h h1)]; rfl)
    · have hp0 := pat_lt hn h1
      have hno := pat_no hn hO.1 h2
      have hno2 : ∀ q9, q9 < n - 1 → ¬ shd mo (n - 1 - (pat mo t n).toNatClampNeg) (pat mo t n).toNatClampNeg q9 = u := fun q9 hq9 => all_rem (P := fun m _ _ _ => ¬ m = u) (a := mo) (b := mo) (c := mo) (d := mo) (fun p hp => hno p hp) hp0 q9 hq9
      obtain ⟨-, g2, g3, g4⟩ := rem_LEq (ed := ed) (ct := ct) hn hL _ hp0
      have hO9 := LOK_rem hO hp0 (RES_5 _ _ _ _ (fun _ => 0) 0 0 (fun _ => 0) (fun _ => 0))
      obtain ⟨R, hR⟩ : ∃ R, f_EP_shift_5 n mo na aa bb re ef n2 mo2 na2 aa2 bb2 re2 ef2 q.2.2.2.2.2.2.1 q.2.2.2.2.2.2.2.1 q.2.2.2.2.2.2.2.2 t u = R := ⟨_, rfl⟩
      have hR2 := hR
      unfold f_EP_shift_5 at hR2
      rw [if_pos ht, if_pos hu, if_pos h2, if_pos h1] at hR2
      unfold f_Li_relocate at hR2
      subst hR2
      rw [hR] at hcs
      obtain ⟨R2, hM⟩ : ∃ R, f_Mo_shift kn ed ct ti nm xa xb n j t u = R := ⟨_, rfl⟩
      have hM2 := hM
      unfold f_Mo_shift at hM2
      rw [hEt, hEu, if_pos ht, if_pos hu, if_neg hkz, if_neg (fun h => h h2), if_pos h1, g2, g3, g4] at hM2
      refine ⟨0, _, (R2.1, kn, R2.2.1, R2.2.2.1, R2.2.2.2.1, R2.2.2.2.2.1, R2.2.2.2.2.2.1, R2.2.2.2.2.2.2, ma, it, vs, se, sm, rs, wk, ors, owk), by decide, hcs, m_Mo_shift l D cI cJ cZ cO (o + 74) code kn ed ct ti nm xa xb ma it vs se sm rs wk ors owk n j t u hj hct hn R2 hM, ?_, ?_⟩
      · subst hM2
        rfl
      · subst hM2
        exact Inv_edit hI hj (by decide) rfl hkn hn hL hO (edt_ins (show n - 1 < 32 by omega) (Srt_rem hO.1 hp0) hno2 (strike_edt hn hp0 hL hct)) (show n - 1 + 1 ≤ 32 by omega) (rdo_bz (stC := (fun _ x y => seS x y)) (fun u x y s => seS_bz x y s) _ _ _ _ _ (shu_bz (shd_bz hz _ _) (Nat.sub_le _ _))) (LOK_ins hO9 hno2 hu (hO.2.2.1 _ hp0) (RES_5 _ _ _ _ _ _ _ _ _))
  · exact same 2 (by decide) (by unfold f_EP_shift_5; rw [if_pos ht, if_pos hu, if_neg h2]) (by unfold f_Mo_shift; rw [hEu, if_pos ht, if_pos hu, if_neg hkz, if_pos h2]; rfl)
theorem op_put (l : Launch) (hlt : l.stackTraces = false) (D : va_G) (cI cJ cZ cO : ClassId) (o : Nat) (C : Nat → CoT) (q : ScT) (H : Heap) (hq : PCq D cI cJ cZ cO o C q H) (M : MT) (hI : Inv C M) (id t u x y : Int32) : OP_put l D cI cJ cZ cO o Inv M H id t u x y := by
  obtain ⟨code, kn, ed, ct, ti, nm, xa, xb, ma, it, vs, se, sm, rs, wk, ors, owk⟩ := M
  have hb : bz wk := hI.1
  by_cases hid : okI id
  · obtain ⟨j, hj, rfl⟩ := okI_of hid
    rcases hc : C j with ⟨kd, ⟨n, mo, na, aa, bb, re, ef⟩, n2, mo2, na2, aa2, bb2, re2, ef2⟩
    have hJ : IJ j (C j) kn ed ct ti nm xa xb := hI.2 j hj
    rw [hc] at hJ
    obtain ⟨hn, hn2, hz, hct, hct2, hJ⟩ := IJ_el hJ
    have hme : ∀ c : Int32, f_Mo_lacks kn j t = (1, c) → MqS l D cI cJ cZ cO (o + 74) y_Md_put k_Md_put rm_Md_put [.ref (o + 74), .int (nI j), .int t, .int u, .int x, .int y] none c (code, kn, ed, ct, ti, nm, xa, xb, ma, it, vs, se, sm, rs, wk, ors, owk) := fun c h => ⟨ma, it, vs, se, sm, rs, wk, ors, owk, hb, m_Mo_put_e l D cI cJ cZ cO (o + 74) code kn ed ct ti nm xa xb ma it vs se sm rs wk ors owk j t u x y hj (by rw [h]; show ¬ (1 : Int32) = 0; decide) c (by show (f_Mo_lacks kn j t).2 = c; rw [h])⟩
    by_cases ht : okM t
    · rcases hJ with ⟨rfl, hk0⟩ | ⟨K, hK, rfl, hkn, hL, hL2, hO, hO2, hed⟩
      · have e : f_EP_put_c t = 2 := by unfold f_EP_put_c; rw [if_pos ht]
        exact fin_put hI (by omega) (cs_put_c l hlt D cI cJ cZ cO o C q H hq j n mo na aa bb re ef n2 mo2 na2 aa2 bb2 re2 ef2 t u x y hj hc) (hme 2 (lk_2 ht hk0)) (by rw [e]; rfl)
      · rcases (show K = 0 ∨ K = 1 ∨ K = 2 ∨ K = 3 ∨ K = 4 ∨ K = 5 by omega) with rfl | rfl | rfl | rfl | rfl | rfl
        · exact op_put_0 l hlt D cI cJ cZ cO o C q H hq code kn ed ct ti nm xa xb ma it vs se sm rs wk ors owk hI j n mo na aa bb re ef n2 mo2 na2 aa2 bb2 re2 ef2 t u x y hj hn hz hct hkn hc hL hO ht
        · exact op_put_1 l hlt D cI cJ cZ cO o C q H hq code kn ed ct ti nm xa xb ma it vs se sm rs wk ors owk hI j n mo na aa bb re ef n2 mo2 na2 aa2 bb2 re2 ef2 t u x y hj hn hz hct hkn hc hL hO ht
        · exact op_put_2 l hlt D cI cJ cZ cO o C q H hq code kn ed ct ti nm xa xb ma it vs se sm rs wk ors owk hI j n mo na aa bb re ef n2 mo2 na2 aa2 bb2 re2 ef2 t u x y hj hn hz hct hkn hc hL hO ht
        · exact op_put_3 l hlt D cI cJ cZ cO o C q H hq code kn ed ct ti nm xa xb ma it vs se sm rs wk ors owk hI j n mo na aa bb re ef n2 mo2 na2 aa2 bb2 re2 ef2 t u x y hj hn hz hct hkn hc hL hO ht
        · exact op_put_4 l hlt D cI cJ cZ cO o C q H hq code kn ed ct ti nm xa xb ma it vs se sm rs wk ors owk hI j n mo na aa bb re ef n2 mo2 na2 aa2 bb2 re2 ef2 t u x y hj hn hz hct hkn hc hL hO ht
        · exact op_put_5 l hlt D cI cJ cZ cO o C q H hq code kn ed ct ti nm xa xb ma it vs se sm rs wk ors owk hI j n mo na aa bb re ef n2 mo2 na2 aa2 bb2 re2 ef2 t u x y hj hn hz hct hkn hc hL hO ht
    · have bad : ∀ k : Nat, CS l D cI cJ cZ cO o y_EP_put k_EP_put rx_EP_put [.ref o, .int (nI j), .int t, .int u, .int x, .int y] E_UOE none k (C) H → k = 1 → OP_put l D cI cJ cZ cO o Inv (code, kn, ed, ct, ti, nm, xa, xb, ma, it, vs, se, sm, rs, wk, ors, owk) H (nI j) t u x y := fun k h e => fin_put hI (by omega) h (hme 1 (lk_1 ht)) (by rw [e]; rfl)
      rcases hJ with ⟨rfl, hk0⟩ | ⟨K, hK, rfl, hkn, hL, hL2, hO, hO2, hed⟩
      · exact bad _ (cs_put_c l hlt D cI cJ cZ cO o C q H hq j n mo na aa bb re ef n2 mo2 na2 aa2 bb2 re2 ef2 t u x y hj hc) (by unfold f_EP_put_c; rw [if_neg ht])
      · rcases (show K = 0 ∨ K = 1 ∨ K = 2 ∨ K = 3 ∨ K = 4 ∨ K = 5 by omega) with rfl | rfl | rfl | rfl | rfl | rfl
        · have hcs := cs_put_0 l hlt D cI cJ cZ cO o C q H hq j n mo na aa bb re ef n2 mo2 na2 aa2 bb2 re2 ef2 t u x y hj hn hz hc
          rw [show f_EP_put_0 n mo na aa bb re ef n2 mo2 na2 aa2 bb2 re2 ef2 q.1.2.1 q.1.2.2.1 q.1.2.2.2 t u x y = (1, n, mo, na, aa, bb, re, ef, n2, mo2, na2, aa2, bb2, re2, ef2) by unfold f_EP_put_0; rw [if_neg ht]] at hcs
          have hcs2 : CS l D cI cJ cZ cO o y_EP_put k_EP_put rx_EP_put [.ref o, .int (nI j), .int t, .int u, .int x, .int y] E_UOE none 1 (updC C j (nI 0, (n, mo, na, aa, bb, re, ef), (n2, mo2, na2, aa2, bb2, re2, ef2))) H := hcs
          rw [updC_self hc] at hcs2
          exact bad 1 hcs2 rfl
        · have hcs := cs_put_1 l hlt D cI cJ cZ cO o C q H hq j n mo na aa bb re ef n2 mo2 na2 aa2 bb2 re2 ef2 t u x y hj hn hz hc
          rw [show f_EP_put_1 n mo na aa bb re ef n2 mo2 na2 aa2 bb2 re2 ef2 q.2.1.2.1 q.2.1.2.2.1 q.2.1.2.2.2 t u x y = (1, n, mo, na, aa, bb, re, ef, n2, mo2, na2, aa2, bb2, re2, ef2) by unfold f_EP_put_1; rw [if_neg ht]] at hcs
          have hcs2 : CS l D cI cJ cZ cO o y_EP_put k_EP_put rx_EP_put [.ref o, .int (nI j), .int t, .int u, .int x, .int y] E_UOE none 1 (updC C j (nI 1, (n, mo, na, aa, bb, re, ef), (n2, mo2, na2, aa2, bb2, re2, ef2))) H := hcs
          rw [updC_self hc] at hcs2
          exact bad 1 hcs2 rfl
        · have hcs := cs_put_2 l hlt D cI cJ cZ cO o C q H hq j n mo na aa bb re ef n2 mo2 na2 aa2 bb2 re2 ef2 t u x y hj hn hz hc
          rw [show f_EP_put_2 n mo na aa bb re ef n2 mo2 na2 aa2 bb2 re2 ef2 q.2.2.1.2.2.1 q.2.2.1.2.1 q.2.2.1.2.2.2.1 q.2.2.1.2.2.2.2 t u x y = (1, n, mo, na, aa, bb, re, ef, n2, mo2, na2, aa2, bb2, re2, ef2) by unfold f_EP_put_2; rw [if_neg ht]] at hcs
          have hcs2 : CS l D cI cJ cZ cO o y_EP_put k_EP_put rx_EP_put [.ref o, .int (nI j), .int t, .int u, .int x, .int y] E_UOE none 1 (updC C j (nI 2, (n, mo, na, aa, bb, re, ef), (n2, mo2, na2, aa2, bb2, re2, ef2))) H := hcs
          rw [updC_self hc] at hcs2
          exact bad 1 hcs2 rfl
        · have hcs := cs_put_3 l hlt D cI cJ cZ cO o C q H hq j n mo na aa bb re ef n2 mo2 na2 aa2 bb2 re2 ef2 t u x y hj hn hz hc
          rw [show f_EP_put_3 n mo na aa bb re ef n2 mo2 na2 aa2 bb2 re2 ef2 q.2.2.2.1.2.1 q.2.2.2.1.2.2.1 q.2.2.2.1.2.2.2 t u x y = (1, n, mo, na, aa, bb, re, ef, n2, mo2, na2, aa2, bb2, re2, ef2) by unfold f_EP_put_3; rw [if_neg ht]] at hcs
          have hcs2 : CS l D cI cJ cZ cO o y_EP_put k_EP_put rx_EP_put [.ref o, .int (nI j), .int t, .int u, .int x, .int y] E_UOE none 1 (updC C j (nI 3, (n, mo, na, aa, bb, re, ef), (n2, mo2, na2, aa2, bb2, re2, ef2))) H := hcs
          rw [updC_self hc] at hcs2
          exact bad 1 hcs2 rfl
        · have hcs := cs_put_4 l hlt D cI cJ cZ cO o C q H hq j n mo na aa bb re ef n2 mo2 na2 aa2 bb2 re2 ef2 t u x y hj hn hz hc
          rw [show f_EP_put_4 n mo na aa bb re ef n2 mo2 na2 aa2 bb2 re2 ef2 q.2.2.2.2.1.2.1 q.2.2.2.2.1.2.2.1 q.2.2.2.2.1.2.2.2 t u x y = (1, n, mo, na, aa, bb, re, ef, n2, mo2, na2, aa2, bb2, re2, ef2) by unfold f_EP_put_4; rw [if_neg ht]] at hcs
          have hcs2 : CS l D cI cJ cZ cO o y_EP_put k_EP_put rx_EP_put [.ref o, .int (nI j), .int t, .int u, .int x, .int y] E_UOE none 1 (updC C j (nI 4, (n, mo, na, aa, bb, re, ef), (n2, mo2, na2, aa2, bb2, re2, ef2))) H := hcs
          rw [updC_self hc] at hcs2
          exact bad 1 hcs2 rfl
        · have hcs := cs_put_5 l hlt D cI cJ cZ cO o C q H hq j n mo na aa bb re ef n2 mo2 na2 aa2 bb2 re2 ef2 t u x y hj hn hz (hop_c hO rfl) hc
          rw [show f_EP_put_5 n mo na aa bb re ef n2 mo2 na2 aa2 bb2 re2 ef2 q.2.2.2.2.2.2.1 q.2.2.2.2.2.2.2.1 q.2.2.2.2.2.2.2.2 t u x y = (1, n, mo, na, aa, bb, re, ef, n2, mo2, na2, aa2, bb2, re2, ef2) by unfold f_EP_put_5; rw [if_neg ht]] at hcs
          have hcs2 : CS l D cI cJ cZ cO o y_EP_put k_EP_put rx_EP_put [.ref o, .int (nI j), .int t, .int u, .int x, .int y] E_UOE none 1 (updC C j (nI 5, (n, mo, na, aa, bb, re, ef), (n2, mo2, na2, aa2, bb2, re2, ef2))) H := hcs
          rw [updC_self hc] at hcs2
          exact bad 1 hcs2 rfl
  · have e : f_EP_put_b t = 1 := by unfold f_EP_put_b; split <;> rfl
    exact fin_put hI (by omega) (cs_put_b l hlt D cI cJ cZ cO o C q H hq id t u x y hid) ⟨ma, it, vs, se, sm, rs, wk, ors, owk, hb, m_Mo_put_b l D cI cJ cZ cO (o + 74) code kn ed ct ti nm xa xb ma it vs se sm rs wk ors owk id t u x y hid 1 rfl⟩ (by rw [e]; rfl)
theorem op_strike (l : Launch) (hlt : l.stackTraces = false) (D : va_G) (cI cJ cZ cO : ClassId) (o : Nat) (C : Nat → CoT) (q : ScT) (H : Heap) (hq : PCq D cI cJ cZ cO o C q H) (M : MT) (hI : Inv C M) (id t : Int32) : OP_strike l D cI cJ cZ cO o Inv M H id t := by
  obtain ⟨code, kn, ed, ct, ti, nm, xa, xb, ma, it, vs, se, sm, rs, wk, ors, owk⟩ := M
  have hb : bz wk := hI.1
  by_cases hid : okI id
  · obtain ⟨j, hj, rfl⟩ := okI_of hid
    rcases hc : C j with ⟨kd, ⟨n, mo, na, aa, bb, re, ef⟩, n2, mo2, na2, aa2, bb2, re2, ef2⟩
    have hJ : IJ j (C j) kn ed ct ti nm xa xb := hI.2 j hj
    rw [hc] at hJ
    obtain ⟨hn, hn2, hz, hct, hct2, hJ⟩ := IJ_el hJ
    have hme : ∀ c : Int32, f_Mo_lacks kn j t = (1, c) → MqS l D cI cJ cZ cO (o + 74) y_Md_strike k_Md_strike rm_Md_strike [.ref (o + 74), .int (nI j), .int t] (some (.int 0)) c (code, kn, ed, ct, ti, nm, xa, xb, ma, it, vs, se, sm, rs, wk, ors, owk) := fun c h => ⟨ma, it, vs, se, sm, rs, wk, ors, owk, hb, m_Mo_strike_e l D cI cJ cZ cO (o + 74) code kn ed ct ti nm xa xb ma it vs se sm rs wk ors owk j t hj (by rw [h]; show ¬ (1 : Int32) = 0; decide) c (by show (f_Mo_lacks kn j t).2 = c; rw [h])⟩
    by_cases ht : okM t
    · rcases hJ with ⟨rfl, hk0⟩ | ⟨K, hK, rfl, hkn, hL, hL2, hO, hO2, hed⟩
      · have e : f_EP_strike_c t = (2, 0) := by unfold f_EP_strike_c; rw [if_pos ht]
        exact fin_strike hI (by rw [e]; decide) (cs_strike_c l hlt D cI cJ cZ cO o C q H hq j n mo na aa bb re ef n2 mo2 na2 aa2 bb2 re2 ef2 t hj hc) (hme 2 (lk_2 ht hk0)) (by rw [e]; rfl) (by rw [e]; exact Or.inl rfl) (fun h => absurd h (by rw [e]; decide))
      · rcases (show K = 0 ∨ K = 1 ∨ K = 2 ∨ K = 3 ∨ K = 4 ∨ K = 5 by omega) with rfl | rfl | rfl | rfl | rfl | rfl
        · exact op_strike_0 l hlt D cI cJ cZ cO o C q H hq code kn ed ct ti nm xa xb ma it vs se sm rs wk ors owk hI j n mo na aa bb re ef n2 mo2 na2 aa2 bb2 re2 ef2 t hj hn hz hct hkn hc hL hO ht
        · exact op_strike_1 l hlt D cI cJ cZ cO o C q H hq code kn ed ct ti nm xa xb ma it vs se sm rs wk ors owk hI j n mo na aa bb re ef n2 mo2 na2 aa2 bb2 re2 ef2 t hj hn hz hct hkn hc hL hO ht
        · exact op_strike_2 l hlt D cI cJ cZ cO o C q H hq code kn ed ct ti nm xa xb ma it vs se sm rs wk ors owk hI j n mo na aa bb re ef n2 mo2 na2 aa2 bb2 re2 ef2 t hj hn hz hct hkn hc hL hO ht
        · exact op_strike_3 l hlt D cI cJ cZ cO o C q H hq code kn ed ct ti nm xa xb ma it vs se sm rs wk ors owk hI j n mo na aa bb re ef n2 mo2 na2 aa2 bb2 re2 ef2 t hj hn hz hct hkn hc hL hO ht
        · exact op_strike_4 l hlt D cI cJ cZ cO o C q H hq code kn ed ct ti nm xa xb ma it vs se sm rs wk ors owk hI j n mo na aa bb re ef n2 mo2 na2 aa2 bb2 re2 ef2 t hj hn hz hct hkn hc hL hO ht
        · exact op_strike_5 l hlt D cI cJ cZ cO o C q H hq code kn ed ct ti nm xa xb ma it vs se sm rs wk ors owk hI j n mo na aa bb re ef n2 mo2 na2 aa2 bb2 re2 ef2 t hj hn hz hct hkn hc hL hO ht
    · have bad : ∀ (k : Nat) (r : Int32), CS l D cI cJ cZ cO o y_EP_strike k_EP_strike rx_EP_strike [.ref o, .int (nI j), .int t] E_NSE (some (.int r)) k (C) H → k = 1 → r = 0 → OP_strike l D cI cJ cZ cO o Inv (code, kn, ed, ct, ti, nm, xa, xb, ma, it, vs, se, sm, rs, wk, ors, owk) H (nI j) t := fun k r h e er => fin_strike hI (by omega) h (hme 1 (lk_1 ht)) (by rw [e]; rfl) (Or.inl er) (fun h => absurd h (by omega))
      rcases hJ with ⟨rfl, hk0⟩ | ⟨K, hK, rfl, hkn, hL, hL2, hO, hO2, hed⟩
      · exact bad _ _ (cs_strike_c l hlt D cI cJ cZ cO o C q H hq j n mo na aa bb re ef n2 mo2 na2 aa2 bb2 re2 ef2 t hj hc) (by unfold f_EP_strike_c; rw [if_neg ht]) (by unfold f_EP_strike_c; rw [if_neg ht])
      · rcases (show K = 0 ∨ K = 1 ∨ K = 2 ∨ K = 3 ∨ K = 4 ∨ K = 5 by omega) with rfl | rfl | rfl | rfl | rfl | rfl
        · have hcs := cs_strike_0 l hlt D cI cJ cZ cO o C q H hq j n mo na aa bb re ef n2 mo2 na2 aa2 bb2 re2 ef2 t hj hn hz hc
          rw [show f_EP_strike_0 n mo na aa bb re ef n2 mo2 na2 aa2 bb2 re2 ef2 q.1.2.1 q.1.2.2.1 q.1.2.2.2 t = (1, 0, n, mo, na, aa, bb, re, ef, n2, mo2, na2, aa2, bb2, re2, ef2) by unfold f_EP_strike_0; rw [if_neg ht]] at hcs
          have hcs2 : CS l D cI cJ cZ cO o y_EP_strike k_EP_strike rx_EP_strike [.ref o, .int (nI j), .int t] E_NSE (some (.int 0)) 1 (updC C j (nI 0, (n, mo, na, aa, bb, re, ef), (n2, mo2, na2, aa2, bb2, re2, ef2))) H := hcs
          rw [updC_self hc] at hcs2
          exact bad 1 0 hcs2 rfl rfl
        · have hcs := cs_strike_1 l hlt D cI cJ cZ cO o C q H hq j n mo na aa bb re ef n2 mo2 na2 aa2 bb2 re2 ef2 t hj hn hz hc
          rw [show f_EP_strike_1 n mo na aa bb re ef n2 mo2 na2 aa2 bb2 re2 ef2 q.2.1.2.1 q.2.1.2.2.1 q.2.1.2.2.2 t = (1, 0, n, mo, na, aa, bb, re, ef, n2, mo2, na2, aa2, bb2, re2, ef2) by unfold f_EP_strike_1; rw [if_neg ht]] at hcs
          have hcs2 : CS l D cI cJ cZ cO o y_EP_strike k_EP_strike rx_EP_strike [.ref o, .int (nI j), .int t] E_NSE (some (.int 0)) 1 (updC C j (nI 1, (n, mo, na, aa, bb, re, ef), (n2, mo2, na2, aa2, bb2, re2, ef2))) H := hcs
          rw [updC_self hc] at hcs2
          exact bad 1 0 hcs2 rfl rfl
        · have hcs := cs_strike_2 l hlt D cI cJ cZ cO o C q H hq j n mo na aa bb re ef n2 mo2 na2 aa2 bb2 re2 ef2 t hj hn hz hc
          rw [show f_EP_strike_2 n mo na aa bb re ef n2 mo2 na2 aa2 bb2 re2 ef2 q.2.2.1.2.2.1 q.2.2.1.2.1 q.2.2.1.2.2.2.1 q.2.2.1.2.2.2.2 t = (1, 0, n, mo, na, aa, bb, re, ef, n2, mo2, na2, aa2, bb2, re2, ef2) by unfold f_EP_strike_2; rw [if_neg ht]] at hcs
          have hcs2 : CS l D cI cJ cZ cO o y_EP_strike k_EP_strike rx_EP_strike [.ref o, .int (nI j), .int t] E_NSE (some (.int 0)) 1 (updC C j (nI 2, (n, mo, na, aa, bb, re, ef), (n2, mo2, na2, aa2, bb2, re2, ef2))) H := hcs
          rw [updC_self hc] at hcs2
          exact bad 1 0 hcs2 rfl rfl
        · have hcs := cs_strike_3 l hlt D cI cJ cZ cO o C q H hq j n mo na aa bb re ef n2 mo2 na2 aa2 bb2 re2 ef2 t hj hn hz hc
          rw [show f_EP_strike_3 n mo na aa bb re ef n2 mo2 na2 aa2 bb2 re2 ef2 q.2.2.2.1.2.1 q.2.2.2.1.2.2.1 q.2.2.2.1.2.2.2 t = (1, 0, n, mo, na, aa, bb, re, ef, n2, mo2, na2, aa2, bb2, re2, ef2) by unfold f_EP_strike_3; rw [if_neg ht]] at hcs
          have hcs2 : CS l D cI cJ cZ cO o y_EP_strike k_EP_strike rx_EP_strike [.ref o, .int (nI j), .int t] E_NSE (some (.int 0)) 1 (updC C j (nI 3, (n, mo, na, aa, bb, re, ef), (n2, mo2, na2, aa2, bb2, re2, ef2))) H := hcs
          rw [updC_self hc] at hcs2
          exact bad 1 0 hcs2 rfl rfl
        · have hcs := cs_strike_4 l hlt D cI cJ cZ cO o C q H hq j n mo na aa bb re ef n2 mo2 na2 aa2 bb2 re2 ef2 t hj hn hz hc
          rw [show f_EP_strike_4 n mo na aa bb re ef n2 mo2 na2 aa2 bb2 re2 ef2 q.2.2.2.2.1.2.1 q.2.2.2.2.1.2.2.1 q.2.2.2.2.1.2.2.2 t = (1, 0, n, mo, na, aa, bb, re, ef, n2, mo2, na2, aa2, bb2, re2, ef2) by unfold f_EP_strike_4; rw [if_neg ht]] at hcs
          have hcs2 : CS l D cI cJ cZ cO o y_EP_strike k_EP_strike rx_EP_strike [.ref o, .int (nI j), .int t] E_NSE (some (.int 0)) 1 (updC C j (nI 4, (n, mo, na, aa, bb, re, ef), (n2, mo2, na2, aa2, bb2, re2, ef2))) H := hcs
          rw [updC_self hc] at hcs2
          exact bad 1 0 hcs2 rfl rfl
        · have hcs := cs_strike_5 l hlt D cI cJ cZ cO o C q H hq j n mo na aa bb re ef n2 mo2 na2 aa2 bb2 re2 ef2 t hj hn hz (hop_c hO rfl) hc
          rw [show f_EP_strike_5 n mo na aa bb re ef n2 mo2 na2 aa2 bb2 re2 ef2 q.2.2.2.2.2.2.1 q.2.2.2.2.2.2.2.1 q.2.2.2.2.2.2.2.2 t = (1, 0, n, mo, na, aa, bb, re, ef, n2, mo2, na2, aa2, bb2, re2, ef2) by unfold f_EP_strike_5; rw [if_neg ht]] at hcs
          have hcs2 : CS l D cI cJ cZ cO o y_EP_strike k_EP_strike rx_EP_strike [.ref o, .int (nI j), .int t] E_NSE (some (.int 0)) 1 (updC C j (nI 5, (n, mo, na, aa, bb, re, ef), (n2, mo2, na2, aa2, bb2, re2, ef2))) H := hcs
          rw [updC_self hc] at hcs2
          exact bad 1 0 hcs2 rfl rfl
  · have e : f_EP_strike_b t = (1, 0) := by unfold f_EP_strike_b; split <;> rfl
    exact fin_strike hI (by rw [e]; decide) (cs_strike_b l hlt D cI cJ cZ cO o C q H hq id t hid) ⟨ma, it, vs, se, sm, rs, wk, ors, owk, hb, m_Mo_strike_b l D cI cJ cZ cO (o + 74) code kn ed ct ti nm xa xb ma it vs se sm rs wk ors owk id t hid 1 rfl⟩ (by rw [e]; rfl) (by rw [e]; exact Or.inl rfl) (fun h => absurd h (by rw [e]; decide))
theorem op_shift (l : Launch) (hlt : l.stackTraces = false) (D : va_G) (cI cJ cZ cO : ClassId) (o : Nat) (C : Nat → CoT) (q : ScT) (H : Heap) (hq : PCq D cI cJ cZ cO o C q H) (M : MT) (hI : Inv C M) (id t u : Int32) : OP_shift l D cI cJ cZ cO o Inv M H id t u := by
  obtain ⟨code, kn, ed, ct, ti, nm, xa, xb, ma, it, vs, se, sm, rs, wk, ors, owk⟩ := M
  have hb : bz wk := hI.1
  by_cases hid : okI id
  · obtain ⟨j, hj, rfl⟩ := okI_of hid
    rcases hc : C j with ⟨kd, ⟨n, mo, na, aa, bb, re, ef⟩, n2, mo2, na2, aa2, bb2, re2, ef2⟩
    have hJ : IJ j (C j) kn ed ct ti nm xa xb := hI.2 j hj
    rw [hc] at hJ
    obtain ⟨hn, hn2, hz, hct, hct2, hJ⟩ := IJ_el hJ
    by_cases ht : okM t ∧ okM u
    · obtain ⟨ht, hu⟩ := ht
      rcases hJ with ⟨rfl, hk0⟩ | ⟨K, hK, rfl, hkn, hL, hL2, hO, hO2, hed⟩
      · have e : f_EP_shift_c t u = 2 := by unfold f_EP_shift_c; rw [if_pos ht, if_pos hu]
        have e2 : f_Mo_shift kn ed ct ti nm xa xb n j t u = (2, ed, ct, ti, nm, xa, xb) := by unfold f_Mo_shift; rw [if_pos ht, if_pos hu, if_pos hk0]
        exact fin_shift hI (by omega) (cs_shift_c l hlt D cI cJ cZ cO o C q H hq j n mo na aa bb re ef n2 mo2 na2 aa2 bb2 re2 ef2 t u hj hc) ⟨ma, it, vs, se, sm, rs, wk, ors, owk, hb, m_Mo_shift l D cI cJ cZ cO (o + 74) code kn ed ct ti nm xa xb ma it vs se sm rs wk ors owk n j t u hj hct hn _ e2⟩ (by rw [e]; rfl)
      · rcases (show K = 0 ∨ K = 1 ∨ K = 2 ∨ K = 3 ∨ K = 4 ∨ K = 5 by omega) with rfl | rfl | rfl | rfl | rfl | rfl
        · exact op_shift_0 l hlt D cI cJ cZ cO o C q H hq code kn ed ct ti nm xa xb ma it vs se sm rs wk ors owk hI j n mo na aa bb re ef n2 mo2 na2 aa2 bb2 re2 ef2 t u hj hn hz hct hkn hc hL hO ht hu
        · exact op_shift_1 l hlt D cI cJ cZ cO o C q H hq code kn ed ct ti nm xa xb ma it vs se sm rs wk ors owk hI j n mo na aa bb re ef n2 mo2 na2 aa2 bb2 re2 ef2 t u hj hn hz hct hkn hc hL hO ht hu
        · exact op_shift_2 l hlt D cI cJ cZ cO o C q H hq code kn ed ct ti nm xa xb ma it vs se sm rs wk ors owk hI j n mo na aa bb re ef n2 mo2 na2 aa2 bb2 re2 ef2 t u hj hn hz hct hkn hc hL hO ht hu
        · exact op_shift_3 l hlt D cI cJ cZ cO o C q H hq code kn ed ct ti nm xa xb ma it vs se sm rs wk ors owk hI j n mo na aa bb re ef n2 mo2 na2 aa2 bb2 re2 ef2 t u hj hn hz hct hkn hc hL hO ht hu
        · exact op_shift_4 l hlt D cI cJ cZ cO o C q H hq code kn ed ct ti nm xa xb ma it vs se sm rs wk ors owk hI j n mo na aa bb re ef n2 mo2 na2 aa2 bb2 re2 ef2 t u hj hn hz hct hkn hc hL hO ht hu
        · exact op_shift_5 l hlt D cI cJ cZ cO o C q H hq code kn ed ct ti nm xa xb ma it vs se sm rs wk ors owk hI j n mo na aa bb re ef n2 mo2 na2 aa2 bb2 re2 ef2 t u hj hn hz hct hkn hc hL hO ht hu
    · have cut : ∀ (A : Type) (x y : A), (if okM t then (if okM u then x else y) else y) = y := fun A x y => by
        by_cases h1 : okM t
        · rw [if_pos h1, if_neg (fun h2 => ht ⟨h1, h2⟩)]
        · rw [if_neg h1]
      have e2 : f_Mo_shift kn ed ct ti nm xa xb n j t u = (1, ed, ct, ti, nm, xa, xb) := cut _ _ _
      have bad : ∀ k : Nat, CS l D cI cJ cZ cO o y_EP_shift k_EP_shift rx_EP_shift [.ref o, .int (nI j), .int t, .int u] E_NSE none k (C) H → k = 1 → OP_shift l D cI cJ cZ cO o Inv (code, kn, ed, ct, ti, nm, xa, xb, ma, it, vs, se, sm, rs, wk, ors, owk) H (nI j) t u := fun k h e => fin_shift hI (by omega) h ⟨ma, it, vs, se, sm, rs, wk, ors, owk, hb, m_Mo_shift l D cI cJ cZ cO (o + 74) code kn ed ct ti nm xa xb ma it vs se sm rs wk ors owk n j t u hj hct hn _ e2⟩ (by rw [e]; rfl)
      rcases hJ with ⟨rfl, hk0⟩ | ⟨K, hK, rfl, hkn, hL, hL2, hO, hO2, hed⟩
      · exact bad _ (cs_shift_c l hlt D cI cJ cZ cO o C q H hq j n mo na aa bb re ef n2 mo2 na2 aa2 bb2 re2 ef2 t u hj hc) (cut _ _ _)
      · rcases (show K = 0 ∨ K = 1 ∨ K = 2 ∨ K = 3 ∨ K = 4 ∨ K = 5 by omega) with rfl | rfl | rfl | rfl | rfl | rfl
        · have hcs := cs_shift_0 l hlt D cI cJ cZ cO o C q H hq j n mo na aa bb re ef n2 mo2 na2 aa2 bb2 re2 ef2 t u hj hn hz hc
          rw [show f_EP_shift_0 n mo na aa bb re ef n2 mo2 na2 aa2 bb2 re2 ef2 q.1.2.1 q.1.2.2.1 q.1.2.2.2 t u = (1, n, mo, na, aa, bb, re, ef, n2, mo2, na2, aa2, bb2, re2, ef2) from cut _ _ _] at hcs
          have hcs2 : CS l D cI cJ cZ cO o y_EP_shift k_EP_shift rx_EP_shift [.ref o, .int (nI j), .int t, .int u] E_NSE none 1 (updC C j (nI 0, (n, mo, na, aa, bb, re, ef), (n2, mo2, na2, aa2, bb2, re2, ef2))) H := hcs
          rw [updC_self hc] at hcs2
          exact bad 1 hcs2 rfl
        · have hcs := cs_shift_1 l hlt D cI cJ cZ cO o C q H hq j n mo na aa bb re ef n2 mo2 na2 aa2 bb2 re2 ef2 t u hj hn hz hc
          rw [show f_EP_shift_1 n mo na aa bb re ef n2 mo2 na2 aa2 bb2 re2 ef2 q.2.1.2.1 q.2.1.2.2.1 q.2.1.2.2.2 t u = (1, n, mo, na, aa, bb, re, ef, n2, mo2, na2, aa2, bb2, re2, ef2) from cut _ _ _] at hcs
          have hcs2 : CS l D cI cJ cZ cO o y_EP_shift k_EP_shift rx_EP_shift [.ref o, .int (nI j), .int t, .int u] E_NSE none 1 (updC C j (nI 1, (n, mo, na, aa, bb, re, ef), (n2, mo2, na2, aa2, bb2, re2, ef2))) H := hcs
          rw [updC_self hc] at hcs2
          exact bad 1 hcs2 rfl
        · have hcs := cs_shift_2 l hlt D cI cJ cZ cO o C q H hq j n mo na aa bb re ef n2 mo2 na2 aa2 bb2 re2 ef2 t u hj hn hz hc
          rw [show f_EP_shift_2 n mo na aa bb re ef n2 mo2 na2 aa2 bb2 re2 ef2 q.2.2.1.2.2.1 q.2.2.1.2.1 q.2.2.1.2.2.2.1 q.2.2.1.2.2.2.2 t u = (1, n, mo, na, aa, bb, re, ef, n2, mo2, na2, aa2, bb2, re2, ef2) from cut _ _ _] at hcs
          have hcs2 : CS l D cI cJ cZ cO o y_EP_shift k_EP_shift rx_EP_shift [.ref o, .int (nI j), .int t, .int u] E_NSE none 1 (updC C j (nI 2, (n, mo, na, aa, bb, re, ef), (n2, mo2, na2, aa2, bb2, re2, ef2))) H := hcs
          rw [updC_self hc] at hcs2
          exact bad 1 hcs2 rfl
        · have hcs := cs_shift_3 l hlt D cI cJ cZ cO o C q H hq j n mo na aa bb re ef n2 mo2 na2 aa2 bb2 re2 ef2 t u hj hn hz hc
          rw [show f_EP_shift_3 n mo na aa bb re ef n2 mo2 na2 aa2 bb2 re2 ef2 q.2.2.2.1.2.1 q.2.2.2.1.2.2.1 q.2.2.2.1.2.2.2 t u = (1, n, mo, na, aa, bb, re, ef, n2, mo2, na2, aa2, bb2, re2, ef2) from cut _ _ _] at hcs
          have hcs2 : CS l D cI cJ cZ cO o y_EP_shift k_EP_shift rx_EP_shift [.ref o, .int (nI j), .int t, .int u] E_NSE none 1 (updC C j (nI 3, (n, mo, na, aa, bb, re, ef), (n2, mo2, na2, aa2, bb2, re2, ef2))) H := hcs
          rw [updC_self hc] at hcs2
          exact bad 1 hcs2 rfl
        · have hcs := cs_shift_4 l hlt D cI cJ cZ cO o C q H hq j n mo na aa bb re ef n2 mo2 na2 aa2 bb2 re2 ef2 t u hj hn hz hc
          rw [show f_EP_shift_4 n mo na aa bb re ef n2 mo2 na2 aa2 bb2 re2 ef2 q.2.2.2.2.1.2.1 q.2.2.2.2.1.2.2.1 q.2.2.2.2.1.2.2.2 t u = (1, n, mo, na, aa, bb, re, ef, n2, mo2, na2, aa2, bb2, re2, ef2) from cut _ _ _] at hcs
          have hcs2 : CS l D cI cJ cZ cO o y_EP_shift k_EP_shift rx_EP_shift [.ref o, .int (nI j), .int t, .int u] E_NSE none 1 (updC C j (nI 4, (n, mo, na, aa, bb, re, ef), (n2, mo2, na2, aa2, bb2, re2, ef2))) H := hcs
          rw [updC_self hc] at hcs2
          exact bad 1 hcs2 rfl
        · have hcs := cs_shift_5 l hlt D cI cJ cZ cO o C q H hq j n mo na aa bb re ef n2 mo2 na2 aa2 bb2 re2 ef2 t u hj hn hz (hop_c hO rfl) hc
          rw [show f_EP_shift_5 n mo na aa bb re ef n2 mo2 na2 aa2 bb2 re2 ef2 q.2.2.2.2.2.2.1 q.2.2.2.2.2.2.2.1 q.2.2.2.2.2.2.2.2 t u = (1, n, mo, na, aa, bb, re, ef, n2, mo2, na2, aa2, bb2, re2, ef2) from cut _ _ _] at hcs
          have hcs2 : CS l D cI cJ cZ cO o y_EP_shift k_EP_shift rx_EP_shift [.ref o, .int (nI j), .int t, .int u] E_NSE none 1 (updC C j (nI 5, (n, mo, na, aa, bb, re, ef), (n2, mo2, na2, aa2, bb2, re2, ef2))) H := hcs
          rw [updC_self hc] at hcs2
          exact bad 1 hcs2 rfl
  · have e : f_EP_shift_b t u = 1 := by
      unfold f_EP_shift_b
      split
      · split <;> rfl
      · rfl
    exact fin_shift hI (by omega) (cs_shift_b l hlt D cI cJ cZ cO o C q H hq id t u hid) ⟨ma, it, vs, se, sm, rs, wk, ors, owk, hb, m_Mo_shift_b l D cI cJ cZ cO (o + 74) code kn ed ct ti nm xa xb ma it vs se sm rs wk ors owk id t u hid () rfl⟩ (by rw [e]; rfl)
