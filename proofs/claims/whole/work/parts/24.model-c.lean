/-! contracts of EditablePastModel (by wip/whole/gen/model.py) -/
def f_Mo_doBag_0 (n : Nat) (it : Nat → Int32) (vs : Nat → Int32) (rs : Nat → Int64) (i : Nat) (u : Int32) (x : Int32) : Int32 × Nat × (Nat → Int32) × (Nat → Int32) × (Nat → Int64) := if u = 1 then ((1, n + 1, upd it n x, vs, rs)) else (if n = 0 then ((0, n, it, vs, rs)) else ((1, (f_Mo_takeOut n it vs (f_Mo_nextOf_0 n)).1, (f_Mo_takeOut n it vs (f_Mo_nextOf_0 n)).2.1, (f_Mo_takeOut n it vs (f_Mo_nextOf_0 n)).2.2, vp_updL rs i ((it (f_Mo_nextOf_0 n)).toInt64))))
set_option maxHeartbeats 4000000 in
set_option maxRecDepth 100000 in
theorem m_Mo_doBag_0 (l : Launch) (D : va_G) (cI cJ cZ cO : ClassId) (a : Nat) (code : Int32) (kn : Nat → Int32) (ed : Nat → Int32) (ct : Nat → Int32) (ti : Nat → Int32) (nm : Nat → Int32) (xa : Nat → Int32) (xb : Nat → Int32) (n : Nat) (it : Nat → Int32) (vs : Nat → Int32) (se : Nat → Int32) (sm : Int64) (rs : Nat → Int64) (wk : Nat → Int32) (ors : Nat → Int64) (owk : Nat → Int32) (i : Nat) (u : Int32) (x : Int32) (hn : n < 32) (hi : i < 32) (R : Int32 × Nat × (Nat → Int32) × (Nat → Int32) × (Nat → Int64)) (hR : f_Mo_doBag_0 n it vs rs i u x = R) : Met l y_Md_doBag (k_Md_doBag :: gt) rm_Md_doBag (Pc0 D cI cJ cZ cO [.ref a, .int 0, .int (nI i), .int u, .int x] (fun H => va_P D cls (wMo cI cJ cZ a code kn ed ct ti nm xa xb (nI n) it vs se sm rs wk ors owk) H)) (Qd (blk a 15) (some (.int R.1)) (fun H => va_P D cls (wMo cI cJ cZ a code kn ed ct ti nm xa xb (nI R.2.1) R.2.2.1 R.2.2.2.1 se sm R.2.2.2.2 wk ors owk) H)) 0 0 (blk a 15) := by
  refine Met.ofW (cc := c_Md_doBag) (maxL := 6) (ret := (Option.some FieldType.boolean)) (by decide) rfl ?_
  intro p e s m args below meth c s₁ B hml hv
  obtain ⟨rfl, hKn, hP⟩ := hv
  have hx := B.exec
  have hb := B.bytes
  have hr := B.returns
  have hts := atoms_spec (ws := k_Md_doBag :: gt) B.pre
  have hg : ∀ w ∈ gt, w.before _ s = true := fun w h => hts w (List.mem_cons_of_mem _ h)
  have hown : s.vm.findClass R_Md = some m.cls := findClass_of_methodNamed B.named
  have hlocks := B.notSynchronized
  have hK := hKn.1
  have hl := lv_entry ([.ref a, .int 0, .int (nI i), .int u, .int x]) (n := 6) (Nat.le_of_ble_eq_true rfl)
  rw [lg_entry_eq]
  generalize (lg_sl ([.ref a, .int 0, .int (nI i), .int u, .int x]) ++ List.replicate (6 - (lg_sl ([.ref a, .int 0, .int (nI i), .int u, .int x])).length) Slot.unset).toArray = ls at hl ⊢
  have hl : lv_has ls 6 [(0, .ref a), (1, .int 0), (2, .int (nI i)), (3, .int u), (4, .int x)] := hl
  have hS : va_S (blk a 15) s.heap s.heap [] := va_S.rf
  have hD : va_D (blk a 15) (wMo cI cJ cZ a code kn ed ct ti nm xa xb (nI n) it vs se sm rs wk ors owk) := (blk_D (wMo_in))
  have hR : (if u = 1 then ((1, n + 1, upd it n x, vs, rs)) else (if n = 0 then ((0, n, it, vs, rs)) else ((1, (f_Mo_takeOut n it vs (f_Mo_nextOf_0 n)).1, (f_Mo_takeOut n it vs (f_Mo_nextOf_0 n)).2.1, (f_Mo_takeOut n it vs (f_Mo_nextOf_0 n)).2.2, vp_updL rs i ((it (f_Mo_nextOf_0 n)).toInt64))))) = R := hR
  refine lv_iload_n hx hb d_Md_doBag_0 rfl (lv_at hl 3 rfl) ?_
  refine lv_iconst (v := 1) hx hb d_Md_doBag_1 (by decide) ?_
  refine lv_icmp_ne (tgt := 28) hx hb d_Md_doBag_2 (by decide) (fun hc1 => ?_) (fun hc1 => ?_)
  · have hc1 : ¬ (u = 1) := hc1
    refine lv_aload_n hx hb d_Md_doBag_28 rfl (lv_at hl 0 rfl) ?_
    refine va_get (D := D) (ci := 9) (v := .int (nI n)) (C := R_Md) (T := F_Md) (N := 17) hx hb hg in_Md hown hK hP 0 rfl rfl 8 (Nat.le_of_ble_eq_true rfl) (hg _ tw_714) (fun _ h9 => h9) rfl d_Md_doBag_29 ?_
    refine lv_if_ne (tgt := 37) hx hb d_Md_doBag_32 (by decide) (fun hc2 => ?_) (fun hc2 => ?_)
    · have hc2 : ¬ (n = 0) := fun h9 => hc2 ((nI_eq (a := n) (b := 0) (by omega) (by omega)).mpr h9)
      refine lv_aload_n hx hb d_Md_doBag_37 rfl (lv_at hl 0 rfl) ?_
      refine lv_iload_n hx hb d_Md_doBag_38 rfl (lv_at hl 1 rfl) ?_
      refine ep_callP (W.runV (As := [.int 0]) (rest := []) ⟨hx, hb, hml, hown, hg⟩ (m_Mo_nextOf_0 l D cI cJ cZ cO a code kn ed ct ti nm xa xb n it vs se sm rs wk ors owk (by omega) (by omega) _ rfl) (ep_cwV 1 hg tw_856 tw_858 ts_23 tw_12 tk_Md_nextOf rfl rfl (by decide +kernel) ⟨(Nat.le_of_ble_eq_true rfl), (Nat.le_of_ble_eq_true rfl)⟩) ⟨ep_blind, va_recv (q0 := 0) (ci := 9) hK hP rfl rfl, ep_pre hKn (hP)⟩ rfl rfl hl.1 rfl (lv_room (Nat.le_of_ble_eq_true rfl)) d_Md_doBag_39 ⟨Nat.zero_le _, Nat.zero_le _⟩) ?_
      refine W.eq (g2 := F0 m 42 ls [.int (nI (f_Mo_nextOf_0 n))]) rfl ?_
      have hp9 : (f_Mo_nextOf_0 n) < n := nx0_lt _ (by omega)
      refine lv_istore (lv' := [(5, .int (nI (f_Mo_nextOf_0 n))), (0, .ref a), (1, .int 0), (2, .int (nI i)), (3, .int u), (4, .int x)]) hx hb d_Md_doBag_42 hl (by decide) rfl (fun ls hl => ?_)
      refine lv_aload_n hx hb d_Md_doBag_44 rfl (lv_at hl 1 rfl) ?_
      refine va_get (D := D) (ci := 9) (v := .ref (a + 11)) (C := R_Md) (T := F_Md) (N := 17) hx hb hg in_Md hown hK hP 0 rfl rfl 13 (Nat.le_of_ble_eq_true rfl) (hg _ tw_719) (fun _ h9 => h9) rfl d_Md_doBag_45 ?_
      refine lv_iload_n hx hb d_Md_doBag_48 rfl (lv_at hl 3 rfl) ?_
      refine lv_aload_n hx hb d_Md_doBag_49 rfl (lv_at hl 1 rfl) ?_
      refine va_get (D := D) (ci := 9) (v := .ref (a + 8)) (C := R_Md) (T := F_Md) (N := 17) hx hb hg in_Md hown hK hP 0 rfl rfl 9 (Nat.le_of_ble_eq_true rfl) (hg _ tw_715) (fun _ h9 => h9) rfl d_Md_doBag_50 ?_
      refine lv_iload hx hb d_Md_doBag_53 (lv_at hl 0 rfl) ?_
      refine ep_iald hx hb hK hP 8 0 rfl rfl (i := (f_Mo_nextOf_0 n)) (by omega) (by decide) d_Md_doBag_55 ?_
      refine lv_i2l hx hb d_Md_doBag_56 rfl ?_
      refine ep_last hx hb hK hP hD hS 11 1 rfl rfl (i := i) (x := ((it (f_Mo_nextOf_0 n)).toInt64)) (by omega) (by decide) d_Md_doBag_57 (fun H locs hP hD hS => ?_)
      have hP : va_P D cls (wMo cI cJ cZ a code kn ed ct ti nm xa xb (nI n) it vs se sm (vp_updL rs i ((it (f_Mo_nextOf_0 n)).toInt64)) wk ors owk) H := hP
      have hD : va_D (blk a 15) (wMo cI cJ cZ a code kn ed ct ti nm xa xb (nI n) it vs se sm (vp_updL rs i ((it (f_Mo_nextOf_0 n)).toInt64)) wk ors owk) := hD
      refine lv_aload_n hx hb d_Md_doBag_58 rfl (lv_at hl 1 rfl) ?_
      refine lv_iload hx hb d_Md_doBag_59 (lv_at hl 0 rfl) ?_
      refine ep_callH (W.runV (As := [.int (nI (f_Mo_nextOf_0 n))]) (rest := []) ⟨hx, hb, hml, hown, hg⟩ (m_Mo_takeOut l D cI cJ cZ cO a code kn ed ct ti nm xa xb n it vs se sm (vp_updL rs i ((it (f_Mo_nextOf_0 n)).toInt64)) wk ors owk (f_Mo_nextOf_0 n) (by omega) hp9 _ rfl) (ep_cwV 1 hg tw_848 tw_850 ts_21 tw_12 tk_Md_takeOut rfl rfl (by decide +kernel) ⟨(Nat.le_of_ble_eq_true rfl), (Nat.le_of_ble_eq_true rfl)⟩) ⟨ep_blind, va_recv (q0 := 0) (ci := 9) hK hP rfl rfl, ep_pre hKn (hP)⟩ rfl rfl hl.1 rfl (lv_room (Nat.le_of_ble_eq_true rfl)) d_Md_doBag_61 ⟨Nat.zero_le _, Nat.zero_le _⟩) hS (fun q h => h) (fun H locs hsz9 hk1 hP1 hS => ?_)
      refine W.eq (g2 := F0 m 64 ls []) rfl ?_
      have hP : va_P D cls (wMo cI cJ cZ a code kn ed ct ti nm xa xb (nI ((f_Mo_takeOut n it vs (f_Mo_nextOf_0 n)).1)) ((f_Mo_takeOut n it vs (f_Mo_nextOf_0 n)).2.1) ((f_Mo_takeOut n it vs (f_Mo_nextOf_0 n)).2.2) se sm (vp_updL rs i ((it (f_Mo_nextOf_0 n)).toInt64)) wk ors owk) H := hP1
      have hD : va_D (blk a 15) (wMo cI cJ cZ a code kn ed ct ti nm xa xb (nI ((f_Mo_takeOut n it vs (f_Mo_nextOf_0 n)).1)) ((f_Mo_takeOut n it vs (f_Mo_nextOf_0 n)).2.1) ((f_Mo_takeOut n it vs (f_Mo_nextOf_0 n)).2.2) se sm (vp_updL rs i ((it (f_Mo_nextOf_0 n)).toInt64)) wk ors owk) := (blk_D (wMo_in))
      refine lv_iconst (v := 1) hx hb d_Md_doBag_64 (by decide) ?_
      rw [if_neg hc1, if_neg hc2] at hR
      subst hR
      exact W.zret (v := 1) hx hb hr (by decide) (fun t9 ht hW => ⟨rfl, hS.F ht, by rw [ht]; exact hP⟩) hS.2.2 d_Md_doBag_65
    · have hc2 : n = 0 := (nI_eq (a := n) (b := 0) (by omega) (by omega)).mp hc2
      refine lv_iconst (v := 0) hx hb d_Md_doBag_35 (by decide) ?_
      rw [if_neg hc1, if_pos hc2] at hR
      subst hR
      exact W.zret (v := 0) hx hb hr (by decide) (fun t9 ht hW => ⟨rfl, hS.F ht, by rw [ht]; exact hP⟩) hS.2.2 d_Md_doBag_36
  · have hc1 : u = 1 := hc1
    refine lv_aload_n hx hb d_Md_doBag_5 rfl (lv_at hl 0 rfl) ?_
    refine va_get (D := D) (ci := 9) (v := .ref (a + 8)) (C := R_Md) (T := F_Md) (N := 17) hx hb hg in_Md hown hK hP 0 rfl rfl 9 (Nat.le_of_ble_eq_true rfl) (hg _ tw_715) (fun _ h9 => h9) rfl d_Md_doBag_6 ?_
    refine lv_aload_n hx hb d_Md_doBag_9 rfl (lv_at hl 0 rfl) ?_
    refine va_get (D := D) (ci := 9) (v := .int (nI n)) (C := R_Md) (T := F_Md) (N := 17) hx hb hg in_Md hown hK hP 0 rfl rfl 8 (Nat.le_of_ble_eq_true rfl) (hg _ tw_714) (fun _ h9 => h9) rfl d_Md_doBag_10 ?_
    refine lv_iload hx hb d_Md_doBag_13 (lv_at hl 4 rfl) ?_
    refine ep_iast hx hb hK hP hD hS 8 0 rfl rfl (i := n) (x := x) (by omega) (by decide) d_Md_doBag_15 (fun H locs hP hD hS => ?_)
    have hP : va_P D cls (wMo cI cJ cZ a code kn ed ct ti nm xa xb (nI n) (upd it n x) vs se sm rs wk ors owk) H := hP
    have hD : va_D (blk a 15) (wMo cI cJ cZ a code kn ed ct ti nm xa xb (nI n) (upd it n x) vs se sm rs wk ors owk) := hD
    refine lv_aload_n hx hb d_Md_doBag_16 rfl (lv_at hl 0 rfl) ?_
    refine lv_dup hx hb d_Md_doBag_17 rfl ?_
    refine va_get (D := D) (ci := 9) (v := .int (nI n)) (C := R_Md) (T := F_Md) (N := 17) hx hb hg in_Md hown hK hP 0 rfl rfl 8 (Nat.le_of_ble_eq_true rfl) (hg _ tw_714) (fun _ h9 => h9) rfl d_Md_doBag_18 ?_
    refine lv_iconst (v := 1) hx hb d_Md_doBag_21 (by decide) ?_
    refine lv_iadd hx hb d_Md_doBag_22 ?_
    refine lv_topi (fun z9 e_z9 => ?_)
    obtain rfl : z9 = nI (n + 1) := by rw [e_z9]; exact (nI_add n 1)
    refine va_put (D := D) (ci := 9) (v := .int (nI (n + 1))) (ty := .int) (C := R_Md) (T := F_Md) (N := 17) hx hb hg in_Md t_Md t_Md_ok n_Md hown hK hP hD hS 0 rfl rfl 8 (Nat.le_of_ble_eq_true rfl) (hg _ tw_714) (fun _ h9 => h9) rfl (by decide +kernel) rfl rfl (Nat.le_of_ble_eq_true rfl) d_Md_doBag_23 (fun H locs hP hD hS => ?_)
    have hP : va_P D cls (wMo cI cJ cZ a code kn ed ct ti nm xa xb (nI (n + 1)) (upd it n x) vs se sm rs wk ors owk) H := hP
    have hD : va_D (blk a 15) (wMo cI cJ cZ a code kn ed ct ti nm xa xb (nI (n + 1)) (upd it n x) vs se sm rs wk ors owk) := hD
    refine lv_iconst (v := 1) hx hb d_Md_doBag_26 (by decide) ?_
    rw [if_pos hc1] at hR
    subst hR
    exact W.zret (v := 1) hx hb hr (by decide) (fun t9 ht hW => ⟨rfl, hS.F ht, by rw [ht]; exact hP⟩) hS.2.2 d_Md_doBag_27

def f_Mo_doBag_1 (n : Nat) (it : Nat → Int32) (vs : Nat → Int32) (rs : Nat → Int64) (i : Nat) (u : Int32) (x : Int32) : Int32 × Nat × (Nat → Int32) × (Nat → Int32) × (Nat → Int64) := if u = 1 then ((1, n + 1, upd it n x, vs, rs)) else (if n = 0 then ((0, n, it, vs, rs)) else ((1, (f_Mo_takeOut n it vs (f_Mo_nextOf_1 n)).1, (f_Mo_takeOut n it vs (f_Mo_nextOf_1 n)).2.1, (f_Mo_takeOut n it vs (f_Mo_nextOf_1 n)).2.2, vp_updL rs i ((it (f_Mo_nextOf_1 n)).toInt64))))
set_option maxHeartbeats 4000000 in
set_option maxRecDepth 100000 in
theorem m_Mo_doBag_1 (l : Launch) (D : va_G) (cI cJ cZ cO : ClassId) (a : Nat) (code : Int32) (kn : Nat → Int32) (ed : Nat → Int32) (ct : Nat → Int32) (ti : Nat → Int32) (nm : Nat → Int32) (xa : Nat → Int32) (xb : Nat → Int32) (n : Nat) (it : Nat → Int32) (vs : Nat → Int32) (se : Nat → Int32) (sm : Int64) (rs : Nat → Int64) (wk : Nat → Int32) (ors : Nat → Int64) (owk : Nat → Int32) (i : Nat) (u : Int32) (x : Int32) (hn : n < 32) (hi : i < 32) (R : Int32 × Nat × (Nat → Int32) × (Nat → Int32) × (Nat → Int64)) (hR : f_Mo_doBag_1 n it vs rs i u x = R) : Met l y_Md_doBag (k_Md_doBag :: gt) rm_Md_doBag (Pc0 D cI cJ cZ cO [.ref a, .int 1, .int (nI i), .int u, .int x] (fun H => va_P D cls (wMo cI cJ cZ a code kn ed ct ti nm xa xb (nI n) it vs se sm rs wk ors owk) H)) (Qd (blk a 15) (some (.int R.1)) (fun H => va_P D cls (wMo cI cJ cZ a code kn ed ct ti nm xa xb (nI R.2.1) R.2.2.1 R.2.2.2.1 se sm R.2.2.2.2 wk ors owk) H)) 0 0 (blk a 15) := by
  refine Met.ofW (cc := c_Md_doBag) (maxL := 6) (ret := (Option.some FieldType.boolean)) (by decide) rfl ?_
  intro p e s m args below meth c s₁ B hml hv
  obtain ⟨rfl, hKn, hP⟩ := hv
  have hx := B.exec
  have hb := B.bytes
  have hr := B.returns
  have hts := atoms_spec (ws := k_Md_doBag :: gt) B.pre
  have hg : ∀ w ∈ gt, w.before _ s = true := fun w h => hts w (List.mem_cons_of_mem _ h)
  have hown : s.vm.findClass R_Md = some m.cls := findClass_of_methodNamed B.named
  have hlocks := B.notSynchronized
  have hK := hKn.1
  have hl := lv_entry ([.ref a, .int 1, .int (nI i), .int u, .int x]) (n := 6) (Nat.le_of_ble_eq_true rfl)
  rw [lg_entry_eq]
  generalize (lg_sl ([.ref a, .int 1, .int (nI i), .int u, .int x]) ++ List.replicate (6 - (lg_sl ([.ref a, .int 1, .int (nI i), .int u, .int x])).length) Slot.unset).toArray = ls at hl ⊢
  have hl : lv_has ls 6 [(0, .ref a), (1, .int 1), (2, .int (nI i)), (3, .int u), (4, .int x)] := hl
  have hS : va_S (blk a 15) s.heap s.heap [] := va_S.rf
  have hD : va_D (blk a 15) (wMo cI cJ cZ a code kn ed ct ti nm xa xb (nI n) it vs se sm rs wk ors owk) := (blk_D (wMo_in))
  have hR : (if u = 1 then ((1, n + 1, upd it n x, vs, rs)) else (if n = 0 then ((0, n, it, vs, rs)) else ((1, (f_Mo_takeOut n it vs (f_Mo_nextOf_1 n)).1, (f_Mo_takeOut n it vs (f_Mo_nextOf_1 n)).2.1, (f_Mo_takeOut n it vs (f_Mo_nextOf_1 n)).2.2, vp_updL rs i ((it (f_Mo_nextOf_1 n)).toInt64))))) = R := hR
  refine lv_iload_n hx hb d_Md_doBag_0 rfl (lv_at hl 3 rfl) ?_
  refine lv_iconst (v := 1) hx hb d_Md_doBag_1 (by decide) ?_
  refine lv_icmp_ne (tgt := 28) hx hb d_Md_doBag_2 (by decide) (fun hc1 => ?_) (fun hc1 => ?_)
  · have hc1 : ¬ (u = 1) := hc1
    refine lv_aload_n hx hb d_Md_doBag_28 rfl (lv_at hl 0 rfl) ?_
    refine va_get (D := D) (ci := 9) (v := .int (nI n)) (C := R_Md) (T := F_Md) (N := 17) hx hb hg in_Md hown hK hP 0 rfl rfl 8 (Nat.le_of_ble_eq_true rfl) (hg _ tw_714) (fun _ h9 => h9) rfl d_Md_doBag_29 ?_
    refine lv_if_ne (tgt := 37) hx hb d_Md_doBag_32 (by decide) (fun hc2 => ?_) (fun hc2 => ?_)
    · have hc2 : ¬ (n = 0) := fun h9 => hc2 ((nI_eq (a := n) (b := 0) (by omega) (by omega)).mpr h9)
      refine lv_aload_n hx hb d_Md_doBag_37 rfl (lv_at hl 0 rfl) ?_
      refine lv_iload_n hx hb d_Md_doBag_38 rfl (lv_at hl 1 rfl) ?_
      refine ep_callP (W.runV (As := [.int 1]) (rest := []) ⟨hx, hb, hml, hown, hg⟩ (m_Mo_nextOf_1 l D cI cJ cZ cO a code kn ed ct ti nm xa xb n it vs se sm rs wk ors owk (by omega) (by omega) _ rfl) (ep_cwV 1 hg tw_856 tw_858 ts_23 tw_12 tk_Md_nextOf rfl rfl (by decide +kernel) ⟨(Nat.le_of_ble_eq_true rfl), (Nat.le_of_ble_eq_true rfl)⟩) ⟨ep_blind, va_recv (q0 := 0) (ci := 9) hK hP rfl rfl, ep_pre hKn (hP)⟩ rfl rfl hl.1 rfl (lv_room (Nat.le_of_ble_eq_true rfl)) d_Md_doBag_39 ⟨Nat.zero_le _, Nat.zero_le _⟩) ?_
      refine W.eq (g2 := F0 m 42 ls [.int (nI (f_Mo_nextOf_1 n))]) rfl ?_
      have hp9 : (f_Mo_nextOf_1 n) < n := nx1_lt _ (by omega)
      refine lv_istore (lv' := [(5, .int (nI (f_Mo_nextOf_1 n))), (0, .ref a), (1, .int 1), (2, .int (nI i)), (3, .int u), (4, .int x)]) hx hb d_Md_doBag_42 hl (by decide) rfl (fun ls hl => ?_)
      refine lv_aload_n hx hb d_Md_doBag_44 rfl (lv_at hl 1 rfl) ?_
      refine va_get (D := D) (ci := 9) (v := .ref (a + 11)) (C := R_Md) (T := F_Md) (N := 17) hx hb hg in_Md hown hK hP 0 rfl rfl 13 (Nat.le_of_ble_eq_true rfl) (hg _ tw_719) (fun _ h9 => h9) rfl d_Md_doBag_45 ?_
      refine lv_iload_n hx hb d_Md_doBag_48 rfl (lv_at hl 3 rfl) ?_
      refine lv_aload_n hx hb d_Md_doBag_49 rfl (lv_at hl 1 rfl) ?_
      refine va_get (D := D) (ci := 9) (v := .ref (a + 8)) (C := R_Md) (T := F_Md) (N := 17) hx hb hg in_Md hown hK hP 0 rfl rfl 9 (Nat.le_of_ble_eq_true rfl) (hg _ tw_715) (fun _ h9 => h9) rfl d_Md_doBag_50 ?_
      refine lv_iload hx hb d_Md_doBag_53 (lv_at hl 0 rfl) ?_
      refine ep_iald hx hb hK hP 8 0 rfl rfl (i := (f_Mo_nextOf_1 n)) (by omega) (by decide) d_Md_doBag_55 ?_
      refine lv_i2l hx hb d_Md_doBag_56 rfl ?_
      refine ep_last hx hb hK hP hD hS 11 1 rfl rfl (i := i) (x := ((it (f_Mo_nextOf_1 n)).toInt64)) (by omega) (by decide) d_Md_doBag_57 (fun H locs hP hD hS => ?_)
      have hP : va_P D cls (wMo cI cJ cZ a code kn ed ct ti nm xa xb (nI n) it vs se sm (vp_updL rs i ((it (f_Mo_nextOf_1 n)).toInt64)) wk ors owk) H := hP
      have hD : va_D (blk a 15) (wMo cI cJ cZ a code kn ed ct ti nm xa xb (nI n) it vs se sm (vp_updL rs i ((it (f_Mo_nextOf_1 n)).toInt64)) wk ors owk) := hD
      refine lv_aload_n hx hb d_Md_doBag_58 rfl (lv_at hl 1 rfl) ?_
      refine lv_iload hx hb d_Md_doBag_59 (lv_at hl 0 rfl) ?_
      refine ep_callH (W.runV (As := [.int (nI (f_Mo_nextOf_1 n))]) (rest := []) ⟨hx, hb, hml, hown, hg⟩ (m_Mo_takeOut l D cI cJ cZ cO a code kn ed ct ti nm xa xb n it vs se sm (vp_updL rs i ((it (f_Mo_nextOf_1 n)).toInt64)) wk ors owk (f_Mo_nextOf_1 n) (by omega) hp9 _ rfl) (ep_cwV 1 hg tw_848 tw_850 ts_21 tw_12 tk_Md_takeOut rfl rfl (by decide +kernel) ⟨(Nat.le_of_ble_eq_true rfl), (Nat.le_of_ble_eq_true rfl)⟩) ⟨ep_blind, va_recv (q0 := 0) (ci := 9) hK hP rfl rfl, ep_pre hKn (hP)⟩ rfl rfl hl.1 rfl (lv_room (Nat.le_of_ble_eq_true rfl)) d_Md_doBag_61 ⟨Nat.zero_le _, Nat.zero_le _⟩) hS (fun q h => h) (fun H locs hsz9 hk1 hP1 hS => ?_)
      refine W.eq (g2 := F0 m 64 ls []) rfl ?_
      have hP : va_P D cls (wMo cI cJ cZ a code kn ed ct ti nm xa xb (nI ((f_Mo_takeOut n it vs (f_Mo_nextOf_1 n)).1)) ((f_Mo_takeOut n it vs (f_Mo_nextOf_1 n)).2.1) ((f_Mo_takeOut n it vs (f_Mo_nextOf_1 n)).2.2) se sm (vp_updL rs i ((it (f_Mo_nextOf_1 n)).toInt64)) wk ors owk) H := hP1
      have hD : va_D (blk a 15) (wMo cI cJ cZ a code kn ed ct ti nm xa xb (nI ((f_Mo_takeOut n it vs (f_Mo_nextOf_1 n)).1)) ((f_Mo_takeOut n it vs (f_Mo_nextOf_1 n)).2.1) ((f_Mo_takeOut n it vs (f_Mo_nextOf_1 n)).2.2) se sm (vp_updL rs i ((it (f_Mo_nextOf_1 n)).toInt64)) wk ors owk) := (blk_D (wMo_in))
      refine lv_iconst (v := 1) hx hb d_Md_doBag_64 (by decide) ?_
      rw [if_neg hc1, if_neg hc2] at hR
      subst hR
      exact W.zret (v := 1) hx hb hr (by decide) (fun t9 ht hW => ⟨rfl, hS.F ht, by rw [ht]; exact hP⟩) hS.2.2 d_Md_doBag_65
    · have hc2 : n = 0 := (nI_eq (a := n) (b := 0) (by omega) (by omega)).mp hc2
      refine lv_iconst (v := 0) hx hb d_Md_doBag_35 (by decide) ?_
      rw [if_neg hc1, if_pos hc2] at hR
      subst hR
      exact W.zret (v := 0) hx hb hr (by decide) (fun t9 ht hW => ⟨rfl, hS.F ht, by rw [ht]; exact hP⟩) hS.2.2 d_Md_doBag_36
  · have hc1 : u = 1 := hc1
    refine lv_aload_n hx hb d_Md_doBag_5 rfl (lv_at hl 0 rfl) ?_
    refine va_get (D := D) (ci := 9) (v := .ref (a + 8)) (C := R_Md) (T := F_Md) (N := 17) hx hb hg in_Md hown hK hP 0 rfl rfl 9 (Nat.le_of_ble_eq_true rfl) (hg _ tw_715) (fun _ h9 => h9) rfl d_Md_doBag_6 ?_
    refine lv_aload_n hx hb d_Md_doBag_9 rfl (lv_at hl 0 rfl) ?_
    refine va_get (D := D) (ci := 9) (v := .int (nI n)) (C := R_Md) (T := F_Md) (N := 17) hx hb hg in_Md hown hK hP 0 rfl rfl 8 (Nat.le_of_ble_eq_true rfl) (hg _ tw_714) (fun _ h9 => h9) rfl d_Md_doBag_10 ?_
    refine lv_iload hx hb d_Md_doBag_13 (lv_at hl 4 rfl) ?_
    refine ep_iast hx hb hK hP hD hS 8 0 rfl rfl (i := n) (x := x) (by omega) (by decide) d_Md_doBag_15 (fun H locs hP hD hS => ?_)
    have hP : va_P D cls (wMo cI cJ cZ a code kn ed ct ti nm xa xb (nI n) (upd it n x) vs se sm rs wk ors owk) H := hP
    have hD : va_D (blk a 15) (wMo cI cJ cZ a code kn ed ct ti nm xa xb (nI n) (upd it n x) vs se sm rs wk ors owk) := hD
    refine lv_aload_n hx hb d_Md_doBag_16 rfl (lv_at hl 0 rfl) ?_
    refine lv_dup hx hb d_Md_doBag_17 rfl ?_
    refine va_get (D := D) (ci := 9) (v := .int (nI n)) (C := R_Md) (T := F_Md) (N := 17) hx hb hg in_Md hown hK hP 0 rfl rfl 8 (Nat.le_of_ble_eq_true rfl) (hg _ tw_714) (fun _ h9 => h9) rfl d_Md_doBag_18 ?_
    refine lv_iconst (v := 1) hx hb d_Md_doBag_21 (by decide) ?_
    refine lv_iadd hx hb d_Md_doBag_22 ?_
    refine lv_topi (fun z9 e_z9 => ?_)
    obtain rfl : z9 = nI (n + 1) := by rw [e_z9]; exact (nI_add n 1)
    refine va_put (D := D) (ci := 9) (v := .int (nI (n + 1))) (ty := .int) (C := R_Md) (T := F_Md) (N := 17) hx hb hg in_Md t_Md t_Md_ok n_Md hown hK hP hD hS 0 rfl rfl 8 (Nat.le_of_ble_eq_true rfl) (hg _ tw_714) (fun _ h9 => h9) rfl (by decide +kernel) rfl rfl (Nat.le_of_ble_eq_true rfl) d_Md_doBag_23 (fun H locs hP hD hS => ?_)
    have hP : va_P D cls (wMo cI cJ cZ a code kn ed ct ti nm xa xb (nI (n + 1)) (upd it n x) vs se sm rs wk ors owk) H := hP
    have hD : va_D (blk a 15) (wMo cI cJ cZ a code kn ed ct ti nm xa xb (nI (n + 1)) (upd it n x) vs se sm rs wk ors owk) := hD
    refine lv_iconst (v := 1) hx hb d_Md_doBag_26 (by decide) ?_
    rw [if_pos hc1] at hR
    subst hR
    exact W.zret (v := 1) hx hb hr (by decide) (fun t9 ht hW => ⟨rfl, hS.F ht, by rw [ht]; exact hP⟩) hS.2.2 d_Md_doBag_27

def f_Mo_doBag_3 (n : Nat) (it : Nat → Int32) (vs : Nat → Int32) (rs : Nat → Int64) (i : Nat) (u : Int32) (x : Int32) : Int32 × Nat × (Nat → Int32) × (Nat → Int32) × (Nat → Int64) := if u = 1 then ((1, n + 1, upd it n x, vs, rs)) else (if n = 0 then ((0, n, it, vs, rs)) else ((1, (f_Mo_takeOut n it vs (f_Mo_nextOf_3 n it)).1, (f_Mo_takeOut n it vs (f_Mo_nextOf_3 n it)).2.1, (f_Mo_takeOut n it vs (f_Mo_nextOf_3 n it)).2.2, vp_updL rs i ((it (f_Mo_nextOf_3 n it)).toInt64))))
set_option maxHeartbeats 4000000 in
set_option maxRecDepth 100000 in
theorem m_Mo_doBag_3 (l : Launch) (D : va_G) (cI cJ cZ cO : ClassId) (a : Nat) (code : Int32) (kn : Nat → Int32) (ed : Nat → Int32) (ct : Nat → Int32) (ti : Nat → Int32) (nm : Nat → Int32) (xa : Nat → Int32) (xb : Nat → Int32) (n : Nat) (it : Nat → Int32) (vs : Nat → Int32) (se : Nat → Int32) (sm : Int64) (rs : Nat → Int64) (wk : Nat → Int32) (ors : Nat → Int64) (owk : Nat → Int32) (i : Nat) (u : Int32) (x : Int32) (hn : n < 32) (hi : i < 32) (R : Int32 × Nat × (Nat → Int32) × (Nat → Int32) × (Nat → Int64)) (hR : f_Mo_doBag_3 n it vs rs i u x = R) : Met l y_Md_doBag (k_Md_doBag :: gt) rm_Md_doBag (Pc0 D cI cJ cZ cO [.ref a, .int 3, .int (nI i), .int u, .int x] (fun H => va_P D cls (wMo cI cJ cZ a code kn ed ct ti nm xa xb (nI n) it vs se sm rs wk ors owk) H)) (Qd (blk a 15) (some (.int R.1)) (fun H => va_P D cls (wMo cI cJ cZ a code kn ed ct ti nm xa xb (nI R.2.1) R.2.2.1 R.2.2.2.1 se sm R.2.2.2.2 wk ors owk) H)) 0 0 (blk a 15) := by
  refine Met.ofW (cc := c_Md_doBag) (maxL := 6) (ret := (Option.some FieldType.boolean)) (by decide) rfl ?_
  intro p e s m args below meth c s₁ B hml hv
  obtain ⟨rfl, hKn, hP⟩ := hv
  have hx := B.exec
  have hb := B.bytes
  have hr := B.returns
  have hts := atoms_spec (ws := k_Md_doBag :: gt) B.pre
  have hg : ∀ w ∈ gt, w.before _ s = true := fun w h => hts w (List.mem_cons_of_mem _ h)
  have hown : s.vm.findClass R_Md = some m.cls := findClass_of_methodNamed B.named
  have hlocks := B.notSynchronized
  have hK := hKn.1
  have hl := lv_entry ([.ref a, .int 3, .int (nI i), .int u, .int x]) (n := 6) (Nat.le_of_ble_eq_true rfl)
  rw [lg_entry_eq]
  generalize (lg_sl ([.ref a, .int 3, .int (nI i), .int u, .int x]) ++ List.replicate (6 - (lg_sl ([.ref a, .int 3, .int (nI i), .int u, .int x])).length) Slot.unset).toArray = ls at hl ⊢
  have hl : lv_has ls 6 [(0, .ref a), (1, .int 3), (2, .int (nI i)), (3, .int u), (4, .int x)] := hl
  have hS : va_S (blk a 15) s.heap s.heap [] := va_S.rf
  have hD : va_D (blk a 15) (wMo cI cJ cZ a code kn ed ct ti nm xa xb (nI n) it vs se sm rs wk ors owk) := (blk_D (wMo_in))
  have hR : (if u = 1 then ((1, n + 1, upd it n x, vs, rs)) else (if n = 0 then ((0, n, it, vs, rs)) else ((1, (f_Mo_takeOut n it vs (f_Mo_nextOf_3 n it)).1, (f_Mo_takeOut n it vs (f_Mo_nextOf_3 n it)).2.1, (f_Mo_takeOut n it vs (f_Mo_nextOf_3 n it)).2.2, vp_updL rs i ((it (f_Mo_nextOf_3 n it)).toInt64))))) = R := hR
  refine lv_iload_n hx hb d_Md_doBag_0 rfl (lv_at hl 3 rfl) ?_
  refine lv_iconst (v := 1) hx hb d_Md_doBag_1 (by decide) ?_
  refine lv_icmp_ne (tgt := 28) hx hb d_Md_doBag_2 (by decide) (fun hc1 => ?_) (fun hc1 => ?_)
  · have hc1 : ¬ (u = 1) := hc1
    refine lv_aload_n hx hb d_Md_doBag_28 rfl (lv_at hl 0 rfl) ?_
    refine va_get (D := D) (ci := 9) (v := .int (nI n)) (C := R_Md) (T := F_Md) (N := 17) hx hb hg in_Md hown hK hP 0 rfl rfl 8 (Nat.le_of_ble_eq_true rfl) (hg _ tw_714) (fun _ h9 => h9) rfl d_Md_doBag_29 ?_
    refine lv_if_ne (tgt := 37) hx hb d_Md_doBag_32 (by decide) (fun hc2 => ?_) (fun hc2 => ?_)
    · have hc2 : ¬ (n = 0) := fun h9 => hc2 ((nI_eq (a := n) (b := 0) (by omega) (by omega)).mpr h9)
      refine lv_aload_n hx hb d_Md_doBag_37 rfl (lv_at hl 0 rfl) ?_
      refine lv_iload_n hx hb d_Md_doBag_38 rfl (lv_at hl 1 rfl) ?_
      refine ep_callP (W.runV (As := [.int 3]) (rest := []) ⟨hx, hb, hml, hown, hg⟩ (m_Mo_nextOf_3 l D cI cJ cZ cO a code kn ed ct ti nm xa xb n it vs se sm rs wk ors owk (by omega) (by omega) _ rfl) (ep_cwV 1 hg tw_856 tw_858 ts_23 tw_12 tk_Md_nextOf rfl rfl (by decide +kernel) ⟨(Nat.le_of_ble_eq_true rfl), (Nat.le_of_ble_eq_true rfl)⟩) ⟨ep_blind, va_recv (q0 := 0) (ci := 9) hK hP rfl rfl, ep_pre hKn (hP)⟩ rfl rfl hl.1 rfl (lv_room (Nat.le_of_ble_eq_true rfl)) d_Md_doBag_39 ⟨Nat.zero_le _, Nat.zero_le _⟩) ?_
      refine W.eq (g2 := F0 m 42 ls [.int (nI (f_Mo_nextOf_3 n it))]) rfl ?_
      have hp9 : (f_Mo_nextOf_3 n it) < n := nx3_lt _ _ (by omega)
      refine lv_istore (lv' := [(5, .int (nI (f_Mo_nextOf_3 n it))), (0, .ref a), (1, .int 3), (2, .int (nI i)), (3, .int u), (4, .int x)]) hx hb d_Md_doBag_42 hl (by decide) rfl (fun ls hl => ?_)
      refine lv_aload_n hx hb d_Md_doBag_44 rfl (lv_at hl 1 rfl) ?_
      refine va_get (D := D) (ci := 9) (v := .ref (a + 11)) (C := R_Md) (T := F_Md) (N := 17) hx hb hg in_Md hown hK hP 0 rfl rfl 13 (Nat.le_of_ble_eq_true rfl) (hg _ tw_719) (fun _ h9 => h9) rfl d_Md_doBag_45 ?_
      refine lv_iload_n hx hb d_Md_doBag_48 rfl (lv_at hl 3 rfl) ?_
      refine lv_aload_n hx hb d_Md_doBag_49 rfl (lv_at hl 1 rfl) ?_
      refine va_get (D := D) (ci := 9) (v := .ref (a + 8)) (C := R_Md) (T := F_Md) (N := 17) hx hb hg in_Md hown hK hP 0 rfl rfl 9 (Nat.le_of_ble_eq_true rfl) (hg _ tw_715) (fun _ h9 => h9) rfl d_Md_doBag_50 ?_
      refine lv_iload hx hb d_Md_doBag_53 (lv_at hl 0 rfl) ?_
      refine ep_iald hx hb hK hP 8 0 rfl rfl (i := (f_Mo_nextOf_3 n it)) (by omega) (by decide) d_Md_doBag_55 ?_
      refine lv_i2l hx hb d_Md_doBag_56 rfl ?_
      refine ep_last hx hb hK hP hD hS 11 1 rfl rfl (i := i) (x := ((it (f_Mo_nextOf_3 n it)).toInt64)) (by omega) (by decide) d_Md_doBag_57 (fun H locs hP hD hS => ?_)
      have hP : va_P D cls (wMo cI cJ cZ a code kn ed ct ti nm xa xb (nI n) it vs se sm (vp_updL rs i ((it (f_Mo_nextOf_3 n it)).toInt64)) wk ors owk) H := hP
      have hD : va_D (blk a 15) (wMo cI cJ cZ a code kn ed ct ti nm xa xb (nI n) it vs se sm (vp_updL rs i ((it (f_Mo_nextOf_3 n it)).toInt64)) wk ors owk) := hD
      refine lv_aload_n hx hb d_Md_doBag_58 rfl (lv_at hl 1 rfl) ?_
      refine lv_iload hx hb d_Md_doBag_59 (lv_at hl 0 rfl) ?_
      refine ep_callH (W.runV (As := [.int (nI (f_Mo_nextOf_3 n it))]) (rest := []) ⟨hx, hb, hml, hown, hg⟩ (m_Mo_takeOut l D cI cJ cZ cO a code kn ed ct ti nm xa xb n it vs se sm (vp_updL rs i ((it (f_Mo_nextOf_3 n it)).toInt64)) wk ors owk (f_Mo_nextOf_3 n it) (by omega) hp9 _ rfl) (ep_cwV 1 hg tw_848 tw_850 ts_21 tw_12 tk_Md_takeOut rfl rfl (by decide +kernel) ⟨(Nat.le_of_ble_eq_true rfl), (Nat.le_of_ble_eq_true rfl)⟩) ⟨ep_blind, va_recv (q0 := 0) (ci := 9) hK hP rfl rfl, ep_pre hKn (hP)⟩ rfl rfl hl.1 rfl (lv_room (Nat.le_of_ble_eq_true rfl)) d_Md_doBag_61 ⟨Nat.zero_le _, Nat.zero_le _⟩) hS (fun q h => h) (fun H locs hsz9 hk1 hP1 hS => ?_)
      refine W.eq (g2 := F0 m 64 ls []) rfl ?_
      have hP : va_P D cls (wMo cI cJ cZ a code kn ed ct ti nm xa xb (nI ((f_Mo_takeOut n it vs (f_Mo_nextOf_3 n it)).1)) ((f_Mo_takeOut n it vs (f_Mo_nextOf_3 n it)).2.1) ((f_Mo_takeOut n it vs (f_Mo_nextOf_3 n it)).2.2) se sm (vp_updL rs i ((it (f_Mo_nextOf_3 n it)).toInt64)) wk ors owk) H := hP1
      have hD : va_D (blk a 15) (wMo cI cJ cZ a code kn ed ct ti nm xa xb (nI ((f_Mo_takeOut n it vs (f_Mo_nextOf_3 n it)).1)) ((f_Mo_takeOut n it vs (f_Mo_nextOf_3 n it)).2.1) ((f_Mo_takeOut n it vs (f_Mo_nextOf_3 n it)).2.2) se sm (vp_updL rs i ((it (f_Mo_nextOf_3 n it)).toInt64)) wk ors owk) := (blk_D (wMo_in))
      refine lv_iconst (v := 1) hx hb d_Md_doBag_64 (by decide) ?_
      rw [if_neg hc1, if_neg hc2] at hR
      subst hR
      exact W.zret (v := 1) hx hb hr (by decide) (fun t9 ht hW => ⟨rfl, hS.F ht, by rw [ht]; exact hP⟩) hS.2.2 d_Md_doBag_65
    · have hc2 : n = 0 := (nI_eq (a := n) (b := 0) (by omega) (by omega)).mp hc2
      refine lv_iconst (v := 0) hx hb d_Md_doBag_35 (by decide) ?_
      rw [if_neg hc1, if_pos hc2] at hR
      subst hR
      exact W.zret (v := 0) hx hb hr (by decide) (fun t9 ht hW => ⟨rfl, hS.F ht, by rw [ht]; exact hP⟩) hS.2.2 d_Md_doBag_36
  · have hc1 : u = 1 := hc1
    refine lv_aload_n hx hb d_Md_doBag_5 rfl (lv_at hl 0 rfl) ?_
    refine va_get (D := D) (ci := 9) (v := .ref (a + 8)) (C := R_Md) (T := F_Md) (N := 17) hx hb hg in_Md hown hK hP 0 rfl rfl 9 (Nat.le_of_ble_eq_true rfl) (hg _ tw_715) (fun _ h9 => h9) rfl d_Md_doBag_6 ?_
    refine lv_aload_n hx hb d_Md_doBag_9 rfl (lv_at hl 0 rfl) ?_
    refine va_get (D := D) (ci := 9) (v := .int (nI n)) (C := R_Md) (T := F_Md) (N := 17) hx hb hg in_Md hown hK hP 0 rfl rfl 8 (Nat.le_of_ble_eq_true rfl) (hg _ tw_714) (fun _ h9 => h9) rfl d_Md_doBag_10 ?_
    refine lv_iload hx hb d_Md_doBag_13 (lv_at hl 4 rfl) ?_
    refine ep_iast hx hb hK hP hD hS 8 0 rfl rfl (i := n) (x := x) (by omega) (by decide) d_Md_doBag_15 (fun H locs hP hD hS => ?_)
    have hP : va_P D cls (wMo cI cJ cZ a code kn ed ct ti nm xa xb (nI n) (upd it n x) vs se sm rs wk ors owk) H := hP
    have hD : va_D (blk a 15) (wMo cI cJ cZ a code kn ed ct ti nm xa xb (nI n) (upd it n x) vs se sm rs wk ors owk) := hD
    refine lv_aload_n hx hb d_Md_doBag_16 rfl (lv_at hl 0 rfl) ?_
    refine lv_dup hx hb d_Md_doBag_17 rfl ?_
    refine va_get (D := D) (ci := 9) (v := .int (nI n)) (C := R_Md) (T := F_Md) (N := 17) hx hb hg in_Md hown hK hP 0 rfl rfl 8 (Nat.le_of_ble_eq_true rfl) (hg _ tw_714) (fun _ h9 => h9) rfl d_Md_doBag_18 ?_
    refine lv_iconst (v := 1) hx hb d_Md_doBag_21 (by decide) ?_
    refine lv_iadd hx hb d_Md_doBag_22 ?_
    refine lv_topi (fun z9 e_z9 => ?_)
    obtain rfl : z9 = nI (n + 1) := by rw [e_z9]; exact (nI_add n 1)
    refine va_put (D := D) (ci := 9) (v := .int (nI (n + 1))) (ty := .int) (C := R_Md) (T := F_Md) (N := 17) hx hb hg in_Md t_Md t_Md_ok n_Md hown hK hP hD hS 0 rfl rfl 8 (Nat.le_of_ble_eq_true rfl) (hg _ tw_714) (fun _ h9 => h9) rfl (by decide +kernel) rfl rfl (Nat.le_of_ble_eq_true rfl) d_Md_doBag_23 (fun H locs hP hD hS => ?_)
    have hP : va_P D cls (wMo cI cJ cZ a code kn ed ct ti nm xa xb (nI (n + 1)) (upd it n x) vs se sm rs wk ors owk) H := hP
    have hD : va_D (blk a 15) (wMo cI cJ cZ a code kn ed ct ti nm xa xb (nI (n + 1)) (upd it n x) vs se sm rs wk ors owk) := hD
    refine lv_iconst (v := 1) hx hb d_Md_doBag_26 (by decide) ?_
    rw [if_pos hc1] at hR
    subst hR
    exact W.zret (v := 1) hx hb hr (by decide) (fun t9 ht hW => ⟨rfl, hS.F ht, by rw [ht]; exact hP⟩) hS.2.2 d_Md_doBag_27

def f_Mo_doTable (n : Nat) (it : Nat → Int32) (vs : Nat → Int32) (rs : Nat → Int64) (i : Nat) (u : Int32) (x : Int32) (y : Int32) : Int32 × Nat × (Nat → Int32) × (Nat → Int32) × (Nat → Int64) := if ¬ (f_Mo_keyAt n it x) = -1 then (if u = 1 then ((0, n, it, vs, rs)) else ((1, (f_Mo_takeOut n it vs ((f_Mo_keyAt n it x).toNatClampNeg)).1, (f_Mo_takeOut n it vs ((f_Mo_keyAt n it x).toNatClampNeg)).2.1, (f_Mo_takeOut n it vs ((f_Mo_keyAt n it x).toNatClampNeg)).2.2, vp_updL rs i ((vs ((f_Mo_keyAt n it x).toNatClampNeg)).toInt64)))) else (if u = 1 then ((1, n + 1, upd it n x, upd vs n y, rs)) else ((0, n, it, vs, rs)))
set_option maxHeartbeats 4000000 in
set_option maxRecDepth 100000 in
theorem m_Mo_doTable (l : Launch) (D : va_G) (cI cJ cZ cO : ClassId) (a : Nat) (code : Int32) (kn : Nat → Int32) (ed : Nat → Int32) (ct : Nat → Int32) (ti : Nat → Int32) (nm : Nat → Int32) (xa : Nat → Int32) (xb : Nat → Int32) (n : Nat) (it : Nat → Int32) (vs : Nat → Int32) (se : Nat → Int32) (sm : Int64) (rs : Nat → Int64) (wk : Nat → Int32) (ors : Nat → Int64) (owk : Nat → Int32) (i : Nat) (u : Int32) (x : Int32) (y : Int32) (hn : n < 32) (hi : i < 32) (R : Int32 × Nat × (Nat → Int32) × (Nat → Int32) × (Nat → Int64)) (hR : f_Mo_doTable n it vs rs i u x y = R) : Met l y_Md_doTable (k_Md_doTable :: gt) rm_Md_doTable (Pc0 D cI cJ cZ cO [.ref a, .int (nI i), .int u, .int x, .int y] (fun H => va_P D cls (wMo cI cJ cZ a code kn ed ct ti nm xa xb (nI n) it vs se sm rs wk ors owk) H)) (Qd (blk a 15) (some (.int R.1)) (fun H => va_P D cls (wMo cI cJ cZ a code kn ed ct ti nm xa xb (nI R.2.1) R.2.2.1 R.2.2.2.1 se sm R.2.2.2.2 wk ors owk) H)) 0 0 (blk a 15) := by
  refine Met.ofW (cc := c_Md_doTable) (maxL := 6) (ret := (Option.some FieldType.boolean)) (by decide) rfl ?_
  intro p e s m args below meth c s₁ B hml hv
  obtain ⟨rfl, hKn, hP⟩ := hv
  have hx := B.exec
  have hb := B.bytes
  have hr := B.returns
  have hts := atoms_spec (ws := k_Md_doTable :: gt) B.pre
  have hg : ∀ w ∈ gt, w.before _ s = true := fun w h => hts w (List.mem_cons_of_mem _ h)
  have hown : s.vm.findClass R_Md = some m.cls := findClass_of_methodNamed B.named
  have hlocks := B.notSynchronized
  have hK := hKn.1
  have hl := lv_entry ([.ref a, .int (nI i), .int u, .int x, .int y]) (n := 6) (Nat.le_of_ble_eq_true rfl)
  rw [lg_entry_eq]
  generalize (lg_sl ([.ref a, .int (nI i), .int u, .int x, .int y]) ++ List.replicate (6 - (lg_sl ([.ref a, .int (nI i), .int u, .int x, .int y])).length) Slot.unset).toArray = ls at hl ⊢
  have hl : lv_has ls 6 [(0, .ref a), (1, .int (nI i)), (2, .int u), (3, .int x), (4, .int y)] := hl
  have hS : va_S (blk a 15) s.heap s.heap [] := va_S.rf
  have hD : va_D (blk a 15) (wMo cI cJ cZ a code kn ed ct ti nm xa xb (nI n) it vs se sm rs wk ors owk) := (blk_D (wMo_in))
  have hR : (if ¬ (f_Mo_keyAt n it x) = -1 then (if u = 1 then ((0, n, it, vs, rs)) else ((1, (f_Mo_takeOut n it vs ((f_Mo_keyAt n it x).toNatClampNeg)).1, (f_Mo_takeOut n it vs ((f_Mo_keyAt n it x).toNatClampNeg)).2.1, (f_Mo_takeOut n it vs ((f_Mo_keyAt n it x).toNatClampNeg)).2.2, vp_updL rs i ((vs ((f_Mo_keyAt n it x).toNatClampNeg)).toInt64)))) else (if u = 1 then ((1, n + 1, upd it n x, upd vs n y, rs)) else ((0, n, it, vs, rs)))) = R := hR
  refine lv_aload_n hx hb d_Md_doTable_0 rfl (lv_at hl 0 rfl) ?_
  refine lv_iload_n hx hb d_Md_doTable_1 rfl (lv_at hl 3 rfl) ?_
  refine ep_callP (W.runV (As := [.int x]) (rest := []) ⟨hx, hb, hml, hown, hg⟩ (m_Mo_keyAt l D cI cJ cZ cO a code kn ed ct ti nm xa xb n it vs se sm rs wk ors owk x (by omega) _ rfl) (ep_cwV 1 hg tw_844 tw_846 ts_20 tw_12 tk_Md_keyAt rfl rfl (by decide +kernel) ⟨(Nat.le_of_ble_eq_true rfl), (Nat.le_of_ble_eq_true rfl)⟩) ⟨ep_blind, va_recv (q0 := 0) (ci := 9) hK hP rfl rfl, ep_pre hKn (hP)⟩ rfl rfl hl.1 rfl (lv_room (Nat.le_of_ble_eq_true rfl)) d_Md_doTable_2 ⟨Nat.zero_le _, Nat.zero_le _⟩) ?_
  refine W.eq (g2 := F0 m 5 ls [.int (f_Mo_keyAt n it x)]) rfl ?_
  refine lv_topi (fun z8 e_z8 => ?_)
  obtain rfl : z8 = oI (¬ (f_Mo_keyAt n it x) = -1) ((f_Mo_keyAt n it x).toNatClampNeg) := by rw [e_z8]; exact (oI_of (ka_at _ _ _ (by omega)))
  by_cases hc1 : ¬ (f_Mo_keyAt n it x) = -1
  · rw [show oI (¬ (f_Mo_keyAt n it x) = -1) ((f_Mo_keyAt n it x).toNatClampNeg) = nI ((f_Mo_keyAt n it x).toNatClampNeg) from if_pos hc1]
    have hp9 : ((f_Mo_keyAt n it x)).toNatClampNeg < n := ka_lt _ _ _ (by omega) hc1
    refine lv_istore (lv' := [(5, .int (nI ((f_Mo_keyAt n it x).toNatClampNeg))), (0, .ref a), (1, .int (nI i)), (2, .int u), (3, .int x), (4, .int y)]) hx hb d_Md_doTable_5 hl (by decide) rfl (fun ls hl => ?_)
    refine lv_iload_n hx hb d_Md_doTable_7 rfl (lv_at hl 3 rfl) ?_
    refine lv_iconst (v := 1) hx hb d_Md_doTable_8 (by decide) ?_
    refine lv_icmp_ne (tgt := 16) hx hb d_Md_doTable_9 (by decide) (fun hc2 => ?_) (fun hc2 => ?_)
    · have hc2 : ¬ (u = 1) := hc2
      refine lv_iconst (v := 0) hx hb d_Md_doTable_16 (by decide) ?_
      refine lv_iload hx hb d_Md_doTable_17 (lv_at hl 0 rfl) ?_
      refine lv_if_lt (tgt := 26) hx hb d_Md_doTable_19 (by decide) (fun hc => False.elim (by have hc := (nI_ltI (a := (f_Mo_keyAt n it x).toNatClampNeg) (b := 0) (by omega) (by omega)).mp hc; omega)) (fun hc => ?_)
      refine lv_iconst (v := 1) hx hb d_Md_doTable_22 (by decide) ?_
      refine lv_goto (tgt := 27) hx hb d_Md_doTable_23 (by decide) ?_
      refine lv_icmp_ne (tgt := 32) hx hb d_Md_doTable_27 (by decide) (fun hc => ?_) (fun hc => False.elim (by revert hc; decide))
      refine lv_iload_n hx hb d_Md_doTable_32 rfl (lv_at hl 3 rfl) ?_
      refine lv_iconst (v := 1) hx hb d_Md_doTable_33 (by decide) ?_
      refine lv_icmp_ne (tgt := 71) hx hb d_Md_doTable_34 (by decide) (fun hc => ?_) (fun hc => absurd hc hc2)
      refine lv_aload_n hx hb d_Md_doTable_71 rfl (lv_at hl 1 rfl) ?_
      refine va_get (D := D) (ci := 9) (v := .ref (a + 11)) (C := R_Md) (T := F_Md) (N := 17) hx hb hg in_Md hown hK hP 0 rfl rfl 13 (Nat.le_of_ble_eq_true rfl) (hg _ tw_719) (fun _ h9 => h9) rfl d_Md_doTable_72 ?_
      refine lv_iload_n hx hb d_Md_doTable_75 rfl (lv_at hl 2 rfl) ?_
      refine lv_aload_n hx hb d_Md_doTable_76 rfl (lv_at hl 1 rfl) ?_
      refine va_get (D := D) (ci := 9) (v := .ref (a + 9)) (C := R_Md) (T := F_Md) (N := 17) hx hb hg in_Md hown hK hP 0 rfl rfl 10 (Nat.le_of_ble_eq_true rfl) (hg _ tw_716) (fun _ h9 => h9) rfl d_Md_doTable_77 ?_
      refine lv_iload hx hb d_Md_doTable_80 (lv_at hl 0 rfl) ?_
      refine ep_iald hx hb hK hP 9 0 rfl rfl (i := ((f_Mo_keyAt n it x).toNatClampNeg)) (by omega) (by decide) d_Md_doTable_82 ?_
      refine lv_i2l hx hb d_Md_doTable_83 rfl ?_
      refine ep_last hx hb hK hP hD hS 11 1 rfl rfl (i := i) (x := ((vs ((f_Mo_keyAt n it x).toNatClampNeg)).toInt64)) (by omega) (by decide) d_Md_doTable_84 (fun H locs hP hD hS => ?_)
      have hP : va_P D cls (wMo cI cJ cZ a code kn ed ct ti nm xa xb (nI n) it vs se sm (vp_updL rs i ((vs ((f_Mo_keyAt n it x).toNatClampNeg)).toInt64)) wk ors owk) H := hP
      have hD : va_D (blk a 15) (wMo cI cJ cZ a code kn ed ct ti nm xa xb (nI n) it vs se sm (vp_updL rs i ((vs ((f_Mo_keyAt n it x).toNatClampNeg)).toInt64)) wk ors owk) := hD
      refine lv_aload_n hx hb d_Md_doTable_85 rfl (lv_at hl 1 rfl) ?_
      refine lv_iload hx hb d_Md_doTable_86 (lv_at hl 0 rfl) ?_
      refine ep_callH (W.runV (As := [.int (nI ((f_Mo_keyAt n it x).toNatClampNeg))]) (rest := []) ⟨hx, hb, hml, hown, hg⟩ (m_Mo_takeOut l D cI cJ cZ cO a code kn ed ct ti nm xa xb n it vs se sm (vp_updL rs i ((vs ((f_Mo_keyAt n it x).toNatClampNeg)).toInt64)) wk ors owk ((f_Mo_keyAt n it x).toNatClampNeg) (by omega) hp9 _ rfl) (ep_cwV 1 hg tw_848 tw_850 ts_21 tw_12 tk_Md_takeOut rfl rfl (by decide +kernel) ⟨(Nat.le_of_ble_eq_true rfl), (Nat.le_of_ble_eq_true rfl)⟩) ⟨ep_blind, va_recv (q0 := 0) (ci := 9) hK hP rfl rfl, ep_pre hKn (hP)⟩ rfl rfl hl.1 rfl (lv_room (Nat.le_of_ble_eq_true rfl)) d_Md_doTable_88 ⟨Nat.zero_le _, Nat.zero_le _⟩) hS (fun q h => h) (fun H locs hsz9 hk1 hP1 hS => ?_)
      refine W.eq (g2 := F0 m 91 ls []) rfl ?_
      have hP : va_P D cls (wMo cI cJ cZ a code kn ed ct ti nm xa xb (nI ((f_Mo_takeOut n it vs ((f_Mo_keyAt n it x).toNatClampNeg)).1)) ((f_Mo_takeOut n it vs ((f_Mo_keyAt n it x).toNatClampNeg)).2.1) ((f_Mo_takeOut n it vs ((f_Mo_keyAt n it x).toNatClampNeg)).2.2) se sm (vp_updL rs i ((vs ((f_Mo_keyAt n it x).toNatClampNeg)).toInt64)) wk ors owk) H := hP1
      have hD : va_D (blk a 15) (wMo cI cJ cZ a code kn ed ct ti nm xa xb (nI ((f_Mo_takeOut n it vs ((f_Mo_keyAt n it x).toNatClampNeg)).1)) ((f_Mo_takeOut n it vs ((f_Mo_keyAt n it x).toNatClampNeg)).2.1) ((f_Mo_takeOut n it vs ((f_Mo_keyAt n it x).toNatClampNeg)).2.2) se sm (vp_updL rs i ((vs ((f_Mo_keyAt n it x).toNatClampNeg)).toInt64)) wk ors owk) := (blk_D (wMo_in))
      refine lv_iconst (v := 1) hx hb d_Md_doTable_91 (by decide) ?_
      rw [if_pos hc1, if_neg hc2] at hR
      subst hR
      exact W.zret (v := 1) hx hb hr (by decide) (fun t9 ht hW => ⟨rfl, hS.F ht, by rw [ht]; exact hP⟩) hS.2.2 d_Md_doTable_92
    · have hc2 : u = 1 := hc2
      refine lv_iconst (v := 1) hx hb d_Md_doTable_12 (by decide) ?_
      refine lv_goto (tgt := 17) hx hb d_Md_doTable_13 (by decide) ?_
      refine lv_iload hx hb d_Md_doTable_17 (lv_at hl 0 rfl) ?_
      refine lv_if_lt (tgt := 26) hx hb d_Md_doTable_19 (by decide) (fun hc => False.elim (by have hc := (nI_ltI (a := (f_Mo_keyAt n it x).toNatClampNeg) (b := 0) (by omega) (by omega)).mp hc; omega)) (fun hc => ?_)
      refine lv_iconst (v := 1) hx hb d_Md_doTable_22 (by decide) ?_
      refine lv_goto (tgt := 27) hx hb d_Md_doTable_23 (by decide) ?_
      refine lv_icmp_ne (tgt := 32) hx hb d_Md_doTable_27 (by decide) (fun hc => False.elim (by revert hc; decide)) (fun hc => ?_)
      refine lv_iconst (v := 0) hx hb d_Md_doTable_30 (by decide) ?_
      rw [if_pos hc1, if_pos hc2] at hR
      subst hR
      exact W.zret (v := 0) hx hb hr (by decide) (fun t9 ht hW => ⟨rfl, hS.F ht, by rw [ht]; exact hP⟩) hS.2.2 d_Md_doTable_31
  · rw [show oI (¬ (f_Mo_keyAt n it x) = -1) ((f_Mo_keyAt n it x).toNatClampNeg) = -1 from if_neg hc1]
    refine lv_istore (lv' := [(5, .int (-1)), (0, .ref a), (1, .int (nI i)), (2, .int u), (3, .int x), (4, .int y)]) hx hb d_Md_doTable_5 hl (by decide) rfl (fun ls hl => ?_)
    refine lv_iload_n hx hb d_Md_doTable_7 rfl (lv_at hl 3 rfl) ?_
    refine lv_iconst (v := 1) hx hb d_Md_doTable_8 (by decide) ?_
    refine lv_icmp_ne (tgt := 16) hx hb d_Md_doTable_9 (by decide) (fun hc3 => ?_) (fun hc3 => ?_)
    · have hc3 : ¬ (u = 1) := hc3
      refine lv_iconst (v := 0) hx hb d_Md_doTable_16 (by decide) ?_
      refine lv_iload hx hb d_Md_doTable_17 (lv_at hl 0 rfl) ?_
      refine lv_if_lt (tgt := 26) hx hb d_Md_doTable_19 (by decide) (fun hc => ?_) (fun hc => False.elim (by revert hc; decide))
      refine lv_iconst (v := 0) hx hb d_Md_doTable_26 (by decide) ?_
      refine lv_icmp_ne (tgt := 32) hx hb d_Md_doTable_27 (by decide) (fun hc => False.elim (by revert hc; decide)) (fun hc => ?_)
      refine lv_iconst (v := 0) hx hb d_Md_doTable_30 (by decide) ?_
      rw [if_neg hc1, if_neg hc3] at hR
      subst hR
      exact W.zret (v := 0) hx hb hr (by decide) (fun t9 ht hW => ⟨rfl, hS.F ht, by rw [ht]; exact hP⟩) hS.2.2 d_Md_doTable_31
    · have hc3 : u = 1 := hc3
      refine lv_iconst (v := 1) hx hb d_Md_doTable_12 (by decide) ?_
      refine lv_goto (tgt := 17) hx hb d_Md_doTable_13 (by decide) ?_
      refine lv_iload hx hb d_Md_doTable_17 (lv_at hl 0 rfl) ?_
      refine lv_if_lt (tgt := 26) hx hb d_Md_doTable_19 (by decide) (fun hc => ?_) (fun hc => False.elim (by revert hc; decide))
      refine lv_iconst (v := 0) hx hb d_Md_doTable_26 (by decide) ?_
      refine lv_icmp_ne (tgt := 32) hx hb d_Md_doTable_27 (by decide) (fun hc => ?_) (fun hc => False.elim (by revert hc; decide))
      refine lv_iload_n hx hb d_Md_doTable_32 rfl (lv_at hl 3 rfl) ?_
      refine lv_iconst (v := 1) hx hb d_Md_doTable_33 (by decide) ?_
      refine lv_icmp_ne (tgt := 71) hx hb d_Md_doTable_34 (by decide) (fun hc => absurd hc3 hc) (fun hc => ?_)
      refine lv_aload_n hx hb d_Md_doTable_37 rfl (lv_at hl 1 rfl) ?_
      refine va_get (D := D) (ci := 9) (v := .ref (a + 8)) (C := R_Md) (T := F_Md) (N := 17) hx hb hg in_Md hown hK hP 0 rfl rfl 9 (Nat.le_of_ble_eq_true rfl) (hg _ tw_715) (fun _ h9 => h9) rfl d_Md_doTable_38 ?_
      refine lv_aload_n hx hb d_Md_doTable_41 rfl (lv_at hl 1 rfl) ?_
      refine va_get (D := D) (ci := 9) (v := .int (nI n)) (C := R_Md) (T := F_Md) (N := 17) hx hb hg in_Md hown hK hP 0 rfl rfl 8 (Nat.le_of_ble_eq_true rfl) (hg _ tw_714) (fun _ h9 => h9) rfl d_Md_doTable_42 ?_
      refine lv_iload_n hx hb d_Md_doTable_45 rfl (lv_at hl 4 rfl) ?_
      refine ep_iast hx hb hK hP hD hS 8 0 rfl rfl (i := n) (x := x) (by omega) (by decide) d_Md_doTable_46 (fun H locs hP hD hS => ?_)
      have hP : va_P D cls (wMo cI cJ cZ a code kn ed ct ti nm xa xb (nI n) (upd it n x) vs se sm rs wk ors owk) H := hP
      have hD : va_D (blk a 15) (wMo cI cJ cZ a code kn ed ct ti nm xa xb (nI n) (upd it n x) vs se sm rs wk ors owk) := hD
      refine lv_aload_n hx hb d_Md_doTable_47 rfl (lv_at hl 1 rfl) ?_
      refine va_get (D := D) (ci := 9) (v := .ref (a + 9)) (C := R_Md) (T := F_Md) (N := 17) hx hb hg in_Md hown hK hP 0 rfl rfl 10 (Nat.le_of_ble_eq_true rfl) (hg _ tw_716) (fun _ h9 => h9) rfl d_Md_doTable_48 ?_
      refine lv_aload_n hx hb d_Md_doTable_51 rfl (lv_at hl 1 rfl) ?_
      refine va_get (D := D) (ci := 9) (v := .int (nI n)) (C := R_Md) (T := F_Md) (N := 17) hx hb hg in_Md hown hK hP 0 rfl rfl 8 (Nat.le_of_ble_eq_true rfl) (hg _ tw_714) (fun _ h9 => h9) rfl d_Md_doTable_52 ?_
      refine lv_iload hx hb d_Md_doTable_55 (lv_at hl 5 rfl) ?_
      refine ep_iast hx hb hK hP hD hS 9 0 rfl rfl (i := n) (x := y) (by omega) (by decide) d_Md_doTable_57 (fun H locs hP hD hS => ?_)
      have hP : va_P D cls (wMo cI cJ cZ a code kn ed ct ti nm xa xb (nI n) (upd it n x) (upd vs n y) se sm rs wk ors owk) H := hP
      have hD : va_D (blk a 15) (wMo cI cJ cZ a code kn ed ct ti nm xa xb (nI n) (upd it n x) (upd vs n y) se sm rs wk ors owk) := hD
      refine lv_aload_n hx hb d_Md_doTable_58 rfl (lv_at hl 1 rfl) ?_
      refine lv_dup hx hb d_Md_doTable_59 rfl ?_
      refine va_get (D := D) (ci := 9) (v := .int (nI n)) (C := R_Md) (T := F_Md) (N := 17) hx hb hg in_Md hown hK hP 0 rfl rfl 8 (Nat.le_of_ble_eq_true rfl) (hg _ tw_714) (fun _ h9 => h9) rfl d_Md_doTable_60 ?_
      refine lv_iconst (v := 1) hx hb d_Md_doTable_63 (by decide) ?_
      refine lv_iadd hx hb d_Md_doTable_64 ?_
      refine lv_topi (fun z9 e_z9 => ?_)
      obtain rfl : z9 = nI (n + 1) := by rw [e_z9]; exact (nI_add n 1)
      refine va_put (D := D) (ci := 9) (v := .int (nI (n + 1))) (ty := .int) (C := R_Md) (T := F_Md) (N := 17) hx hb hg in_Md t_Md t_Md_ok n_Md hown hK hP hD hS 0 rfl rfl 8 (Nat.le_of_ble_eq_true rfl) (hg _ tw_714) (fun _ h9 => h9) rfl (by decide +kernel) rfl rfl (Nat.le_of_ble_eq_true rfl) d_Md_doTable_65 (fun H locs hP hD hS => ?_)
      have hP : va_P D cls (wMo cI cJ cZ a code kn ed ct ti nm xa xb (nI (n + 1)) (upd it n x) (upd vs n y) se sm rs wk ors owk) H := hP
      have hD : va_D (blk a 15) (wMo cI cJ cZ a code kn ed ct ti nm xa xb (nI (n + 1)) (upd it n x) (upd vs n y) se sm rs wk ors owk) := hD
      refine lv_goto (tgt := 91) hx hb d_Md_doTable_68 (by decide) ?_
      refine lv_iconst (v := 1) hx hb d_Md_doTable_91 (by decide) ?_
      rw [if_neg hc1, if_pos hc3] at hR
      subst hR
      exact W.zret (v := 1) hx hb hr (by decide) (fun t9 ht hW => ⟨rfl, hS.F ht, by rw [ht]; exact hP⟩) hS.2.2 d_Md_doTable_92

def g_Mo_doSets_18 (ma : Int32) : Nat → Nat → Int32 → Int32 → (Nat → Int32) → Int32 × Int32 × (Nat → Int32)
  | 0, i, fr, to9, se => if fr = to9 then ((0, ma - 0, se)) else ((1, ma - 1, se))
  | k + 1, i, fr, to9, se => if (se i) = fr then (g_Mo_doSets_18 ma k (i + 1) fr to9 (upd se i to9)) else (g_Mo_doSets_18 ma k (i + 1) fr to9 (upd se i (se i)))

def f_Mo_doSets (ma : Int32) (se : Nat → Int32) (x : Nat) (y : Nat) : Int32 × Int32 × (Nat → Int32) := g_Mo_doSets_18 ma 16 0 (se x) (se y) se
set_option maxHeartbeats 4000000 in
set_option maxRecDepth 100000 in
theorem m_Mo_doSets (l : Launch) (D : va_G) (cI cJ cZ cO : ClassId) (a : Nat) (code : Int32) (kn : Nat → Int32) (ed : Nat → Int32) (ct : Nat → Int32) (ti : Nat → Int32) (nm : Nat → Int32) (xa : Nat → Int32) (xb : Nat → Int32) (ma : Int32) (it : Nat → Int32) (vs : Nat → Int32) (se : Nat → Int32) (sm : Int64) (rs : Nat → Int64) (wk : Nat → Int32) (ors : Nat → Int64) (owk : Nat → Int32) (x : Nat) (y : Nat) (hx9 : x < 16) (hy9 : y < 16) (R : Int32 × Int32 × (Nat → Int32)) (hR : f_Mo_doSets ma se x y = R) : Met l y_Md_doSets (k_Md_doSets :: gt) rm_Md_doSets (Pc0 D cI cJ cZ cO [.ref a, .int (nI x), .int (nI y)] (fun H => va_P D cls (wMo cI cJ cZ a code kn ed ct ti nm xa xb ma it vs se sm rs wk ors owk) H)) (Qd (blk a 15) (some (.int R.1)) (fun H => va_P D cls (wMo cI cJ cZ a code kn ed ct ti nm xa xb R.2.1 it vs R.2.2 sm rs wk ors owk) H)) 0 0 (blk a 15) := by
  refine Met.ofW (cc := c_Md_doSets) (maxL := 6) (ret := (Option.some FieldType.boolean)) (by decide) rfl ?_
  intro p e s m args below meth c s₁ B hml hv
  obtain ⟨rfl, hKn, hP⟩ := hv
  have hx := B.exec
  have hb := B.bytes
  have hr := B.returns
  have hts := atoms_spec (ws := k_Md_doSets :: gt) B.pre
  have hg : ∀ w ∈ gt, w.before _ s = true := fun w h => hts w (List.mem_cons_of_mem _ h)
  have hown : s.vm.findClass R_Md = some m.cls := findClass_of_methodNamed B.named
  have hlocks := B.notSynchronized
  have hK := hKn.1
  have hl := lv_entry ([.ref a, .int (nI x), .int (nI y)]) (n := 6) (Nat.le_of_ble_eq_true rfl)
  rw [lg_entry_eq]
  generalize (lg_sl ([.ref a, .int (nI x), .int (nI y)]) ++ List.replicate (6 - (lg_sl ([.ref a, .int (nI x), .int (nI y)])).length) Slot.unset).toArray = ls at hl ⊢
  have hl : lv_has ls 6 [(0, .ref a), (1, .int (nI x)), (2, .int (nI y))] := hl
  have hS : va_S (blk a 15) s.heap s.heap [] := va_S.rf
  have hD : va_D (blk a 15) (wMo cI cJ cZ a code kn ed ct ti nm xa xb ma it vs se sm rs wk ors owk) := (blk_D (wMo_in))
  have key_18 : ∀ (k : Nat) (i : Nat) (fr : Int32) (to9 : Int32) (se : Nat → Int32) (H : Heap) (locs : List Loc) (ls : Array Slot), i + k = 16 → g_Mo_doSets_18 ma k i fr to9 se = R → lv_has ls 6 [(5, .int (nI i)), (3, .int fr), (4, .int to9), (0, .ref a), (1, .int (nI x)), (2, .int (nI y))] → va_P D cls (wMo cI cJ cZ a code kn ed ct ti nm xa xb ma it vs se sm rs wk ors owk) H → va_S (blk a 15) s.heap H locs → W p l e (headSpec (k_Md_doSets :: gt) rm_Md_doSets).room s m ([.ref a, .int (nI x), .int (nI y)] : List Value).toArray below meth c H locs 0 0 (MQ below (Qd (blk a 15) (some (.int R.1)) (fun H => va_P D cls (wMo cI cJ cZ a code kn ed ct ti nm xa xb R.2.1 it vs R.2.2 sm rs wk ors owk) H)) ([.ref a, .int (nI x), .int (nI y)] : List Value).toArray s 0 0 (blk a 15)) (F0 m 18 ls []) := by
    intro k
    induction k with
    | zero =>
      intro i fr to9 se H locs ls hi hR hl hP hS
      have hR : (if fr = to9 then ((0, ma - 0, se)) else ((1, ma - 1, se))) = R := hR
      have hD : va_D (blk a 15) (wMo cI cJ cZ a code kn ed ct ti nm xa xb ma it vs se sm rs wk ors owk) := (blk_D (wMo_in))
      refine lv_iload hx hb d_Md_doSets_18 (lv_at hl 0 rfl) ?_
      refine lv_bipush (v := 16) hx hb d_Md_doSets_20 (by decide) ?_
      refine lv_icmp_ge (tgt := 61) hx hb d_Md_doSets_22 (by decide) (fun hc => ?_) (fun hc => False.elim (by have hc : ¬ (16 ≤ i) := fun h => hc (by exact (nI_leI (a := 16) (b := i) (by omega) (by omega)).mpr h); omega))
      refine lv_aload_n hx hb d_Md_doSets_61 rfl (lv_at hl 3 rfl) ?_
      refine lv_dup hx hb d_Md_doSets_62 rfl ?_
      refine va_get (D := D) (ci := 9) (v := .int ma) (C := R_Md) (T := F_Md) (N := 17) hx hb hg in_Md hown hK hP 0 rfl rfl 8 (Nat.le_of_ble_eq_true rfl) (hg _ tw_714) (fun _ h9 => h9) rfl d_Md_doSets_63 ?_
      refine lv_iload_n hx hb d_Md_doSets_66 rfl (lv_at hl 1 rfl) ?_
      refine lv_iload hx hb d_Md_doSets_67 (lv_at hl 2 rfl) ?_
      refine lv_icmp_ne (tgt := 76) hx hb d_Md_doSets_69 (by decide) (fun hc1 => ?_) (fun hc1 => ?_)
      · have hc1 : ¬ (fr = to9) := hc1
        refine lv_iconst (v := 1) hx hb d_Md_doSets_76 (by decide) ?_
        refine lv_isub hx hb d_Md_doSets_77 ?_
        refine va_put (D := D) (ci := 9) (v := .int (ma - 1)) (ty := .int) (C := R_Md) (T := F_Md) (N := 17) hx hb hg in_Md t_Md t_Md_ok n_Md hown hK hP hD hS 0 rfl rfl 8 (Nat.le_of_ble_eq_true rfl) (hg _ tw_714) (fun _ h9 => h9) rfl (by decide +kernel) rfl rfl (Nat.le_of_ble_eq_true rfl) d_Md_doSets_78 (fun H locs hP hD hS => ?_)
        have hP : va_P D cls (wMo cI cJ cZ a code kn ed ct ti nm xa xb (ma - 1) it vs se sm rs wk ors owk) H := hP
        have hD : va_D (blk a 15) (wMo cI cJ cZ a code kn ed ct ti nm xa xb (ma - 1) it vs se sm rs wk ors owk) := hD
        refine lv_iload_n hx hb d_Md_doSets_81 rfl (lv_at hl 1 rfl) ?_
        refine lv_iload hx hb d_Md_doSets_82 (lv_at hl 2 rfl) ?_
        refine lv_icmp_eq (tgt := 91) hx hb d_Md_doSets_84 (by decide) (fun hc => absurd hc hc1) (fun hc => ?_)
        refine lv_iconst (v := 1) hx hb d_Md_doSets_87 (by decide) ?_
        refine lv_goto (tgt := 92) hx hb d_Md_doSets_88 (by decide) ?_
        rw [if_neg hc1] at hR
        subst hR
        exact W.zret (v := 1) hx hb hr (by decide) (fun t9 ht hW => ⟨rfl, hS.F ht, by rw [ht]; exact hP⟩) hS.2.2 d_Md_doSets_92
      · have hc1 : fr = to9 := hc1
        refine lv_iconst (v := 0) hx hb d_Md_doSets_72 (by decide) ?_
        refine lv_goto (tgt := 77) hx hb d_Md_doSets_73 (by decide) ?_
        refine lv_isub hx hb d_Md_doSets_77 ?_
        refine va_put (D := D) (ci := 9) (v := .int (ma - 0)) (ty := .int) (C := R_Md) (T := F_Md) (N := 17) hx hb hg in_Md t_Md t_Md_ok n_Md hown hK hP hD hS 0 rfl rfl 8 (Nat.le_of_ble_eq_true rfl) (hg _ tw_714) (fun _ h9 => h9) rfl (by decide +kernel) rfl rfl (Nat.le_of_ble_eq_true rfl) d_Md_doSets_78 (fun H locs hP hD hS => ?_)
        have hP : va_P D cls (wMo cI cJ cZ a code kn ed ct ti nm xa xb (ma - 0) it vs se sm rs wk ors owk) H := hP
        have hD : va_D (blk a 15) (wMo cI cJ cZ a code kn ed ct ti nm xa xb (ma - 0) it vs se sm rs wk ors owk) := hD
        refine lv_iload_n hx hb d_Md_doSets_81 rfl (lv_at hl 1 rfl) ?_
        refine lv_iload hx hb d_Md_doSets_82 (lv_at hl 2 rfl) ?_
        refine lv_icmp_eq (tgt := 91) hx hb d_Md_doSets_84 (by decide) (fun hc => ?_) (fun hc => absurd hc1 hc)
        refine lv_iconst (v := 0) hx hb d_Md_doSets_91 (by decide) ?_
        rw [if_pos hc1] at hR
        subst hR
        exact W.zret (v := 0) hx hb hr (by decide) (fun t9 ht hW => ⟨rfl, hS.F ht, by rw [ht]; exact hP⟩) hS.2.2 d_Md_doSets_92
    | succ k ih =>
      intro i fr to9 se H locs ls hi hR hl hP hS
      have hR : (if (se i) = fr then (g_Mo_doSets_18 ma k (i + 1) fr to9 (upd se i to9)) else (g_Mo_doSets_18 ma k (i + 1) fr to9 (upd se i (se i)))) = R := hR
      have hD : va_D (blk a 15) (wMo cI cJ cZ a code kn ed ct ti nm xa xb ma it vs se sm rs wk ors owk) := (blk_D (wMo_in))
      refine lv_iload hx hb d_Md_doSets_18 (lv_at hl 0 rfl) ?_
      refine lv_bipush (v := 16) hx hb d_Md_doSets_20 (by decide) ?_
      refine lv_icmp_ge (tgt := 61) hx hb d_Md_doSets_22 (by decide) (fun hc => False.elim (by have hc := (nI_leI (a := 16) (b := i) (by omega) (by omega)).mp hc; omega)) (fun hc => ?_)
      refine lv_aload_n hx hb d_Md_doSets_25 rfl (lv_at hl 3 rfl) ?_
      refine va_get (D := D) (ci := 9) (v := .ref (a + 10)) (C := R_Md) (T := F_Md) (N := 17) hx hb hg in_Md hown hK hP 0 rfl rfl 11 (Nat.le_of_ble_eq_true rfl) (hg _ tw_717) (fun _ h9 => h9) rfl d_Md_doSets_26 ?_
      refine lv_iload hx hb d_Md_doSets_29 (lv_at hl 0 rfl) ?_
      refine lv_aload_n hx hb d_Md_doSets_31 rfl (lv_at hl 3 rfl) ?_
      refine va_get (D := D) (ci := 9) (v := .ref (a + 10)) (C := R_Md) (T := F_Md) (N := 17) hx hb hg in_Md hown hK hP 0 rfl rfl 11 (Nat.le_of_ble_eq_true rfl) (hg _ tw_717) (fun _ h9 => h9) rfl d_Md_doSets_32 ?_
      refine lv_iload hx hb d_Md_doSets_35 (lv_at hl 0 rfl) ?_
      refine ep_iald hx hb hK hP 10 0 rfl rfl (i := i) (by omega) (by decide) d_Md_doSets_37 ?_
      refine lv_iload_n hx hb d_Md_doSets_38 rfl (lv_at hl 1 rfl) ?_
      refine lv_icmp_ne (tgt := 47) hx hb d_Md_doSets_39 (by decide) (fun hc2 => ?_) (fun hc2 => ?_)
      · have hc2 : ¬ ((se i) = fr) := hc2
        refine lv_aload_n hx hb d_Md_doSets_47 rfl (lv_at hl 3 rfl) ?_
        refine va_get (D := D) (ci := 9) (v := .ref (a + 10)) (C := R_Md) (T := F_Md) (N := 17) hx hb hg in_Md hown hK hP 0 rfl rfl 11 (Nat.le_of_ble_eq_true rfl) (hg _ tw_717) (fun _ h9 => h9) rfl d_Md_doSets_48 ?_
        refine lv_iload hx hb d_Md_doSets_51 (lv_at hl 0 rfl) ?_
        refine ep_iald hx hb hK hP 10 0 rfl rfl (i := i) (by omega) (by decide) d_Md_doSets_53 ?_
        refine ep_iast hx hb hK hP hD hS 10 0 rfl rfl (i := i) (x := (se i)) (by omega) (by decide) d_Md_doSets_54 (fun H locs hP hD hS => ?_)
        have hP : va_P D cls (wMo cI cJ cZ a code kn ed ct ti nm xa xb ma it vs (upd se i (se i)) sm rs wk ors owk) H := hP
        have hD : va_D (blk a 15) (wMo cI cJ cZ a code kn ed ct ti nm xa xb ma it vs (upd se i (se i)) sm rs wk ors owk) := hD
        refine lv_iinc (k := 0) (lv' := [(5, .int (nI (i + 1))), (3, .int fr), (4, .int to9), (0, .ref a), (1, .int (nI x)), (2, .int (nI y))]) hx hb d_Md_doSets_55 hl rfl (inc1 _) (by decide) rfl (fun ls hl => ?_)
        refine lv_goto (tgt := 18) hx hb d_Md_doSets_58 (by decide) ?_
        rw [if_neg hc2] at hR
        exact ih (i + 1) fr to9 (upd se i (se i)) _ _ ls (by omega) hR hl hP hS
      · have hc2 : (se i) = fr := hc2
        refine lv_iload hx hb d_Md_doSets_42 (lv_at hl 2 rfl) ?_
        refine lv_goto (tgt := 54) hx hb d_Md_doSets_44 (by decide) ?_
        refine ep_iast hx hb hK hP hD hS 10 0 rfl rfl (i := i) (x := to9) (by omega) (by decide) d_Md_doSets_54 (fun H locs hP hD hS => ?_)
        have hP : va_P D cls (wMo cI cJ cZ a code kn ed ct ti nm xa xb ma it vs (upd se i to9) sm rs wk ors owk) H := hP
        have hD : va_D (blk a 15) (wMo cI cJ cZ a code kn ed ct ti nm xa xb ma it vs (upd se i to9) sm rs wk ors owk) := hD
        refine lv_iinc (k := 0) (lv' := [(5, .int (nI (i + 1))), (3, .int fr), (4, .int to9), (0, .ref a), (1, .int (nI x)), (2, .int (nI y))]) hx hb d_Md_doSets_55 hl rfl (inc1 _) (by decide) rfl (fun ls hl => ?_)
        refine lv_goto (tgt := 18) hx hb d_Md_doSets_58 (by decide) ?_
        rw [if_pos hc2] at hR
        exact ih (i + 1) fr to9 (upd se i to9) _ _ ls (by omega) hR hl hP hS
  have hR : (g_Mo_doSets_18 ma 16 0 (se x) (se y) se) = R := hR
  refine lv_aload_n hx hb d_Md_doSets_0 rfl (lv_at hl 0 rfl) ?_
  refine va_get (D := D) (ci := 9) (v := .ref (a + 10)) (C := R_Md) (T := F_Md) (N := 17) hx hb hg in_Md hown hK hP 0 rfl rfl 11 (Nat.le_of_ble_eq_true rfl) (hg _ tw_717) (fun _ h9 => h9) rfl d_Md_doSets_1 ?_
  refine lv_iload_n hx hb d_Md_doSets_4 rfl (lv_at hl 1 rfl) ?_
  refine ep_iald hx hb hK hP 10 0 rfl rfl (i := x) (by omega) (by decide) d_Md_doSets_5 ?_
  refine lv_istore_n (lv' := [(3, .int (se x)), (0, .ref a), (1, .int (nI x)), (2, .int (nI y))]) hx hb d_Md_doSets_6 rfl hl (by decide) rfl (fun ls hl => ?_)
  refine lv_aload_n hx hb d_Md_doSets_7 rfl (lv_at hl 1 rfl) ?_
  refine va_get (D := D) (ci := 9) (v := .ref (a + 10)) (C := R_Md) (T := F_Md) (N := 17) hx hb hg in_Md hown hK hP 0 rfl rfl 11 (Nat.le_of_ble_eq_true rfl) (hg _ tw_717) (fun _ h9 => h9) rfl d_Md_doSets_8 ?_
  refine lv_iload_n hx hb d_Md_doSets_11 rfl (lv_at hl 3 rfl) ?_
  refine ep_iald hx hb hK hP 10 0 rfl rfl (i := y) (by omega) (by decide) d_Md_doSets_12 ?_
  refine lv_istore (lv' := [(4, .int (se y)), (3, .int (se x)), (0, .ref a), (1, .int (nI x)), (2, .int (nI y))]) hx hb d_Md_doSets_13 hl (by decide) rfl (fun ls hl => ?_)
  refine lv_iconst (v := 0) hx hb d_Md_doSets_15 (by decide) ?_
  refine lv_istore (lv' := [(5, .int 0), (4, .int (se y)), (3, .int (se x)), (0, .ref a), (1, .int (nI x)), (2, .int (nI y))]) hx hb d_Md_doSets_16 hl (by decide) rfl (fun ls hl => ?_)
  exact key_18 16 0 (se x) (se y) se _ _ ls (by omega) hR (lv_sub hl [0, 2, 1, 3, 4, 5] rfl) hP hS
