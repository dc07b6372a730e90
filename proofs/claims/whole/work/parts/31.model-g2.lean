/-! contracts of EditablePastModel (by wip/whole/gen/model.py) -/
def f_Mo_result_e (kn : Nat → Int32) (j : Nat) (t : Int32) : Int32 := (f_Mo_asked_e kn j t)
set_option maxHeartbeats 4000000 in
set_option maxRecDepth 100000 in
theorem m_Mo_result_e (l : Launch) (D : va_G) (cI cJ cZ cO : ClassId) (a : Nat) (code : Int32) (kn : Nat → Int32) (ed : Nat → Int32) (ct : Nat → Int32) (ti : Nat → Int32) (nm : Nat → Int32) (xa : Nat → Int32) (xb : Nat → Int32) (ma : Int32) (it : Nat → Int32) (vs : Nat → Int32) (se : Nat → Int32) (sm : Int64) (rs : Nat → Int64) (wk : Nat → Int32) (ors : Nat → Int64) (owk : Nat → Int32) (j : Nat) (t : Int32) (hj : j < 4) (hlk : ¬ (f_Mo_lacks kn j t).1 = 0) (R : Int32) (hR : f_Mo_result_e kn j t = R) : Met l y_Md_result (k_Md_result :: gt) rm_Md_result (Pc0 D cI cJ cZ cO [.ref a, .int (nI j), .int t] (fun H => va_P D cls (wMo cI cJ cZ a code kn ed ct ti nm xa xb ma it vs se sm rs wk ors owk) H)) (Qd (blk a 15) (some (.long 0)) (fun H => va_P D cls (wMo cI cJ cZ a R kn ed ct ti nm xa xb ma it vs se sm rs wk ors owk) H)) 0 0 (blk a 15) := by
  refine Met.ofW (cc := c_Md_result) (maxL := 4) (ret := (Option.some FieldType.long)) (by decide) rfl ?_
  intro p e s m args below meth c s₁ B hml hv
  obtain ⟨rfl, hKn, hP⟩ := hv
  have hx := B.exec
  have hb := B.bytes
  have hr := B.returns
  have hts := atoms_spec (ws := k_Md_result :: gt) B.pre
  have hg : ∀ w ∈ gt, w.before _ s = true := fun w h => hts w (List.mem_cons_of_mem _ h)
  have hown : s.vm.findClass R_Md = some m.cls := findClass_of_methodNamed B.named
  have hlocks := B.notSynchronized
  have hK := hKn.1
  have hl := lv_entry ([.ref a, .int (nI j), .int t]) (n := 4) (Nat.le_of_ble_eq_true rfl)
  rw [lg_entry_eq]
  generalize (lg_sl ([.ref a, .int (nI j), .int t]) ++ List.replicate (4 - (lg_sl ([.ref a, .int (nI j), .int t])).length) Slot.unset).toArray = ls at hl ⊢
  have hl : lv_has ls 4 [(0, .ref a), (1, .int (nI j)), (2, .int t)] := hl
  have hS : va_S (blk a 15) s.heap s.heap [] := va_S.rf
  have hD : va_D (blk a 15) (wMo cI cJ cZ a code kn ed ct ti nm xa xb ma it vs se sm rs wk ors owk) := (blk_D (wMo_in))
  have hR : ((f_Mo_asked_e kn j t)) = R := hR
  refine lv_aload_n hx hb d_Md_result_0 rfl (lv_at hl 0 rfl) ?_
  refine lv_iload_n hx hb d_Md_result_1 rfl (lv_at hl 1 rfl) ?_
  refine lv_iload_n hx hb d_Md_result_2 rfl (lv_at hl 2 rfl) ?_
  refine ep_callH (W.runV (As := [.int (nI j), .int t]) (rest := []) ⟨hx, hb, hml, hown, hg⟩ (m_Mo_asked_e l D cI cJ cZ cO a code kn ed ct ti nm xa xb ma it vs se sm rs wk ors owk j t (by omega) hlk _ rfl) (ep_cwV 2 hg tw_884 tw_886 ts_24 tw_12 tk_Md_asked rfl rfl (by decide +kernel) ⟨(Nat.le_of_ble_eq_true rfl), (Nat.le_of_ble_eq_true rfl)⟩) ⟨ep_blind, va_recv (q0 := 0) (ci := 9) hK hP rfl rfl, ep_pre hKn (hP)⟩ rfl rfl hl.1 rfl (lv_room (Nat.le_of_ble_eq_true rfl)) d_Md_result_3 ⟨Nat.zero_le _, Nat.zero_le _⟩) hS (fun q h => h) (fun H locs hsz9 hk1 hP1 hS => ?_)
  refine W.eq (g2 := F0 m 6 ls [.int (-1)]) rfl ?_
  have hP : va_P D cls (wMo cI cJ cZ a (f_Mo_asked_e kn j t) kn ed ct ti nm xa xb ma it vs se sm rs wk ors owk) H := hP1
  have hD : va_D (blk a 15) (wMo cI cJ cZ a (f_Mo_asked_e kn j t) kn ed ct ti nm xa xb ma it vs se sm rs wk ors owk) := (blk_D (wMo_in))
  refine lv_istore_n (lv' := [(3, .int (-1)), (0, .ref a), (1, .int (nI j)), (2, .int t)]) hx hb d_Md_result_6 rfl hl (by decide) rfl (fun ls hl => ?_)
  refine lv_iload_n hx hb d_Md_result_7 rfl (lv_at hl 0 rfl) ?_
  refine lv_if_ge (tgt := 15) hx hb d_Md_result_8 (by decide) (fun hc => False.elim (by revert hc; decide)) (fun hc => ?_)
  refine lv_lconst (v := 0) hx hb d_Md_result_11 (by decide) ?_
  refine lv_goto (tgt := 21) hx hb d_Md_result_12 (by decide) ?_
  subst hR
  exact W.lret (v := 0) hx hb hr (fun t9 ht hW => ⟨rfl, hS.F ht, by rw [ht]; exact hP⟩) hS.2.2 d_Md_result_21

def f_Mo_result_b  : Int32 := f_Mo_asked_b
set_option maxHeartbeats 4000000 in
set_option maxRecDepth 100000 in
theorem m_Mo_result_b (l : Launch) (D : va_G) (cI cJ cZ cO : ClassId) (a : Nat) (code : Int32) (kn : Nat → Int32) (ed : Nat → Int32) (ct : Nat → Int32) (ti : Nat → Int32) (nm : Nat → Int32) (xa : Nat → Int32) (xb : Nat → Int32) (ma : Int32) (it : Nat → Int32) (vs : Nat → Int32) (se : Nat → Int32) (sm : Int64) (rs : Nat → Int64) (wk : Nat → Int32) (ors : Nat → Int64) (owk : Nat → Int32) (id : Int32) (t : Int32) (hid : ¬ okI id) (R : Int32) (hR : f_Mo_result_b = R) : Met l y_Md_result (k_Md_result :: gt) rm_Md_result (Pc0 D cI cJ cZ cO [.ref a, .int id, .int t] (fun H => va_P D cls (wMo cI cJ cZ a code kn ed ct ti nm xa xb ma it vs se sm rs wk ors owk) H)) (Qd (blk a 15) (some (.long 0)) (fun H => va_P D cls (wMo cI cJ cZ a R kn ed ct ti nm xa xb ma it vs se sm rs wk ors owk) H)) 0 0 (blk a 15) := by
  refine Met.ofW (cc := c_Md_result) (maxL := 4) (ret := (Option.some FieldType.long)) (by decide) rfl ?_
  intro p e s m args below meth c s₁ B hml hv
  obtain ⟨rfl, hKn, hP⟩ := hv
  have hx := B.exec
  have hb := B.bytes
  have hr := B.returns
  have hts := atoms_spec (ws := k_Md_result :: gt) B.pre
  have hg : ∀ w ∈ gt, w.before _ s = true := fun w h => hts w (List.mem_cons_of_mem _ h)
  have hown : s.vm.findClass R_Md = some m.cls := findClass_of_methodNamed B.named
  have hlocks := B.notSynchronized
  have hK := hKn.1
  have hl := lv_entry ([.ref a, .int id, .int t]) (n := 4) (Nat.le_of_ble_eq_true rfl)
  rw [lg_entry_eq]
  generalize (lg_sl ([.ref a, .int id, .int t]) ++ List.replicate (4 - (lg_sl ([.ref a, .int id, .int t])).length) Slot.unset).toArray = ls at hl ⊢
  have hl : lv_has ls 4 [(0, .ref a), (1, .int id), (2, .int t)] := hl
  have hS : va_S (blk a 15) s.heap s.heap [] := va_S.rf
  have hD : va_D (blk a 15) (wMo cI cJ cZ a code kn ed ct ti nm xa xb ma it vs se sm rs wk ors owk) := (blk_D (wMo_in))
  have hR : (f_Mo_asked_b) = R := hR
  refine lv_aload_n hx hb d_Md_result_0 rfl (lv_at hl 0 rfl) ?_
  refine lv_iload_n hx hb d_Md_result_1 rfl (lv_at hl 1 rfl) ?_
  refine lv_iload_n hx hb d_Md_result_2 rfl (lv_at hl 2 rfl) ?_
  refine ep_callH (W.runV (As := [.int id, .int t]) (rest := []) ⟨hx, hb, hml, hown, hg⟩ (m_Mo_asked_b l D cI cJ cZ cO a code kn ed ct ti nm xa xb ma it vs se sm rs wk ors owk id t hid _ rfl) (ep_cwV 2 hg tw_884 tw_886 ts_24 tw_12 tk_Md_asked rfl rfl (by decide +kernel) ⟨(Nat.le_of_ble_eq_true rfl), (Nat.le_of_ble_eq_true rfl)⟩) ⟨ep_blind, va_recv (q0 := 0) (ci := 9) hK hP rfl rfl, ep_pre hKn (hP)⟩ rfl rfl hl.1 rfl (lv_room (Nat.le_of_ble_eq_true rfl)) d_Md_result_3 ⟨Nat.zero_le _, Nat.zero_le _⟩) hS (fun q h => h) (fun H locs hsz9 hk1 hP1 hS => ?_)
  refine W.eq (g2 := F0 m 6 ls [.int (-1)]) rfl ?_
  have hP : va_P D cls (wMo cI cJ cZ a f_Mo_asked_b kn ed ct ti nm xa xb ma it vs se sm rs wk ors owk) H := hP1
  have hD : va_D (blk a 15) (wMo cI cJ cZ a f_Mo_asked_b kn ed ct ti nm xa xb ma it vs se sm rs wk ors owk) := (blk_D (wMo_in))
  refine lv_istore_n (lv' := [(3, .int (-1)), (0, .ref a), (1, .int id), (2, .int t)]) hx hb d_Md_result_6 rfl hl (by decide) rfl (fun ls hl => ?_)
  refine lv_iload_n hx hb d_Md_result_7 rfl (lv_at hl 0 rfl) ?_
  refine lv_if_ge (tgt := 15) hx hb d_Md_result_8 (by decide) (fun hc => False.elim (by revert hc; decide)) (fun hc => ?_)
  refine lv_lconst (v := 0) hx hb d_Md_result_11 (by decide) ?_
  refine lv_goto (tgt := 21) hx hb d_Md_result_12 (by decide) ?_
  subst hR
  exact W.lret (v := 0) hx hb hr (fun t9 ht hW => ⟨rfl, hS.F ht, by rw [ht]; exact hP⟩) hS.2.2 d_Md_result_21

def f_Mo_result_0 (ti : Nat → Int32) (nm : Nat → Int32) (xa : Nat → Int32) (it : Nat → Int32) (vs : Nat → Int32) (se : Nat → Int32) (rs : Nat → Int64) (wk : Nat → Int32) (n : Nat) (j : Nat) (t : Int32) : Int64 × Int32 × Nat × (Nat → Int32) × (Nat → Int32) × (Nat → Int32) × Int64 × (Nat → Int64) × (Nat → Int32) := if ¬ (f_Mo_find ti n j t) = -1 then ((((f_Mo_asked_0 ti nm xa it vs se rs wk n j t).2.2.2.2.2.2.2.1) ((f_Mo_find ti n j t).toNatClampNeg), (f_Mo_asked_0 ti nm xa it vs se rs wk n j t).2.1, (f_Mo_asked_0 ti nm xa it vs se rs wk n j t).2.2.1, (f_Mo_asked_0 ti nm xa it vs se rs wk n j t).2.2.2.1, (f_Mo_asked_0 ti nm xa it vs se rs wk n j t).2.2.2.2.1, (f_Mo_asked_0 ti nm xa it vs se rs wk n j t).2.2.2.2.2.1, (f_Mo_asked_0 ti nm xa it vs se rs wk n j t).2.2.2.2.2.2.1, (f_Mo_asked_0 ti nm xa it vs se rs wk n j t).2.2.2.2.2.2.2.1, (f_Mo_asked_0 ti nm xa it vs se rs wk n j t).2.2.2.2.2.2.2.2)) else ((0, (f_Mo_asked_0 ti nm xa it vs se rs wk n j t).2.1, (f_Mo_asked_0 ti nm xa it vs se rs wk n j t).2.2.1, (f_Mo_asked_0 ti nm xa it vs se rs wk n j t).2.2.2.1, (f_Mo_asked_0 ti nm xa it vs se rs wk n j t).2.2.2.2.1, (f_Mo_asked_0 ti nm xa it vs se rs wk n j t).2.2.2.2.2.1, (f_Mo_asked_0 ti nm xa it vs se rs wk n j t).2.2.2.2.2.2.1, (f_Mo_asked_0 ti nm xa it vs se rs wk n j t).2.2.2.2.2.2.2.1, (f_Mo_asked_0 ti nm xa it vs se rs wk n j t).2.2.2.2.2.2.2.2))
set_option maxHeartbeats 4000000 in
set_option maxRecDepth 100000 in
theorem m_Mo_result_0 (l : Launch) (D : va_G) (cI cJ cZ cO : ClassId) (a : Nat) (code : Int32) (kn : Nat → Int32) (ed : Nat → Int32) (ct : Nat → Int32) (ti : Nat → Int32) (nm : Nat → Int32) (xa : Nat → Int32) (xb : Nat → Int32) (ma : Int32) (it : Nat → Int32) (vs : Nat → Int32) (se : Nat → Int32) (sm : Int64) (rs : Nat → Int64) (wk : Nat → Int32) (ors : Nat → Int64) (owk : Nat → Int32) (n : Nat) (j : Nat) (t : Int32) (hj : j < 4) (hlk : (f_Mo_lacks kn j t).1 = 0) (hk : kn j = 1) (hct : ct j = nI n) (hn : n ≤ 32) (R : Int64 × Int32 × Nat × (Nat → Int32) × (Nat → Int32) × (Nat → Int32) × Int64 × (Nat → Int64) × (Nat → Int32)) (hR : f_Mo_result_0 ti nm xa it vs se rs wk n j t = R) : Met l y_Md_result (k_Md_result :: gt) rm_Md_result (Pc0 D cI cJ cZ cO [.ref a, .int (nI j), .int t] (fun H => va_P D cls (wMo cI cJ cZ a code kn ed ct ti nm xa xb ma it vs se sm rs wk ors owk) H)) (Qd (blk a 15) (some (.long R.1)) (fun H => va_P D cls (wMo cI cJ cZ a R.2.1 kn ed ct ti nm xa xb (nI R.2.2.1) R.2.2.2.1 R.2.2.2.2.1 R.2.2.2.2.2.1 R.2.2.2.2.2.2.1 R.2.2.2.2.2.2.2.1 R.2.2.2.2.2.2.2.2 ors owk) H)) 0 0 (blk a 15) := by
  refine Met.ofW (cc := c_Md_result) (maxL := 4) (ret := (Option.some FieldType.long)) (by decide) rfl ?_
  intro p e s m args below meth c s₁ B hml hv
  obtain ⟨rfl, hKn, hP⟩ := hv
  have hx := B.exec
  have hb := B.bytes
  have hr := B.returns
  have hts := atoms_spec (ws := k_Md_result :: gt) B.pre
  have hg : ∀ w ∈ gt, w.before _ s = true := fun w h => hts w (List.mem_cons_of_mem _ h)
  have hown : s.vm.findClass R_Md = some m.cls := findClass_of_methodNamed B.named
  have hlocks := B.notSynchronized
  have hK := hKn.1
  have hl := lv_entry ([.ref a, .int (nI j), .int t]) (n := 4) (Nat.le_of_ble_eq_true rfl)
  rw [lg_entry_eq]
  generalize (lg_sl ([.ref a, .int (nI j), .int t]) ++ List.replicate (4 - (lg_sl ([.ref a, .int (nI j), .int t])).length) Slot.unset).toArray = ls at hl ⊢
  have hl : lv_has ls 4 [(0, .ref a), (1, .int (nI j)), (2, .int t)] := hl
  have hS : va_S (blk a 15) s.heap s.heap [] := va_S.rf
  have hD : va_D (blk a 15) (wMo cI cJ cZ a code kn ed ct ti nm xa xb ma it vs se sm rs wk ors owk) := (blk_D (wMo_in))
  have hR : (if ¬ (f_Mo_find ti n j t) = -1 then ((((f_Mo_asked_0 ti nm xa it vs se rs wk n j t).2.2.2.2.2.2.2.1) ((f_Mo_find ti n j t).toNatClampNeg), (f_Mo_asked_0 ti nm xa it vs se rs wk n j t).2.1, (f_Mo_asked_0 ti nm xa it vs se rs wk n j t).2.2.1, (f_Mo_asked_0 ti nm xa it vs se rs wk n j t).2.2.2.1, (f_Mo_asked_0 ti nm xa it vs se rs wk n j t).2.2.2.2.1, (f_Mo_asked_0 ti nm xa it vs se rs wk n j t).2.2.2.2.2.1, (f_Mo_asked_0 ti nm xa it vs se rs wk n j t).2.2.2.2.2.2.1, (f_Mo_asked_0 ti nm xa it vs se rs wk n j t).2.2.2.2.2.2.2.1, (f_Mo_asked_0 ti nm xa it vs se rs wk n j t).2.2.2.2.2.2.2.2)) else ((0, (f_Mo_asked_0 ti nm xa it vs se rs wk n j t).2.1, (f_Mo_asked_0 ti nm xa it vs se rs wk n j t).2.2.1, (f_Mo_asked_0 ti nm xa it vs se rs wk n j t).2.2.2.1, (f_Mo_asked_0 ti nm xa it vs se rs wk n j t).2.2.2.2.1, (f_Mo_asked_0 ti nm xa it vs se rs wk n j t).2.2.2.2.2.1, (f_Mo_asked_0 ti nm xa it vs se rs wk n j t).2.2.2.2.2.2.1, (f_Mo_asked_0 ti nm xa it vs se rs wk n j t).2.2.2.2.2.2.2.1, (f_Mo_asked_0 ti nm xa it vs se rs wk n j t).2.2.2.2.2.2.2.2))) = R := hR
  refine lv_aload_n hx hb d_Md_result_0 rfl (lv_at hl 0 rfl) ?_
  refine lv_iload_n hx hb d_Md_result_1 rfl (lv_at hl 1 rfl) ?_
  refine lv_iload_n hx hb d_Md_result_2 rfl (lv_at hl 2 rfl) ?_
  refine ep_callH (W.runV (As := [.int (nI j), .int t]) (rest := []) ⟨hx, hb, hml, hown, hg⟩ (m_Mo_asked_0 l D cI cJ cZ cO a code kn ed ct ti nm xa xb ma it vs se sm rs wk ors owk n j t (by omega) hlk hk hct (by omega) _ rfl) (ep_cwV 2 hg tw_884 tw_886 ts_24 tw_12 tk_Md_asked rfl rfl (by decide +kernel) ⟨(Nat.le_of_ble_eq_true rfl), (Nat.le_of_ble_eq_true rfl)⟩) ⟨ep_blind, va_recv (q0 := 0) (ci := 9) hK hP rfl rfl, ep_pre hKn (hP)⟩ rfl rfl hl.1 rfl (lv_room (Nat.le_of_ble_eq_true rfl)) d_Md_result_3 ⟨Nat.zero_le _, Nat.zero_le _⟩) hS (fun q h => h) (fun H locs hsz9 hk1 hP1 hS => ?_)
  refine W.eq (g2 := F0 m 6 ls [.int ((f_Mo_asked_0 ti nm xa it vs se rs wk n j t).1)]) rfl ?_
  have hP : va_P D cls (wMo cI cJ cZ a ((f_Mo_asked_0 ti nm xa it vs se rs wk n j t).2.1) kn ed ct ti nm xa xb (nI ((f_Mo_asked_0 ti nm xa it vs se rs wk n j t).2.2.1)) ((f_Mo_asked_0 ti nm xa it vs se rs wk n j t).2.2.2.1) ((f_Mo_asked_0 ti nm xa it vs se rs wk n j t).2.2.2.2.1) ((f_Mo_asked_0 ti nm xa it vs se rs wk n j t).2.2.2.2.2.1) ((f_Mo_asked_0 ti nm xa it vs se rs wk n j t).2.2.2.2.2.2.1) ((f_Mo_asked_0 ti nm xa it vs se rs wk n j t).2.2.2.2.2.2.2.1) ((f_Mo_asked_0 ti nm xa it vs se rs wk n j t).2.2.2.2.2.2.2.2) ors owk) H := hP1
  have hD : va_D (blk a 15) (wMo cI cJ cZ a ((f_Mo_asked_0 ti nm xa it vs se rs wk n j t).2.1) kn ed ct ti nm xa xb (nI ((f_Mo_asked_0 ti nm xa it vs se rs wk n j t).2.2.1)) ((f_Mo_asked_0 ti nm xa it vs se rs wk n j t).2.2.2.1) ((f_Mo_asked_0 ti nm xa it vs se rs wk n j t).2.2.2.2.1) ((f_Mo_asked_0 ti nm xa it vs se rs wk n j t).2.2.2.2.2.1) ((f_Mo_asked_0 ti nm xa it vs se rs wk n j t).2.2.2.2.2.2.1) ((f_Mo_asked_0 ti nm xa it vs se rs wk n j t).2.2.2.2.2.2.2.1) ((f_Mo_asked_0 ti nm xa it vs se rs wk n j t).2.2.2.2.2.2.2.2) ors owk) := (blk_D (wMo_in))
  refine lv_topi (fun z8 e_z8 => ?_)
  obtain rfl : z8 = oI (¬ (f_Mo_find ti n j t) = -1) ((f_Mo_find ti n j t).toNatClampNeg) := by rw [e_z8]; exact (asked_fi_0 _ _ _ _ _ _ _ _ _ _ _)
  by_cases hc1 : ¬ (f_Mo_find ti n j t) = -1
  · rw [show oI (¬ (f_Mo_find ti n j t) = -1) ((f_Mo_find ti n j t).toNatClampNeg) = nI ((f_Mo_find ti n j t).toNatClampNeg) from if_pos hc1]
    have hp9 : ((f_Mo_find ti n j t)).toNatClampNeg < n := fi_lt _ _ _ _ (by omega) hc1
    refine lv_istore_n (lv' := [(3, .int (nI ((f_Mo_find ti n j t).toNatClampNeg))), (0, .ref a), (1, .int (nI j)), (2, .int t)]) hx hb d_Md_result_6 rfl hl (by decide) rfl (fun ls hl => ?_)
    refine lv_iload_n hx hb d_Md_result_7 rfl (lv_at hl 0 rfl) ?_
    refine lv_if_ge (tgt := 15) hx hb d_Md_result_8 (by decide) (fun hc => ?_) (fun hc => False.elim (by have hc : ¬ (0 ≤ (f_Mo_find ti n j t).toNatClampNeg) := fun h => hc (by exact (nI_leI (a := 0) (b := (f_Mo_find ti n j t).toNatClampNeg) (by omega) (by omega)).mpr h); omega))
    refine lv_aload_n hx hb d_Md_result_15 rfl (lv_at hl 1 rfl) ?_
    refine va_get (D := D) (ci := 9) (v := .ref (a + 11)) (C := R_Md) (T := F_Md) (N := 17) hx hb hg in_Md hown hK hP 0 rfl rfl 13 (Nat.le_of_ble_eq_true rfl) (hg _ tw_719) (fun _ h9 => h9) rfl d_Md_result_16 ?_
    refine lv_iload_n hx hb d_Md_result_19 rfl (lv_at hl 0 rfl) ?_
    refine ep_lald hx hb hK hP 11 1 rfl rfl (i := ((f_Mo_find ti n j t).toNatClampNeg)) (by omega) (by decide) d_Md_result_20 ?_
    rw [if_pos hc1] at hR
    subst hR
    exact W.lret (v := (((f_Mo_asked_0 ti nm xa it vs se rs wk n j t).2.2.2.2.2.2.2.1) ((f_Mo_find ti n j t).toNatClampNeg))) hx hb hr (fun t9 ht hW => ⟨rfl, hS.F ht, by rw [ht]; exact hP⟩) hS.2.2 d_Md_result_21
  · rw [show oI (¬ (f_Mo_find ti n j t) = -1) ((f_Mo_find ti n j t).toNatClampNeg) = -1 from if_neg hc1]
    refine lv_istore_n (lv' := [(3, .int (-1)), (0, .ref a), (1, .int (nI j)), (2, .int t)]) hx hb d_Md_result_6 rfl hl (by decide) rfl (fun ls hl => ?_)
    refine lv_iload_n hx hb d_Md_result_7 rfl (lv_at hl 0 rfl) ?_
    refine lv_if_ge (tgt := 15) hx hb d_Md_result_8 (by decide) (fun hc => False.elim (by revert hc; decide)) (fun hc => ?_)
    refine lv_lconst (v := 0) hx hb d_Md_result_11 (by decide) ?_
    refine lv_goto (tgt := 21) hx hb d_Md_result_12 (by decide) ?_
    rw [if_neg hc1] at hR
    subst hR
    exact W.lret (v := 0) hx hb hr (fun t9 ht hW => ⟨rfl, hS.F ht, by rw [ht]; exact hP⟩) hS.2.2 d_Md_result_21

def f_Mo_result_1 (ti : Nat → Int32) (nm : Nat → Int32) (xa : Nat → Int32) (it : Nat → Int32) (vs : Nat → Int32) (se : Nat → Int32) (rs : Nat → Int64) (wk : Nat → Int32) (n : Nat) (j : Nat) (t : Int32) : Int64 × Int32 × Nat × (Nat → Int32) × (Nat → Int32) × (Nat → Int32) × Int64 × (Nat → Int64) × (Nat → Int32) := if ¬ (f_Mo_find ti n j t) = -1 then ((((f_Mo_asked_1 ti nm xa it vs se rs wk n j t).2.2.2.2.2.2.2.1) ((f_Mo_find ti n j t).toNatClampNeg), (f_Mo_asked_1 ti nm xa it vs se rs wk n j t).2.1, (f_Mo_asked_1 ti nm xa it vs se rs wk n j t).2.2.1, (f_Mo_asked_1 ti nm xa it vs se rs wk n j t).2.2.2.1, (f_Mo_asked_1 ti nm xa it vs se rs wk n j t).2.2.2.2.1, (f_Mo_asked_1 ti nm xa it vs se rs wk n j t).2.2.2.2.2.1, (f_Mo_asked_1 ti nm xa it vs se rs wk n j t).2.2.2.2.2.2.1, (f_Mo_asked_1 ti nm xa it vs se rs wk n j t).2.2.2.2.2.2.2.1, (f_Mo_asked_1 ti nm xa it vs se rs wk n j t).2.2.2.2.2.2.2.2)) else ((0, (f_Mo_asked_1 ti nm xa it vs se rs wk n j t).2.1, (f_Mo_asked_1 ti nm xa it vs se rs wk n j t).2.2.1, (f_Mo_asked_1 ti nm xa it vs se rs wk n j t).2.2.2.1, (f_Mo_asked_1 ti nm xa it vs se rs wk n j t).2.2.2.2.1, (f_Mo_asked_1 ti nm xa it vs se rs wk n j t).2.2.2.2.2.1, (f_Mo_asked_1 ti nm xa it vs se rs wk n j t).2.2.2.2.2.2.1, (f_Mo_asked_1 ti nm xa it vs se rs wk n j t).2.2.2.2.2.2.2.1, (f_Mo_asked_1 ti nm xa it vs se rs wk n j t).2.2.2.2.2.2.2.2))
set_option maxHeartbeats 4000000 in
set_option maxRecDepth 100000 in
theorem m_Mo_result_1 (l : Launch) (D : va_G) (cI cJ cZ cO : ClassId) (a : Nat) (code : Int32) (kn : Nat → Int32) (ed : Nat → Int32) (ct : Nat → Int32) (ti : Nat → Int32) (nm : Nat → Int32) (xa : Nat → Int32) (xb : Nat → Int32) (ma : Int32) (it : Nat → Int32) (vs : Nat → Int32) (se : Nat → Int32) (sm : Int64) (rs : Nat → Int64) (wk : Nat → Int32) (ors : Nat → Int64) (owk : Nat → Int32) (n : Nat) (j : Nat) (t : Int32) (hj : j < 4) (hlk : (f_Mo_lacks kn j t).1 = 0) (hk : kn j = 2) (hct : ct j = nI n) (hn : n ≤ 32) (R : Int64 × Int32 × Nat × (Nat → Int32) × (Nat → Int32) × (Nat → Int32) × Int64 × (Nat → Int64) × (Nat → Int32)) (hR : f_Mo_result_1 ti nm xa it vs se rs wk n j t = R) : Met l y_Md_result (k_Md_result :: gt) rm_Md_result (Pc0 D cI cJ cZ cO [.ref a, .int (nI j), .int t] (fun H => va_P D cls (wMo cI cJ cZ a code kn ed ct ti nm xa xb ma it vs se sm rs wk ors owk) H)) (Qd (blk a 15) (some (.long R.1)) (fun H => va_P D cls (wMo cI cJ cZ a R.2.1 kn ed ct ti nm xa xb (nI R.2.2.1) R.2.2.2.1 R.2.2.2.2.1 R.2.2.2.2.2.1 R.2.2.2.2.2.2.1 R.2.2.2.2.2.2.2.1 R.2.2.2.2.2.2.2.2 ors owk) H)) 0 0 (blk a 15) := by
  refine Met.ofW (cc := c_Md_result) (maxL := 4) (ret := (Option.some FieldType.long)) (by decide) rfl ?_
  intro p e s m args below meth c s₁ B hml hv
  obtain ⟨rfl, hKn, hP⟩ := hv
  have hx := B.exec
  have hb := B.bytes
  have hr := B.returns
  have hts := atoms_spec (ws := k_Md_result :: gt) B.pre
  have hg : ∀ w ∈ gt, w.before _ s = true := fun w h => hts w (List.mem_cons_of_mem _ h)
  have hown : s.vm.findClass R_Md = some m.cls := findClass_of_methodNamed B.named
  have hlocks := B.notSynchronized
  have hK := hKn.1
  have hl := lv_entry ([.ref a, .int (nI j), .int t]) (n := 4) (Nat.le_of_ble_eq_true rfl)
  rw [lg_entry_eq]
  generalize (lg_sl ([.ref a, .int (nI j), .int t]) ++ List.replicate (4 - (lg_sl ([.ref a, .int (nI j), .int t])).length) Slot.unset).toArray = ls at hl ⊢
  have hl : lv_has ls 4 [(0, .ref a), (1, .int (nI j)), (2, .int t)] := hl
  have hS : va_S (blk a 15) s.heap s.heap [] := va_S.rf
  have hD : va_D (blk a 15) (wMo cI cJ cZ a code kn ed ct ti nm xa xb ma it vs se sm rs wk ors owk) := (blk_D (wMo_in))
  have hR : (if ¬ (f_Mo_find ti n j t) = -1 then ((((f_Mo_asked_1 ti nm xa it vs se rs wk n j t).2.2.2.2.2.2.2.1) ((f_Mo_find ti n j t).toNatClampNeg), (f_Mo_asked_1 ti nm xa it vs se rs wk n j t).2.1, (f_Mo_asked_1 ti nm xa it vs se rs wk n j t).2.2.1, (f_Mo_asked_1 ti nm xa it vs se rs wk n j t).2.2.2.1, (f_Mo_asked_1 ti nm xa it vs se rs wk n j t).2.2.2.2.1, (f_Mo_asked_1 ti nm xa it vs se rs wk n j t).2.2.2.2.2.1, (f_Mo_asked_1 ti nm xa it vs se rs wk n j t).2.2.2.2.2.2.1, (f_Mo_asked_1 ti nm xa it vs se rs wk n j t).2.2.2.2.2.2.2.1, (f_Mo_asked_1 ti nm xa it vs se rs wk n j t).2.2.2.2.2.2.2.2)) else ((0, (f_Mo_asked_1 ti nm xa it vs se rs wk n j t).2.1, (f_Mo_asked_1 ti nm xa it vs se rs wk n j t).2.2.1, (f_Mo_asked_1 ti nm xa it vs se rs wk n j t).2.2.2.1, (f_Mo_asked_1 ti nm xa it vs se rs wk n j t).2.2.2.2.1, (f_Mo_asked_1 ti nm xa it vs se rs wk n j t).2.2.2.2.2.1, (f_Mo_asked_1 ti nm xa it vs se rs wk n j t).2.2.2.2.2.2.1, (f_Mo_asked_1 ti nm xa it vs se rs wk n j t).2.2.2.2.2.2.2.1, (f_Mo_asked_1 ti nm xa it vs se rs wk n j t).2.2.2.2.2.2.2.2))) = R := hR
  refine lv_aload_n hx hb d_Md_result_0 rfl (lv_at hl 0 rfl) ?_
  refine lv_iload_n hx hb d_Md_result_1 rfl (lv_at hl 1 rfl) ?_
  refine lv_iload_n hx hb d_Md_result_2 rfl (lv_at hl 2 rfl) ?_
  refine ep_callH (W.runV (As := [.int (nI j), .int t]) (rest := []) ⟨hx, hb, hml, hown, hg⟩ (m_Mo_asked_1 l D cI cJ cZ cO a code kn ed ct ti nm xa xb ma it vs se sm rs wk ors owk n j t (by omega) hlk hk hct (by omega) _ rfl) (ep_cwV 2 hg tw_884 tw_886 ts_24 tw_12 tk_Md_asked rfl rfl (by decide +kernel) ⟨(Nat.le_of_ble_eq_true rfl), (Nat.le_of_ble_eq_true rfl)⟩) ⟨ep_blind, va_recv (q0 := 0) (ci := 9) hK hP rfl rfl, ep_pre hKn (hP)⟩ rfl rfl hl.1 rfl (lv_room (Nat.le_of_ble_eq_true rfl)) d_Md_result_3 ⟨Nat.zero_le _, Nat.zero_le _⟩) hS (fun q h => h) (fun H locs hsz9 hk1 hP1 hS => ?_)
  refine W.eq (g2 := F0 m 6 ls [.int ((f_Mo_asked_1 ti nm xa it vs se rs wk n j t).1)]) rfl ?_
  have hP : va_P D cls (wMo cI cJ cZ a ((f_Mo_asked_1 ti nm xa it vs se rs wk n j t).2.1) kn ed ct ti nm xa xb (nI ((f_Mo_asked_1 ti nm xa it vs se rs wk n j t).2.2.1)) ((f_Mo_asked_1 ti nm xa it vs se rs wk n j t).2.2.2.1) ((f_Mo_asked_1 ti nm xa it vs se rs wk n j t).2.2.2.2.1) ((f_Mo_asked_1 ti nm xa it vs se rs wk n j t).2.2.2.2.2.1) ((f_Mo_asked_1 ti nm xa it vs se rs wk n j t).2.2.2.2.2.2.1) ((f_Mo_asked_1 ti nm xa it vs se rs wk n j t).2.2.2.2.2.2.2.1) ((f_Mo_asked_1 ti nm xa it vs se rs wk n j t).2.2.2.2.2.2.2.2) ors owk) H := hP1
  have hD : va_D (blk a 15) (wMo cI cJ cZ a ((f_Mo_asked_1 ti nm xa it vs se rs wk n j t).2.1) kn ed ct ti nm xa xb (nI ((f_Mo_asked_1 ti nm xa it vs se rs wk n j t).2.2.1)) ((f_Mo_asked_1 ti nm xa it vs se rs wk n j t).2.2.2.1) ((f_Mo_asked_1 ti nm xa it vs se rs wk n j t).2.2.2.2.1) ((f_Mo_asked_1 ti nm xa it vs se rs wk n j t).2.2.2.2.2.1) ((f_Mo_asked_1 ti nm xa it vs se rs wk n j t).2.2.2.2.2.2.1) ((f_Mo_asked_1 ti nm xa it vs se rs wk n j t).2.2.2.2.2.2.2.1) ((f_Mo_asked_1 ti nm xa it vs se rs wk n j t).2.2.2.2.2.2.2.2) ors owk) := (blk_D (wMo_in))
  refine lv_topi (fun z8 e_z8 => ?_)
  obtain rfl : z8 = oI (¬ (f_Mo_find ti n j t) = -1) ((f_Mo_find ti n j t).toNatClampNeg) := by rw [e_z8]; exact (asked_fi_1 _ _ _ _ _ _ _ _ _ _ _)
  by_cases hc1 : ¬ (f_Mo_find ti n j t) = -1
  · rw [show oI (¬ (f_Mo_find ti n j t) = -1) ((f_Mo_find ti n j t).toNatClampNeg) = nI ((f_Mo_find ti n j t).toNatClampNeg) from if_pos hc1]
    have hp9 : ((f_Mo_find ti n j t)).toNatClampNeg < n := fi_lt _ _ _ _ (by omega) hc1
    refine lv_istore_n (lv' := [(3, .int (nI ((f_Mo_find ti n j t).toNatClampNeg))), (0, .ref a), (1, .int (nI j)), (2, .int t)]) hx hb d_Md_result_6 rfl hl (by decide) rfl (fun ls hl => ?_)
    refine lv_iload_n hx hb d_Md_result_7 rfl (lv_at hl 0 rfl) ?_
    refine lv_if_ge (tgt := 15) hx hb d_Md_result_8 (by decide) (fun hc => ?_) (fun hc => False.elim (by have hc : ¬ (0 ≤ (f_Mo_find ti n j t).toNatClampNeg) := fun h => hc (by exact (nI_leI (a := 0) (b := (f_Mo_find ti n j t).toNatClampNeg) (by omega) (by omega)).mpr h); omega))
    refine lv_aload_n hx hb d_Md_result_15 rfl (lv_at hl 1 rfl) ?_
    refine va_get (D := D) (ci := 9) (v := .ref (a + 11)) (C := R_Md) (T := F_Md) (N := 17) hx hb hg in_Md hown hK hP 0 rfl rfl 13 (Nat.le_of_ble_eq_true rfl) (hg _ tw_719) (fun _ h9 => h9) rfl d_Md_result_16 ?_
    refine lv_iload_n hx hb d_Md_result_19 rfl (lv_at hl 0 rfl) ?_
    refine ep_lald hx hb hK hP 11 1 rfl rfl (i := ((f_Mo_find ti n j t).toNatClampNeg)) (by omega) (by decide) d_Md_result_20 ?_
    rw [if_pos hc1] at hR
    subst hR
    exact W.lret (v := (((f_Mo_asked_1 ti nm xa it vs se rs wk n j t).2.2.2.2.2.2.2.1) ((f_Mo_find ti n j t).toNatClampNeg))) hx hb hr (fun t9 ht hW => ⟨rfl, hS.F ht, by rw [ht]; exact hP⟩) hS.2.2 d_Md_result_21
  · rw [show oI (¬ (f_Mo_find ti n j t) = -1) ((f_Mo_find ti n j t).toNatClampNeg) = -1 from if_neg hc1]
    refine lv_istore_n (lv' := [(3, .int (-1)), (0, .ref a), (1, .int (nI j)), (2, .int t)]) hx hb d_Md_result_6 rfl hl (by decide) rfl (fun ls hl => ?_)
    refine lv_iload_n hx hb d_Md_result_7 rfl (lv_at hl 0 rfl) ?_
    refine lv_if_ge (tgt := 15) hx hb d_Md_result_8 (by decide) (fun hc => False.elim (by revert hc; decide)) (fun hc => ?_)
    refine lv_lconst (v := 0) hx hb d_Md_result_11 (by decide) ?_
    refine lv_goto (tgt := 21) hx hb d_Md_result_12 (by decide) ?_
    rw [if_neg hc1] at hR
    subst hR
    exact W.lret (v := 0) hx hb hr (fun t9 ht hW => ⟨rfl, hS.F ht, by rw [ht]; exact hP⟩) hS.2.2 d_Md_result_21

def f_Mo_result_2 (ti : Nat → Int32) (nm : Nat → Int32) (xa : Nat → Int32) (xb : Nat → Int32) (it : Nat → Int32) (vs : Nat → Int32) (se : Nat → Int32) (rs : Nat → Int64) (wk : Nat → Int32) (n : Nat) (j : Nat) (t : Int32) : Int64 × Int32 × Nat × (Nat → Int32) × (Nat → Int32) × (Nat → Int32) × Int64 × (Nat → Int64) × (Nat → Int32) := if ¬ (f_Mo_find ti n j t) = -1 then ((((f_Mo_asked_2 ti nm xa xb it vs se rs wk n j t).2.2.2.2.2.2.2.1) ((f_Mo_find ti n j t).toNatClampNeg), (f_Mo_asked_2 ti nm xa xb it vs se rs wk n j t).2.1, (f_Mo_asked_2 ti nm xa xb it vs se rs wk n j t).2.2.1, (f_Mo_asked_2 ti nm xa xb it vs se rs wk n j t).2.2.2.1, (f_Mo_asked_2 ti nm xa xb it vs se rs wk n j t).2.2.2.2.1, (f_Mo_asked_2 ti nm xa xb it vs se rs wk n j t).2.2.2.2.2.1, (f_Mo_asked_2 ti nm xa xb it vs se rs wk n j t).2.2.2.2.2.2.1, (f_Mo_asked_2 ti nm xa xb it vs se rs wk n j t).2.2.2.2.2.2.2.1, (f_Mo_asked_2 ti nm xa xb it vs se rs wk n j t).2.2.2.2.2.2.2.2)) else ((0, (f_Mo_asked_2 ti nm xa xb it vs se rs wk n j t).2.1, (f_Mo_asked_2 ti nm xa xb it vs se rs wk n j t).2.2.1, (f_Mo_asked_2 ti nm xa xb it vs se rs wk n j t).2.2.2.1, (f_Mo_asked_2 ti nm xa xb it vs se rs wk n j t).2.2.2.2.1, (f_Mo_asked_2 ti nm xa xb it vs se rs wk n j t).2.2.2.2.2.1, (f_Mo_asked_2 ti nm xa xb it vs se rs wk n j t).2.2.2.2.2.2.1, (f_Mo_asked_2 ti nm xa xb it vs se rs wk n j t).2.2.2.2.2.2.2.1, (f_Mo_asked_2 ti nm xa xb it vs se rs wk n j t).2.2.2.2.2.2.2.2))
set_option maxHeartbeats 4000000 in
set_option maxRecDepth 100000 in
theorem m_Mo_result_2 (l : Launch) (D : va_G) (cI cJ cZ cO : ClassId) (a : Nat) (code : Int32) (kn : Nat → Int32) (ed : Nat → Int32) (ct : Nat → Int32) (ti : Nat → Int32) (nm : Nat → Int32) (xa : Nat → Int32) (xb : Nat → Int32) (ma : Int32) (it : Nat → Int32) (vs : Nat → Int32) (se : Nat → Int32) (sm : Int64) (rs : Nat → Int64) (wk : Nat → Int32) (ors : Nat → Int64) (owk : Nat → Int32) (n : Nat) (j : Nat) (t : Int32) (hj : j < 4) (hlk : (f_Mo_lacks kn j t).1 = 0) (hk : kn j = 3) (hct : ct j = nI n) (hn : n ≤ 32) (R : Int64 × Int32 × Nat × (Nat → Int32) × (Nat → Int32) × (Nat → Int32) × Int64 × (Nat → Int64) × (Nat → Int32)) (hR : f_Mo_result_2 ti nm xa xb it vs se rs wk n j t = R) : Met l y_Md_result (k_Md_result :: gt) rm_Md_result (Pc0 D cI cJ cZ cO [.ref a, .int (nI j), .int t] (fun H => va_P D cls (wMo cI cJ cZ a code kn ed ct ti nm xa xb ma it vs se sm rs wk ors owk) H)) (Qd (blk a 15) (some (.long R.1)) (fun H => va_P D cls (wMo cI cJ cZ a R.2.1 kn ed ct ti nm xa xb (nI R.2.2.1) R.2.2.2.1 R.2.2.2.2.1 R.2.2.2.2.2.1 R.2.2.2.2.2.2.1 R.2.2.2.2.2.2.2.1 R.2.2.2.2.2.2.2.2 ors owk) H)) 0 0 (blk a 15) := by
  refine Met.ofW (cc := c_Md_result) (maxL := 4) (ret := (Option.some FieldType.long)) (by decide) rfl ?_
  intro p e s m args below meth c s₁ B hml hv
  obtain ⟨rfl, hKn, hP⟩ := hv
  have hx := B.exec
  have hb := B.bytes
  have hr := B.returns
  have hts := atoms_spec (ws := k_Md_result :: gt) B.pre
  have hg : ∀ w ∈ gt, w.before _ s = true := fun w h => hts w (List.mem_cons_of_mem _ h)
  have hown : s.vm.findClass R_Md = some m.cls := findClass_of_methodNamed B.named
  have hlocks := B.notSynchronized
  have hK := hKn.1
  have hl := lv_entry ([.ref a, .int (nI j), .int t]) (n := 4) (Nat.le_of_ble_eq_true rfl)
  rw [lg_entry_eq]
  generalize (lg_sl ([.ref a, .int (nI j), .int t]) ++ List.replicate (4 - (lg_sl ([.ref a, .int (nI j), .int t])).length) Slot.unset).toArray = ls at hl ⊢
  have hl : lv_has ls 4 [(0, .ref a), (1, .int (nI j)), (2, .int t)] := hl
  have hS : va_S (blk a 15) s.heap s.heap [] := va_S.rf
  have hD : va_D (blk a 15) (wMo cI cJ cZ a code kn ed ct ti nm xa xb ma it vs se sm rs wk ors owk) := (blk_D (wMo_in))
  have hR : (if ¬ (f_Mo_find ti n j t) = -1 then ((((f_Mo_asked_2 ti nm xa xb it vs se rs wk n j t).2.2.2.2.2.2.2.1) ((f_Mo_find ti n j t).toNatClampNeg), (f_Mo_asked_2 ti nm xa xb it vs se rs wk n j t).2.1, (f_Mo_asked_2 ti nm xa xb it vs se rs wk n j t).2.2.1, (f_Mo_asked_2 ti nm xa xb it vs se rs wk n j t).2.2.2.1, (f_Mo_asked_2 ti nm xa xb it vs se rs wk n j t).2.2.2.2.1, (f_Mo_asked_2 ti nm xa xb it vs se rs wk n j t).2.2.2.2.2.1, (f_Mo_asked_2 ti nm xa xb it vs se rs wk n j t).2.2.2.2.2.2.1, (f_Mo_asked_2 ti nm xa xb it vs se rs wk n j t).2.2.2.2.2.2.2.1, (f_Mo_asked_2 ti nm xa xb it vs se rs wk n j t).2.2.2.2.2.2.2.2)) else ((0, (f_Mo_asked_2 ti nm xa xb it vs se rs wk n j t).2.1, (f_Mo_asked_2 ti nm xa xb it vs se rs wk n j t).2.2.1, (f_Mo_asked_2 ti nm xa xb it vs se rs wk n j t).2.2.2.1, (f_Mo_asked_2 ti nm xa xb it vs se rs wk n j t).2.2.2.2.1, (f_Mo_asked_2 ti nm xa xb it vs se rs wk n j t).2.2.2.2.2.1, (f_Mo_asked_2 ti nm xa xb it vs se rs wk n j t).2.2.2.2.2.2.1, (f_Mo_asked_2 ti nm xa xb it vs se rs wk n j t).2.2.2.2.2.2.2.1, (f_Mo_asked_2 ti nm xa xb it vs se rs wk n j t).2.2.2.2.2.2.2.2))) = R := hR
  refine lv_aload_n hx hb d_Md_result_0 rfl (lv_at hl 0 rfl) ?_
  refine lv_iload_n hx hb d_Md_result_1 rfl (lv_at hl 1 rfl) ?_
  refine lv_iload_n hx hb d_Md_result_2 rfl (lv_at hl 2 rfl) ?_
  refine ep_callH (W.runV (As := [.int (nI j), .int t]) (rest := []) ⟨hx, hb, hml, hown, hg⟩ (m_Mo_asked_2 l D cI cJ cZ cO a code kn ed ct ti nm xa xb ma it vs se sm rs wk ors owk n j t (by omega) hlk hk hct (by omega) _ rfl) (ep_cwV 2 hg tw_884 tw_886 ts_24 tw_12 tk_Md_asked rfl rfl (by decide +kernel) ⟨(Nat.le_of_ble_eq_true rfl), (Nat.le_of_ble_eq_true rfl)⟩) ⟨ep_blind, va_recv (q0 := 0) (ci := 9) hK hP rfl rfl, ep_pre hKn (hP)⟩ rfl rfl hl.1 rfl (lv_room (Nat.le_of_ble_eq_true rfl)) d_Md_result_3 ⟨Nat.zero_le _, Nat.zero_le _⟩) hS (fun q h => h) (fun H locs hsz9 hk1 hP1 hS => ?_)
  refine W.eq (g2 := F0 m 6 ls [.int ((f_Mo_asked_2 ti nm xa xb it vs se rs wk n j t).1)]) rfl ?_
  have hP : va_P D cls (wMo cI cJ cZ a ((f_Mo_asked_2 ti nm xa xb it vs se rs wk n j t).2.1) kn ed ct ti nm xa xb (nI ((f_Mo_asked_2 ti nm xa xb it vs se rs wk n j t).2.2.1)) ((f_Mo_asked_2 ti nm xa xb it vs se rs wk n j t).2.2.2.1) ((f_Mo_asked_2 ti nm xa xb it vs se rs wk n j t).2.2.2.2.1) ((f_Mo_asked_2 ti nm xa xb it vs se rs wk n j t).2.2.2.2.2.1) ((f_Mo_asked_2 ti nm xa xb it vs se rs wk n j t).2.2.2.2.2.2.1) ((f_Mo_asked_2 ti nm xa xb it vs se rs wk n j t).2.2.2.2.2.2.2.1) ((f_Mo_asked_2 ti nm xa xb it vs se rs wk n j t).2.2.2.2.2.2.2.2) ors owk) H := hP1
  have hD : va_D (blk a 15) (wMo cI cJ cZ a ((f_Mo_asked_2 ti nm xa xb it vs se rs wk n j t).2.1) kn ed ct ti nm xa xb (nI ((f_Mo_asked_2 ti nm xa xb it vs se rs wk n j t).2.2.1)) ((f_Mo_asked_2 ti nm xa xb it vs se rs wk n j t).2.2.2.1) ((f_Mo_asked_2 ti nm xa xb it vs se rs wk n j t).2.2.2.2.1) ((f_Mo_asked_2 ti nm xa xb it vs se rs wk n j t).2.2.2.2.2.1) ((f_Mo_asked_2 ti nm xa xb it vs se rs wk n j t).2.2.2.2.2.2.1) ((f_Mo_asked_2 ti nm xa xb it vs se rs wk n j t).2.2.2.2.2.2.2.1) ((f_Mo_asked_2 ti nm xa xb it vs se rs wk n j t).2.2.2.2.2.2.2.2) ors owk) := (blk_D (wMo_in))
  refine lv_topi (fun z8 e_z8 => ?_)
  obtain rfl : z8 = oI (¬ (f_Mo_find ti n j t) = -1) ((f_Mo_find ti n j t).toNatClampNeg) := by rw [e_z8]; exact (asked_fi_2 _ _ _ _ _ _ _ _ _ _ _ _)
  by_cases hc1 : ¬ (f_Mo_find ti n j t) = -1
  · rw [show oI (¬ (f_Mo_find ti n j t) = -1) ((f_Mo_find ti n j t).toNatClampNeg) = nI ((f_Mo_find ti n j t).toNatClampNeg) from if_pos hc1]
    have hp9 : ((f_Mo_find ti n j t)).toNatClampNeg < n := fi_lt _ _ _ _ (by omega) hc1
    refine lv_istore_n (lv' := [(3, .int (nI ((f_Mo_find ti n j t).toNatClampNeg))), (0, .ref a), (1, .int (nI j)), (2, .int t)]) hx hb d_Md_result_6 rfl hl (by decide) rfl (fun ls hl => ?_)
    refine lv_iload_n hx hb d_Md_result_7 rfl (lv_at hl 0 rfl) ?_
    refine lv_if_ge (tgt := 15) hx hb d_Md_result_8 (by decide) (fun hc => ?_) (fun hc => False.elim (by have hc : ¬ (0 ≤ (f_Mo_find ti n j t).toNatClampNeg) := fun h => hc (by exact (nI_leI (a := 0) (b := (f_Mo_find ti n j t).toNatClampNeg) (by omega) (by omega)).mpr h); omega))
    refine lv_aload_n hx hb d_Md_result_15 rfl (lv_at hl 1 rfl) ?_
    refine va_get (D := D) (ci := 9) (v := .ref (a + 11)) (C := R_Md) (T := F_Md) (N := 17) hx hb hg in_Md hown hK hP 0 rfl rfl 13 (Nat.le_of_ble_eq_true rfl) (hg _ tw_719) (fun _ h9 => h9) rfl d_Md_result_16 ?_
    refine lv_iload_n hx hb d_Md_result_19 rfl (lv_at hl 0 rfl) ?_
    refine ep_lald hx hb hK hP 11 1 rfl rfl (i := ((f_Mo_find ti n j t).toNatClampNeg)) (by omega) (by decide) d_Md_result_20 ?_
    rw [if_pos hc1] at hR
    subst hR
    exact W.lret (v := (((f_Mo_asked_2 ti nm xa xb it vs se rs wk n j t).2.2.2.2.2.2.2.1) ((f_Mo_find ti n j t).toNatClampNeg))) hx hb hr (fun t9 ht hW => ⟨rfl, hS.F ht, by rw [ht]; exact hP⟩) hS.2.2 d_Md_result_21
  · rw [show oI (¬ (f_Mo_find ti n j t) = -1) ((f_Mo_find ti n j t).toNatClampNeg) = -1 from if_neg hc1]
    refine lv_istore_n (lv' := [(3, .int (-1)), (0, .ref a), (1, .int (nI j)), (2, .int t)]) hx hb d_Md_result_6 rfl hl (by decide) rfl (fun ls hl => ?_)
    refine lv_iload_n hx hb d_Md_result_7 rfl (lv_at hl 0 rfl) ?_
    refine lv_if_ge (tgt := 15) hx hb d_Md_result_8 (by decide) (fun hc => False.elim (by revert hc; decide)) (fun hc => ?_)
    refine lv_lconst (v := 0) hx hb d_Md_result_11 (by decide) ?_
    refine lv_goto (tgt := 21) hx hb d_Md_result_12 (by decide) ?_
    rw [if_neg hc1] at hR
    subst hR
    exact W.lret (v := 0) hx hb hr (fun t9 ht hW => ⟨rfl, hS.F ht, by rw [ht]; exact hP⟩) hS.2.2 d_Md_result_21

def f_Mo_result_3 (ti : Nat → Int32) (nm : Nat → Int32) (xa : Nat → Int32) (it : Nat → Int32) (vs : Nat → Int32) (se : Nat → Int32) (rs : Nat → Int64) (wk : Nat → Int32) (n : Nat) (j : Nat) (t : Int32) : Int64 × Int32 × Nat × (Nat → Int32) × (Nat → Int32) × (Nat → Int32) × Int64 × (Nat → Int64) × (Nat → Int32) := if ¬ (f_Mo_find ti n j t) = -1 then ((((f_Mo_asked_3 ti nm xa it vs se rs wk n j t).2.2.2.2.2.2.2.1) ((f_Mo_find ti n j t).toNatClampNeg), (f_Mo_asked_3 ti nm xa it vs se rs wk n j t).2.1, (f_Mo_asked_3 ti nm xa it vs se rs wk n j t).2.2.1, (f_Mo_asked_3 ti nm xa it vs se rs wk n j t).2.2.2.1, (f_Mo_asked_3 ti nm xa it vs se rs wk n j t).2.2.2.2.1, (f_Mo_asked_3 ti nm xa it vs se rs wk n j t).2.2.2.2.2.1, (f_Mo_asked_3 ti nm xa it vs se rs wk n j t).2.2.2.2.2.2.1, (f_Mo_asked_3 ti nm xa it vs se rs wk n j t).2.2.2.2.2.2.2.1, (f_Mo_asked_3 ti nm xa it vs se rs wk n j t).2.2.2.2.2.2.2.2)) else ((0, (f_Mo_asked_3 ti nm xa it vs se rs wk n j t).2.1, (f_Mo_asked_3 ti nm xa it vs se rs wk n j t).2.2.1, (f_Mo_asked_3 ti nm xa it vs se rs wk n j t).2.2.2.1, (f_Mo_asked_3 ti nm xa it vs se rs wk n j t).2.2.2.2.1, (f_Mo_asked_3 ti nm xa it vs se rs wk n j t).2.2.2.2.2.1, (f_Mo_asked_3 ti nm xa it vs se rs wk n j t).2.2.2.2.2.2.1, (f_Mo_asked_3 ti nm xa it vs se rs wk n j t).2.2.2.2.2.2.2.1, (f_Mo_asked_3 ti nm xa it vs se rs wk n j t).2.2.2.2.2.2.2.2))
set_option maxHeartbeats 4000000 in
set_option maxRecDepth 100000 in
theorem m_Mo_result_3 (l : Launch) (D : va_G) (cI cJ cZ cO : ClassId) (a : Nat) (code : Int32) (kn : Nat → Int32) (ed : Nat → Int32) (ct : Nat → Int32) (ti : Nat → Int32) (nm : Nat → Int32) (xa : Nat → Int32) (xb : Nat → Int32) (ma : Int32) (it : Nat → Int32) (vs : Nat → Int32) (se : Nat → Int32) (sm : Int64) (rs : Nat → Int64) (wk : Nat → Int32) (ors : Nat → Int64) (owk : Nat → Int32) (n : Nat) (j : Nat) (t : Int32) (hj : j < 4) (hlk : (f_Mo_lacks kn j t).1 = 0) (hk : kn j = 4) (hct : ct j = nI n) (hn : n ≤ 32) (R : Int64 × Int32 × Nat × (Nat → Int32) × (Nat → Int32) × (Nat → Int32) × Int64 × (Nat → Int64) × (Nat → Int32)) (hR : f_Mo_result_3 ti nm xa it vs se rs wk n j t = R) : Met l y_Md_result (k_Md_result :: gt) rm_Md_result (Pc0 D cI cJ cZ cO [.ref a, .int (nI j), .int t] (fun H => va_P D cls (wMo cI cJ cZ a code kn ed ct ti nm xa xb ma it vs se sm rs wk ors owk) H)) (Qd (blk a 15) (some (.long R.1)) (fun H => va_P D cls (wMo cI cJ cZ a R.2.1 kn ed ct ti nm xa xb (nI R.2.2.1) R.2.2.2.1 R.2.2.2.2.1 R.2.2.2.2.2.1 R.2.2.2.2.2.2.1 R.2.2.2.2.2.2.2.1 R.2.2.2.2.2.2.2.2 ors owk) H)) 0 0 (blk a 15) := by
  refine Met.ofW (cc := c_Md_result) (maxL := 4) (ret := (Option.some FieldType.long)) (by decide) rfl ?_
  intro p e s m args below meth c s₁ B hml hv
  obtain ⟨rfl, hKn, hP⟩ := hv
  have hx := B.exec
  have hb := B.bytes
  have hr := B.returns
  have hts := atoms_spec (ws := k_Md_result :: gt) B.pre
  have hg : ∀ w ∈ gt, w.before _ s = true := fun w h => hts w (List.mem_cons_of_mem _ h)
  have hown : s.vm.findClass R_Md = some m.cls := findClass_of_methodNamed B.named
  have hlocks := B.notSynchronized
  have hK := hKn.1
  have hl := lv_entry ([.ref a, .int (nI j), .int t]) (n := 4) (Nat.le_of_ble_eq_true rfl)
  rw [lg_entry_eq]
  generalize (lg_sl ([.ref a, .int (nI j), .int t]) ++ List.replicate (4 - (lg_sl ([.ref a, .int (nI j), .int t])).length) Slot.unset).toArray = ls at hl ⊢
  have hl : lv_has ls 4 [(0, .ref a), (1, .int (nI j)), (2, .int t)] := hl
  have hS : va_S (blk a 15) s.heap s.heap [] := va_S.rf
  have hD : va_D (blk a 15) (wMo cI cJ cZ a code kn ed ct ti nm xa xb ma it vs se sm rs wk ors owk) := (blk_D (wMo_in))
  have hR : (if ¬ (f_Mo_find ti n j t) = -1 then ((((f_Mo_asked_3 ti nm xa it vs se rs wk n j t).2.2.2.2.2.2.2.1) ((f_Mo_find ti n j t).toNatClampNeg), (f_Mo_asked_3 ti nm xa it vs se rs wk n j t).2.1, (f_Mo_asked_3 ti nm xa it vs se rs wk n j t).2.2.1, (f_Mo_asked_3 ti nm xa it vs se rs wk n j t).2.2.2.1, (f_Mo_asked_3 ti nm xa it vs se rs wk n j t).2.2.2.2.1, (f_Mo_asked_3 ti nm xa it vs se rs wk n j t).2.2.2.2.2.1, (f_Mo_asked_3 ti nm xa it vs se rs wk n j t).2.2.2.2.2.2.1, (f_Mo_asked_3 ti nm xa it vs se rs wk n j t).2.2.2.2.2.2.2.1, (f_Mo_asked_3 ti nm xa it vs se rs wk n j t).2.2.2.2.2.2.2.2)) else ((0, (f_Mo_asked_3 ti nm xa it vs se rs wk n j t).2.1, (f_Mo_asked_3 ti nm xa it vs se rs wk n j t).2.2.1, (f_Mo_asked_3 ti nm xa it vs se rs wk n j t).2.2.2.1, (f_Mo_asked_3 ti nm xa it vs se rs wk n j t).2.2.2.2.1, (f_Mo_asked_3 ti nm xa it vs se rs wk n j t).2.2.2.2.2.1, (f_Mo_asked_3 ti nm xa it vs se rs wk n j t).2.2.2.2.2.2.1, (f_Mo_asked_3 ti nm xa it vs se rs wk n j t).2.2.2.2.2.2.2.1, (f_Mo_asked_3 ti nm xa it vs se rs wk n j t).2.2.2.2.2.2.2.2))) = R := hR
  refine lv_aload_n hx hb d_Md_result_0 rfl (lv_at hl 0 rfl) ?_
  refine lv_iload_n hx hb d_Md_result_1 rfl (lv_at hl 1 rfl) ?_
  refine lv_iload_n hx hb d_Md_result_2 rfl (lv_at hl 2 rfl) ?_
  refine ep_callH (W.runV (As := [.int (nI j), .int t]) (rest := []) ⟨hx, hb, hml, hown, hg⟩ (m_Mo_asked_3 l D cI cJ cZ cO a code kn ed ct ti nm xa xb ma it vs se sm rs wk ors owk n j t (by omega) hlk hk hct (by omega) _ rfl) (ep_cwV 2 hg tw_884 tw_886 ts_24 tw_12 tk_Md_asked rfl rfl (by decide +kernel) ⟨(Nat.le_of_ble_eq_true rfl), (Nat.le_of_ble_eq_true rfl)⟩) ⟨ep_blind, va_recv (q0 := 0) (ci := 9) hK hP rfl rfl, ep_pre hKn (hP)⟩ rfl rfl hl.1 rfl (lv_room (Nat.le_of_ble_eq_true rfl)) d_Md_result_3 ⟨Nat.zero_le _, Nat.zero_le _⟩) hS (fun q h => h) (fun H locs hsz9 hk1 hP1 hS => ?_)
  refine W.eq (g2 := F0 m 6 ls [.int ((f_Mo_asked_3 ti nm xa it vs se rs wk n j t).1)]) rfl ?_
  have hP : va_P D cls (wMo cI cJ cZ a ((f_Mo_asked_3 ti nm xa it vs se rs wk n j t).2.1) kn ed ct ti nm xa xb (nI ((f_Mo_asked_3 ti nm xa it vs se rs wk n j t).2.2.1)) ((f_Mo_asked_3 ti nm xa it vs se rs wk n j t).2.2.2.1) ((f_Mo_asked_3 ti nm xa it vs se rs wk n j t).2.2.2.2.1) ((f_Mo_asked_3 ti nm xa it vs se rs wk n j t).2.2.2.2.2.1) ((f_Mo_asked_3 ti nm xa it vs se rs wk n j t).2.2.2.2.2.2.1) ((f_Mo_asked_3 ti nm xa it vs se rs wk n j t).2.2.2.2.2.2.2.1) ((f_Mo_asked_3 ti nm xa it vs se rs wk n j t).2.2.2.2.2.2.2.2) ors owk) H := hP1
  have hD : va_D (blk a 15) (wMo cI cJ cZ a ((f_Mo_asked_3 ti nm xa it vs se rs wk n j t).2.1) kn ed ct ti nm xa xb (nI ((f_Mo_asked_3 ti nm xa it vs se rs wk n j t).2.2.1)) ((f_Mo_asked_3 ti nm xa it vs se rs wk n j t).2.2.2.1) ((f_Mo_asked_3 ti nm xa it vs se rs wk n j t).2.2.2.2.1) ((f_Mo_asked_3 ti nm xa it vs se rs wk n j t).2.2.2.2.2.1) ((f_Mo_asked_3 ti nm xa it vs se rs wk n j t).2.2.2.2.2.2.1) ((f_Mo_asked_3 ti nm xa it vs se rs wk n j t).2.2.2.2.2.2.2.1) ((f_Mo_asked_3 ti nm xa it vs se rs wk n j t).2.2.2.2.2.2.2.2) ors owk) := (blk_D (wMo_in))
  refine lv_topi (fun z8 e_z8 => ?_)
  obtain rfl : z8 = oI (¬ (f_Mo_find ti n j t) = -1) ((f_Mo_find ti n j t).toNatClampNeg) := by rw [e_z8]; exact (asked_fi_3 _ _ _ _ _ _ _ _ _ _ _)
  by_cases hc1 : ¬ (f_Mo_find ti n j t) = -1
  · rw [show oI (¬ (f_Mo_find ti n j t) = -1) ((f_Mo_find ti n j t).toNatClampNeg) = nI ((f_Mo_find ti n j t).toNatClampNeg) from if_pos hc1]
    have hp9 : ((f_Mo_find ti n j t)).toNatClampNeg < n := fi_lt _ _ _ _ (by omega) hc1
    refine lv_istore_n (lv' := [(3, .int (nI ((f_Mo_find ti n j t).toNatClampNeg))), (0, .ref a), (1, .int (nI j)), (2, .int t)]) hx hb d_Md_result_6 rfl hl (by decide) rfl (fun ls hl => ?_)
    refine lv_iload_n hx hb d_Md_result_7 rfl (lv_at hl 0 rfl) ?_
    refine lv_if_ge (tgt := 15) hx hb d_Md_result_8 (by decide) (fun hc => ?_) (fun hc => False.elim (by have hc : ¬ (0 ≤ (f_Mo_find ti n j t).toNatClampNeg) := fun h => hc (by exact (nI_leI (a := 0) (b := (f_Mo_find ti n j t).toNatClampNeg) (by omega) (by omega)).mpr h); omega))
    refine lv_aload_n hx hb d_Md_result_15 rfl (lv_at hl 1 rfl) ?_
    refine va_get (D := D) (ci := 9) (v := .ref (a + 11)) (C := R_Md) (T := F_Md) (N := 17) hx hb hg in_Md hown hK hP 0 rfl rfl 13 (Nat.le_of_ble_eq_true rfl) (hg _ tw_719) (fun _ h9 => h9) rfl d_Md_result_16 ?_
    refine lv_iload_n hx hb d_Md_result_19 rfl (lv_at hl 0 rfl) ?_
    refine ep_lald hx hb hK hP 11 1 rfl rfl (i := ((f_Mo_find ti n j t).toNatClampNeg)) (by omega) (by decide) d_Md_result_20 ?_
    rw [if_pos hc1] at hR
    subst hR
    exact W.lret (v := (((f_Mo_asked_3 ti nm xa it vs se rs wk n j t).2.2.2.2.2.2.2.1) ((f_Mo_find ti n j t).toNatClampNeg))) hx hb hr (fun t9 ht hW => ⟨rfl, hS.F ht, by rw [ht]; exact hP⟩) hS.2.2 d_Md_result_21
  · rw [show oI (¬ (f_Mo_find ti n j t) = -1) ((f_Mo_find ti n j t).toNatClampNeg) = -1 from if_neg hc1]
    refine lv_istore_n (lv' := [(3, .int (-1)), (0, .ref a), (1, .int (nI j)), (2, .int t)]) hx hb d_Md_result_6 rfl hl (by decide) rfl (fun ls hl => ?_)
    refine lv_iload_n hx hb d_Md_result_7 rfl (lv_at hl 0 rfl) ?_
    refine lv_if_ge (tgt := 15) hx hb d_Md_result_8 (by decide) (fun hc => False.elim (by revert hc; decide)) (fun hc => ?_)
    refine lv_lconst (v := 0) hx hb d_Md_result_11 (by decide) ?_
    refine lv_goto (tgt := 21) hx hb d_Md_result_12 (by decide) ?_
    rw [if_neg hc1] at hR
    subst hR
    exact W.lret (v := 0) hx hb hr (fun t9 ht hW => ⟨rfl, hS.F ht, by rw [ht]; exact hP⟩) hS.2.2 d_Md_result_21

def f_Mo_result_4 (ti : Nat → Int32) (xa : Nat → Int32) (it : Nat → Int32) (vs : Nat → Int32) (se : Nat → Int32) (rs : Nat → Int64) (wk : Nat → Int32) (n : Nat) (j : Nat) (t : Int32) : Int64 × Int32 × Int32 × (Nat → Int32) × (Nat → Int32) × (Nat → Int32) × Int64 × (Nat → Int64) × (Nat → Int32) := if ¬ (f_Mo_find ti n j t) = -1 then ((((f_Mo_asked_4 ti xa it vs se rs wk n j t).2.2.2.2.2.2.2.1) ((f_Mo_find ti n j t).toNatClampNeg), (f_Mo_asked_4 ti xa it vs se rs wk n j t).2.1, (f_Mo_asked_4 ti xa it vs se rs wk n j t).2.2.1, (f_Mo_asked_4 ti xa it vs se rs wk n j t).2.2.2.1, (f_Mo_asked_4 ti xa it vs se rs wk n j t).2.2.2.2.1, (f_Mo_asked_4 ti xa it vs se rs wk n j t).2.2.2.2.2.1, (f_Mo_asked_4 ti xa it vs se rs wk n j t).2.2.2.2.2.2.1, (f_Mo_asked_4 ti xa it vs se rs wk n j t).2.2.2.2.2.2.2.1, (f_Mo_asked_4 ti xa it vs se rs wk n j t).2.2.2.2.2.2.2.2)) else ((0, (f_Mo_asked_4 ti xa it vs se rs wk n j t).2.1, (f_Mo_asked_4 ti xa it vs se rs wk n j t).2.2.1, (f_Mo_asked_4 ti xa it vs se rs wk n j t).2.2.2.1, (f_Mo_asked_4 ti xa it vs se rs wk n j t).2.2.2.2.1, (f_Mo_asked_4 ti xa it vs se rs wk n j t).2.2.2.2.2.1, (f_Mo_asked_4 ti xa it vs se rs wk n j t).2.2.2.2.2.2.1, (f_Mo_asked_4 ti xa it vs se rs wk n j t).2.2.2.2.2.2.2.1, (f_Mo_asked_4 ti xa it vs se rs wk n j t).2.2.2.2.2.2.2.2))
set_option maxHeartbeats 4000000 in
set_option maxRecDepth 100000 in
theorem m_Mo_result_4 (l : Launch) (D : va_G) (cI cJ cZ cO : ClassId) (a : Nat) (code : Int32) (kn : Nat → Int32) (ed : Nat → Int32) (ct : Nat → Int32) (ti : Nat → Int32) (nm : Nat → Int32) (xa : Nat → Int32) (xb : Nat → Int32) (ma : Int32) (it : Nat → Int32) (vs : Nat → Int32) (se : Nat → Int32) (sm : Int64) (rs : Nat → Int64) (wk : Nat → Int32) (ors : Nat → Int64) (owk : Nat → Int32) (n : Nat) (j : Nat) (t : Int32) (hj : j < 4) (hlk : (f_Mo_lacks kn j t).1 = 0) (hk : kn j = 5) (hct : ct j = nI n) (hn : n ≤ 32) (R : Int64 × Int32 × Int32 × (Nat → Int32) × (Nat → Int32) × (Nat → Int32) × Int64 × (Nat → Int64) × (Nat → Int32)) (hR : f_Mo_result_4 ti xa it vs se rs wk n j t = R) : Met l y_Md_result (k_Md_result :: gt) rm_Md_result (Pc0 D cI cJ cZ cO [.ref a, .int (nI j), .int t] (fun H => va_P D cls (wMo cI cJ cZ a code kn ed ct ti nm xa xb ma it vs se sm rs wk ors owk) H)) (Qd (blk a 15) (some (.long R.1)) (fun H => va_P D cls (wMo cI cJ cZ a R.2.1 kn ed ct ti nm xa xb R.2.2.1 R.2.2.2.1 R.2.2.2.2.1 R.2.2.2.2.2.1 R.2.2.2.2.2.2.1 R.2.2.2.2.2.2.2.1 R.2.2.2.2.2.2.2.2 ors owk) H)) 0 0 (blk a 15) := by
  refine Met.ofW (cc := c_Md_result) (maxL := 4) (ret := (Option.some FieldType.long)) (by decide) rfl ?_
  intro p e s m args below meth c s₁ B hml hv
  obtain ⟨rfl, hKn, hP⟩ := hv
  have hx := B.exec
  have hb := B.bytes
  have hr := B.returns
  have hts := atoms_spec (ws := k_Md_result :: gt) B.pre
  have hg : ∀ w ∈ gt, w.before _ s = true := fun w h => hts w (List.mem_cons_of_mem _ h)
  have hown : s.vm.findClass R_Md = some m.cls := findClass_of_methodNamed B.named
  have hlocks := B.notSynchronized
  have hK := hKn.1
  have hl := lv_entry ([.ref a, .int (nI j), .int t]) (n := 4) (Nat.le_of_ble_eq_true rfl)
  rw [lg_entry_eq]
  generalize (lg_sl ([.ref a, .int (nI j), .int t]) ++ List.replicate (4 - (lg_sl ([.ref a, .int (nI j), .int t])).length) Slot.unset).toArray = ls at hl ⊢
  have hl : lv_has ls 4 [(0, .ref a), (1, .int (nI j)), (2, .int t)] := hl
  have hS : va_S (blk a 15) s.heap s.heap [] := va_S.rf
  have hD : va_D (blk a 15) (wMo cI cJ cZ a code kn ed ct ti nm xa xb ma it vs se sm rs wk ors owk) := (blk_D (wMo_in))
  have hR : (if ¬ (f_Mo_find ti n j t) = -1 then ((((f_Mo_asked_4 ti xa it vs se rs wk n j t).2.2.2.2.2.2.2.1) ((f_Mo_find ti n j t).toNatClampNeg), (f_Mo_asked_4 ti xa it vs se rs wk n j t).2.1, (f_Mo_asked_4 ti xa it vs se rs wk n j t).2.2.1, (f_Mo_asked_4 ti xa it vs se rs wk n j t).2.2.2.1, (f_Mo_asked_4 ti xa it vs se rs wk n j t).2.2.2.2.1, (f_Mo_asked_4 ti xa it vs se rs wk n j t).2.2.2.2.2.1, (f_Mo_asked_4 ti xa it vs se rs wk n j t).2.2.2.2.2.2.1, (f_Mo_asked_4 ti xa it vs se rs wk n j t).2.2.2.2.2.2.2.1, (f_Mo_asked_4 ti xa it vs se rs wk n j t).2.2.2.2.2.2.2.2)) else ((0, (f_Mo_asked_4 ti xa it vs se rs wk n j t).2.1, (f_Mo_asked_4 ti xa it vs se rs wk n j t).2.2.1, (f_Mo_asked_4 ti xa it vs se rs wk n j t).2.2.2.1, (f_Mo_asked_4 ti xa it vs se rs wk n j t).2.2.2.2.1, (f_Mo_asked_4 ti xa it vs se rs wk n j t).2.2.2.2.2.1, (f_Mo_asked_4 ti xa it vs se rs wk n j t).2.2.2.2.2.2.1, (f_Mo_asked_4 ti xa it vs se rs wk n j t).2.2.2.2.2.2.2.1, (f_Mo_asked_4 ti xa it vs se rs wk n j t).2.2.2.2.2.2.2.2))) = R := hR
  refine lv_aload_n hx hb d_Md_result_0 rfl (lv_at hl 0 rfl) ?_
  refine lv_iload_n hx hb d_Md_result_1 rfl (lv_at hl 1 rfl) ?_
  refine lv_iload_n hx hb d_Md_result_2 rfl (lv_at hl 2 rfl) ?_
  refine ep_callH (W.runV (As := [.int (nI j), .int t]) (rest := []) ⟨hx, hb, hml, hown, hg⟩ (m_Mo_asked_4 l D cI cJ cZ cO a code kn ed ct ti nm xa xb ma it vs se sm rs wk ors owk n j t (by omega) hlk hk hct (by omega) _ rfl) (ep_cwV 2 hg tw_884 tw_886 ts_24 tw_12 tk_Md_asked rfl rfl (by decide +kernel) ⟨(Nat.le_of_ble_eq_true rfl), (Nat.le_of_ble_eq_true rfl)⟩) ⟨ep_blind, va_recv (q0 := 0) (ci := 9) hK hP rfl rfl, ep_pre hKn (hP)⟩ rfl rfl hl.1 rfl (lv_room (Nat.le_of_ble_eq_true rfl)) d_Md_result_3 ⟨Nat.zero_le _, Nat.zero_le _⟩) hS (fun q h => h) (fun H locs hsz9 hk1 hP1 hS => ?_)
  refine W.eq (g2 := F0 m 6 ls [.int ((f_Mo_asked_4 ti xa it vs se rs wk n j t).1)]) rfl ?_
  have hP : va_P D cls (wMo cI cJ cZ a ((f_Mo_asked_4 ti xa it vs se rs wk n j t).2.1) kn ed ct ti nm xa xb ((f_Mo_asked_4 ti xa it vs se rs wk n j t).2.2.1) ((f_Mo_asked_4 ti xa it vs se rs wk n j t).2.2.2.1) ((f_Mo_asked_4 ti xa it vs se rs wk n j t).2.2.2.2.1) ((f_Mo_asked_4 ti xa it vs se rs wk n j t).2.2.2.2.2.1) ((f_Mo_asked_4 ti xa it vs se rs wk n j t).2.2.2.2.2.2.1) ((f_Mo_asked_4 ti xa it vs se rs wk n j t).2.2.2.2.2.2.2.1) ((f_Mo_asked_4 ti xa it vs se rs wk n j t).2.2.2.2.2.2.2.2) ors owk) H := hP1
  have hD : va_D (blk a 15) (wMo cI cJ cZ a ((f_Mo_asked_4 ti xa it vs se rs wk n j t).2.1) kn ed ct ti nm xa xb ((f_Mo_asked_4 ti xa it vs se rs wk n j t).2.2.1) ((f_Mo_asked_4 ti xa it vs se rs wk n j t).2.2.2.1) ((f_Mo_asked_4 ti xa it vs se rs wk n j t).2.2.2.2.1) ((f_Mo_asked_4 ti xa it vs se rs wk n j t).2.2.2.2.2.1) ((f_Mo_asked_4 ti xa it vs se rs wk n j t).2.2.2.2.2.2.1) ((f_Mo_asked_4 ti xa it vs se rs wk n j t).2.2.2.2.2.2.2.1) ((f_Mo_asked_4 ti xa it vs se rs wk n j t).2.2.2.2.2.2.2.2) ors owk) := (blk_D (wMo_in))
  refine lv_topi (fun z8 e_z8 => ?_)
  obtain rfl : z8 = oI (¬ (f_Mo_find ti n j t) = -1) ((f_Mo_find ti n j t).toNatClampNeg) := by rw [e_z8]; exact (asked_fi_4 _ _ _ _ _ _ _ _ _ _)
  by_cases hc1 : ¬ (f_Mo_find ti n j t) = -1
  · rw [show oI (¬ (f_Mo_find ti n j t) = -1) ((f_Mo_find ti n j t).toNatClampNeg) = nI ((f_Mo_find ti n j t).toNatClampNeg) from if_pos hc1]
    have hp9 : ((f_Mo_find ti n j t)).toNatClampNeg < n := fi_lt _ _ _ _ (by omega) hc1
    refine lv_istore_n (lv' := [(3, .int (nI ((f_Mo_find ti n j t).toNatClampNeg))), (0, .ref a), (1, .int (nI j)), (2, .int t)]) hx hb d_Md_result_6 rfl hl (by decide) rfl (fun ls hl => ?_)
    refine lv_iload_n hx hb d_Md_result_7 rfl (lv_at hl 0 rfl) ?_
    refine lv_if_ge (tgt := 15) hx hb d_Md_result_8 (by decide) (fun hc => ?_) (fun hc => False.elim (by have hc : ¬ (0 ≤ (f_Mo_find ti n j t).toNatClampNeg) := fun h => hc (by exact (nI_leI (a := 0) (b := (f_Mo_find ti n j t).toNatClampNeg) (by omega) (by omega)).mpr h); omega))
    refine lv_aload_n hx hb d_Md_result_15 rfl (lv_at hl 1 rfl) ?_
    refine va_get (D := D) (ci := 9) (v := .ref (a + 11)) (C := R_Md) (T := F_Md) (N := 17) hx hb hg in_Md hown hK hP 0 rfl rfl 13 (Nat.le_of_ble_eq_true rfl) (hg _ tw_719) (fun _ h9 => h9) rfl d_Md_result_16 ?_
    refine lv_iload_n hx hb d_Md_result_19 rfl (lv_at hl 0 rfl) ?_
    refine ep_lald hx hb hK hP 11 1 rfl rfl (i := ((f_Mo_find ti n j t).toNatClampNeg)) (by omega) (by decide) d_Md_result_20 ?_
    rw [if_pos hc1] at hR
    subst hR
    exact W.lret (v := (((f_Mo_asked_4 ti xa it vs se rs wk n j t).2.2.2.2.2.2.2.1) ((f_Mo_find ti n j t).toNatClampNeg))) hx hb hr (fun t9 ht hW => ⟨rfl, hS.F ht, by rw [ht]; exact hP⟩) hS.2.2 d_Md_result_21
  · rw [show oI (¬ (f_Mo_find ti n j t) = -1) ((f_Mo_find ti n j t).toNatClampNeg) = -1 from if_neg hc1]
    refine lv_istore_n (lv' := [(3, .int (-1)), (0, .ref a), (1, .int (nI j)), (2, .int t)]) hx hb d_Md_result_6 rfl hl (by decide) rfl (fun ls hl => ?_)
    refine lv_iload_n hx hb d_Md_result_7 rfl (lv_at hl 0 rfl) ?_
    refine lv_if_ge (tgt := 15) hx hb d_Md_result_8 (by decide) (fun hc => False.elim (by revert hc; decide)) (fun hc => ?_)
    refine lv_lconst (v := 0) hx hb d_Md_result_11 (by decide) ?_
    refine lv_goto (tgt := 21) hx hb d_Md_result_12 (by decide) ?_
    rw [if_neg hc1] at hR
    subst hR
    exact W.lret (v := 0) hx hb hr (fun t9 ht hW => ⟨rfl, hS.F ht, by rw [ht]; exact hP⟩) hS.2.2 d_Md_result_21

def f_Mo_result_5 (ti : Nat → Int32) (xa : Nat → Int32) (xb : Nat → Int32) (it : Nat → Int32) (vs : Nat → Int32) (se : Nat → Int32) (rs : Nat → Int64) (wk : Nat → Int32) (n : Nat) (j : Nat) (t : Int32) : Int64 × Int32 × Int32 × (Nat → Int32) × (Nat → Int32) × (Nat → Int32) × Int64 × (Nat → Int64) × (Nat → Int32) := if ¬ (f_Mo_find ti n j t) = -1 then ((((f_Mo_asked_5 ti xa xb it vs se rs wk n j t).2.2.2.2.2.2.2.1) ((f_Mo_find ti n j t).toNatClampNeg), (f_Mo_asked_5 ti xa xb it vs se rs wk n j t).2.1, (f_Mo_asked_5 ti xa xb it vs se rs wk n j t).2.2.1, (f_Mo_asked_5 ti xa xb it vs se rs wk n j t).2.2.2.1, (f_Mo_asked_5 ti xa xb it vs se rs wk n j t).2.2.2.2.1, (f_Mo_asked_5 ti xa xb it vs se rs wk n j t).2.2.2.2.2.1, (f_Mo_asked_5 ti xa xb it vs se rs wk n j t).2.2.2.2.2.2.1, (f_Mo_asked_5 ti xa xb it vs se rs wk n j t).2.2.2.2.2.2.2.1, (f_Mo_asked_5 ti xa xb it vs se rs wk n j t).2.2.2.2.2.2.2.2)) else ((0, (f_Mo_asked_5 ti xa xb it vs se rs wk n j t).2.1, (f_Mo_asked_5 ti xa xb it vs se rs wk n j t).2.2.1, (f_Mo_asked_5 ti xa xb it vs se rs wk n j t).2.2.2.1, (f_Mo_asked_5 ti xa xb it vs se rs wk n j t).2.2.2.2.1, (f_Mo_asked_5 ti xa xb it vs se rs wk n j t).2.2.2.2.2.1, (f_Mo_asked_5 ti xa xb it vs se rs wk n j t).2.2.2.2.2.2.1, (f_Mo_asked_5 ti xa xb it vs se rs wk n j t).2.2.2.2.2.2.2.1, (f_Mo_asked_5 ti xa xb it vs se rs wk n j t).2.2.2.2.2.2.2.2))
set_option maxHeartbeats 4000000 in
set_option maxRecDepth 100000 in
theorem m_Mo_result_5 (l : Launch) (D : va_G) (cI cJ cZ cO : ClassId) (a : Nat) (code : Int32) (kn : Nat → Int32) (ed : Nat → Int32) (ct : Nat → Int32) (ti : Nat → Int32) (nm : Nat → Int32) (xa : Nat → Int32) (xb : Nat → Int32) (ma : Int32) (it : Nat → Int32) (vs : Nat → Int32) (se : Nat → Int32) (sm : Int64) (rs : Nat → Int64) (wk : Nat → Int32) (ors : Nat → Int64) (owk : Nat → Int32) (n : Nat) (j : Nat) (t : Int32) (hj : j < 4) (hlk : (f_Mo_lacks kn j t).1 = 0) (hk : kn j = 6) (hct : ct j = nI n) (hn : n ≤ 32) (hop : ∀ i, i < n → (xa (32 * j + i) = nI (xa (32 * j + i)).toNatClampNeg ∧ (xa (32 * j + i)).toNatClampNeg < 16) ∧ (xb (32 * j + i) = nI (xb (32 * j + i)).toNatClampNeg ∧ (xb (32 * j + i)).toNatClampNeg < 16)) (R : Int64 × Int32 × Int32 × (Nat → Int32) × (Nat → Int32) × (Nat → Int32) × Int64 × (Nat → Int64) × (Nat → Int32)) (hR : f_Mo_result_5 ti xa xb it vs se rs wk n j t = R) : Met l y_Md_result (k_Md_result :: gt) rm_Md_result (Pc0 D cI cJ cZ cO [.ref a, .int (nI j), .int t] (fun H => va_P D cls (wMo cI cJ cZ a code kn ed ct ti nm xa xb ma it vs se sm rs wk ors owk) H)) (Qd (blk a 15) (some (.long R.1)) (fun H => va_P D cls (wMo cI cJ cZ a R.2.1 kn ed ct ti nm xa xb R.2.2.1 R.2.2.2.1 R.2.2.2.2.1 R.2.2.2.2.2.1 R.2.2.2.2.2.2.1 R.2.2.2.2.2.2.2.1 R.2.2.2.2.2.2.2.2 ors owk) H)) 0 0 (blk a 15) := by
  refine Met.ofW (cc := c_Md_result) (maxL := 4) (ret := (Option.some FieldType.long)) (by decide) rfl ?_
  intro p e s m args below meth c s₁ B hml hv
  obtain ⟨rfl, hKn, hP⟩ := hv
  have hx := B.exec
  have hb := B.bytes
  have hr := B.returns
  have hts := atoms_spec (ws := k_Md_result :: gt) B.pre
  have hg : ∀ w ∈ gt, w.before _ s = true := fun w h => hts w (List.mem_cons_of_mem _ h)
  have hown : s.vm.findClass R_Md = some m.cls := findClass_of_methodNamed B.named
  have hlocks := B.notSynchronized
  have hK := hKn.1
  have hl := lv_entry ([.ref a, .int (nI j), .int t]) (n := 4) (Nat.le_of_ble_eq_true rfl)
  rw [lg_entry_eq]
  generalize (lg_sl ([.ref a, .int (nI j), .int t]) ++ List.replicate (4 - (lg_sl ([.ref a, .int (nI j), .int t])).length) Slot.unset).toArray = ls at hl ⊢
  have hl : lv_has ls 4 [(0, .ref a), (1, .int (nI j)), (2, .int t)] := hl
  have hS : va_S (blk a 15) s.heap s.heap [] := va_S.rf
  have hD : va_D (blk a 15) (wMo cI cJ cZ a code kn ed ct ti nm xa xb ma it vs se sm rs wk ors owk) := (blk_D (wMo_in))
  have hR : (if ¬ (f_Mo_find ti n j t) = -1 then ((((f_Mo_asked_5 ti xa xb it vs se rs wk n j t).2.2.2.2.2.2.2.1) ((f_Mo_find ti n j t).toNatClampNeg), (f_Mo_asked_5 ti xa xb it vs se rs wk n j t).2.1, (f_Mo_asked_5 ti xa xb it vs se rs wk n j t).2.2.1, (f_Mo_asked_5 ti xa xb it vs se rs wk n j t).2.2.2.1, (f_Mo_asked_5 ti xa xb it vs se rs wk n j t).2.2.2.2.1, (f_Mo_asked_5 ti xa xb it vs se rs wk n j t).2.2.2.2.2.1, (f_Mo_asked_5 ti xa xb it vs se rs wk n j t).2.2.2.2.2.2.1, (f_Mo_asked_5 ti xa xb it vs se rs wk n j t).2.2.2.2.2.2.2.1, (f_Mo_asked_5 ti xa xb it vs se rs wk n j t).2.2.2.2.2.2.2.2)) else ((0, (f_Mo_asked_5 ti xa xb it vs se rs wk n j t).2.1, (f_Mo_asked_5 ti xa xb it vs se rs wk n j t).2.2.1, (f_Mo_asked_5 ti xa xb it vs se rs wk n j t).2.2.2.1, (f_Mo_asked_5 ti xa xb it vs se rs wk n j t).2.2.2.2.1, (f_Mo_asked_5 ti xa xb it vs se rs wk n j t).2.2.2.2.2.1, (f_Mo_asked_5 ti xa xb it vs se rs wk n j t).2.2.2.2.2.2.1, (f_Mo_asked_5 ti xa xb it vs se rs wk n j t).2.2.2.2.2.2.2.1, (f_Mo_asked_5 ti xa xb it vs se rs wk n j t).2.2.2.2.2.2.2.2))) = R := hR
  refine lv_aload_n hx hb d_Md_result_0 rfl (lv_at hl 0 rfl) ?_
  refine lv_iload_n hx hb d_Md_result_1 rfl (lv_at hl 1 rfl) ?_
  refine lv_iload_n hx hb d_Md_result_2 rfl (lv_at hl 2 rfl) ?_
  refine ep_callH (W.runV (As := [.int (nI j), .int t]) (rest := []) ⟨hx, hb, hml, hown, hg⟩ (m_Mo_asked_5 l D cI cJ cZ cO a code kn ed ct ti nm xa xb ma it vs se sm rs wk ors owk n j t (by omega) hlk hk hct (by omega) hop _ rfl) (ep_cwV 2 hg tw_884 tw_886 ts_24 tw_12 tk_Md_asked rfl rfl (by decide +kernel) ⟨(Nat.le_of_ble_eq_true rfl), (Nat.le_of_ble_eq_true rfl)⟩) ⟨ep_blind, va_recv (q0 := 0) (ci := 9) hK hP rfl rfl, ep_pre hKn (hP)⟩ rfl rfl hl.1 rfl (lv_room (Nat.le_of_ble_eq_true rfl)) d_Md_result_3 ⟨Nat.zero_le _, Nat.zero_le _⟩) hS (fun q h => h) (fun H locs hsz9 hk1 hP1 hS => ?_)
  refine W.eq (g2 := F0 m 6 ls [.int ((f_Mo_asked_5 ti xa xb it vs se rs wk n j t).1)]) rfl ?_
  have hP : va_P D cls (wMo cI cJ cZ a ((f_Mo_asked_5 ti xa xb it vs se rs wk n j t).2.1) kn ed ct ti nm xa xb ((f_Mo_asked_5 ti xa xb it vs se rs wk n j t).2.2.1) ((f_Mo_asked_5 ti xa xb it vs se rs wk n j t).2.2.2.1) ((f_Mo_asked_5 ti xa xb it vs se rs wk n j t).2.2.2.2.1) ((f_Mo_asked_5 ti xa xb it vs se rs wk n j t).2.2.2.2.2.1) ((f_Mo_asked_5 ti xa xb it vs se rs wk n j t).2.2.2.2.2.2.1) ((f_Mo_asked_5 ti xa xb it vs se rs wk n j t).2.2.2.2.2.2.2.1) ((f_Mo_asked_5 ti xa xb it vs se rs wk n j t).2.2.2.2.2.2.2.2) ors owk) H := hP1
  have hD : va_D (blk a 15) (wMo cI cJ cZ a ((f_Mo_asked_5 ti xa xb it vs se rs wk n j t).2.1) kn ed ct ti nm xa xb ((f_Mo_asked_5 ti xa xb it vs se rs wk n j t).2.2.1) ((f_Mo_asked_5 ti xa xb it vs se rs wk n j t).2.2.2.1) ((f_Mo_asked_5 ti xa xb it vs se rs wk n j t).2.2.2.2.1) ((f_Mo_asked_5 ti xa xb it vs se rs wk n j t).2.2.2.2.2.1) ((f_Mo_asked_5 ti xa xb it vs se rs wk n j t).2.2.2.2.2.2.1) ((f_Mo_asked_5 ti xa xb it vs se rs wk n j t).2.2.2.2.2.2.2.1) ((f_Mo_asked_5 ti xa xb it vs se rs wk n j t).2.2.2.2.2.2.2.2) ors owk) := (blk_D (wMo_in))
  refine lv_topi (fun z8 e_z8 => ?_)
  obtain rfl : z8 = oI (¬ (f_Mo_find ti n j t) = -1) ((f_Mo_find ti n j t).toNatClampNeg) := by rw [e_z8]; exact (asked_fi_5 _ _ _ _ _ _ _ _ _ _ _)
  by_cases hc1 : ¬ (f_Mo_find ti n j t) = -1
  · rw [show oI (¬ (f_Mo_find ti n j t) = -1) ((f_Mo_find ti n j t).toNatClampNeg) = nI ((f_Mo_find ti n j t).toNatClampNeg) from if_pos hc1]
    have hp9 : ((f_Mo_find ti n j t)).toNatClampNeg < n := fi_lt _ _ _ _ (by omega) hc1
    refine lv_istore_n (lv' := [(3, .int (nI ((f_Mo_find ti n j t).toNatClampNeg))), (0, .ref a), (1, .int (nI j)), (2, .int t)]) hx hb d_Md_result_6 rfl hl (by decide) rfl (fun ls hl => ?_)
    refine lv_iload_n hx hb d_Md_result_7 rfl (lv_at hl 0 rfl) ?_
    refine lv_if_ge (tgt := 15) hx hb d_Md_result_8 (by decide) (fun hc => ?_) (fun hc => False.elim (by have hc : ¬ (0 ≤ (f_Mo_find ti n j t).toNatClampNeg) := fun h => hc (by exact (nI_leI (a := 0) (b := (f_Mo_find ti n j t).toNatClampNeg) (by omega) (by omega)).mpr h); omega))
    refine lv_aload_n hx hb d_Md_result_15 rfl (lv_at hl 1 rfl) ?_
    refine va_get (D := D) (ci := 9) (v := .ref (a + 11)) (C := R_Md) (T := F_Md) (N := 17) hx hb hg in_Md hown hK hP 0 rfl rfl 13 (Nat.le_of_ble_eq_true rfl) (hg _ tw_719) (fun _ h9 => h9) rfl d_Md_result_16 ?_
    refine lv_iload_n hx hb d_Md_result_19 rfl (lv_at hl 0 rfl) ?_
    refine ep_lald hx hb hK hP 11 1 rfl rfl (i := ((f_Mo_find ti n j t).toNatClampNeg)) (by omega) (by decide) d_Md_result_20 ?_
    rw [if_pos hc1] at hR
    subst hR
    exact W.lret (v := (((f_Mo_asked_5 ti xa xb it vs se rs wk n j t).2.2.2.2.2.2.2.1) ((f_Mo_find ti n j t).toNatClampNeg))) hx hb hr (fun t9 ht hW => ⟨rfl, hS.F ht, by rw [ht]; exact hP⟩) hS.2.2 d_Md_result_21
  · rw [show oI (¬ (f_Mo_find ti n j t) = -1) ((f_Mo_find ti n j t).toNatClampNeg) = -1 from if_neg hc1]
    refine lv_istore_n (lv' := [(3, .int (-1)), (0, .ref a), (1, .int (nI j)), (2, .int t)]) hx hb d_Md_result_6 rfl hl (by decide) rfl (fun ls hl => ?_)
    refine lv_iload_n hx hb d_Md_result_7 rfl (lv_at hl 0 rfl) ?_
    refine lv_if_ge (tgt := 15) hx hb d_Md_result_8 (by decide) (fun hc => False.elim (by revert hc; decide)) (fun hc => ?_)
    refine lv_lconst (v := 0) hx hb d_Md_result_11 (by decide) ?_
    refine lv_goto (tgt := 21) hx hb d_Md_result_12 (by decide) ?_
    rw [if_neg hc1] at hR
    subst hR
    exact W.lret (v := 0) hx hb hr (fun t9 ht hW => ⟨rfl, hS.F ht, by rw [ht]; exact hP⟩) hS.2.2 d_Md_result_21

def f_Mo_works_e (kn : Nat → Int32) (j : Nat) (t : Int32) : Int32 := (f_Mo_asked_e kn j t)
set_option maxHeartbeats 4000000 in
set_option maxRecDepth 100000 in
theorem m_Mo_works_e (l : Launch) (D : va_G) (cI cJ cZ cO : ClassId) (a : Nat) (code : Int32) (kn : Nat → Int32) (ed : Nat → Int32) (ct : Nat → Int32) (ti : Nat → Int32) (nm : Nat → Int32) (xa : Nat → Int32) (xb : Nat → Int32) (ma : Int32) (it : Nat → Int32) (vs : Nat → Int32) (se : Nat → Int32) (sm : Int64) (rs : Nat → Int64) (wk : Nat → Int32) (ors : Nat → Int64) (owk : Nat → Int32) (j : Nat) (t : Int32) (hj : j < 4) (hlk : ¬ (f_Mo_lacks kn j t).1 = 0) (R : Int32) (hR : f_Mo_works_e kn j t = R) : Met l y_Md_works (k_Md_works :: gt) rm_Md_works (Pc0 D cI cJ cZ cO [.ref a, .int (nI j), .int t] (fun H => va_P D cls (wMo cI cJ cZ a code kn ed ct ti nm xa xb ma it vs se sm rs wk ors owk) H)) (Qd (blk a 15) (some (.int 0)) (fun H => va_P D cls (wMo cI cJ cZ a R kn ed ct ti nm xa xb ma it vs se sm rs wk ors owk) H)) 0 0 (blk a 15) := by
  refine Met.ofW (cc := c_Md_works) (maxL := 4) (ret := (Option.some FieldType.boolean)) (by decide) rfl ?_
  intro p e s m args below meth c s₁ B hml hv
  obtain ⟨rfl, hKn, hP⟩ := hv
  have hx := B.exec
  have hb := B.bytes
  have hr := B.returns
  have hts := atoms_spec (ws := k_Md_works :: gt) B.pre
  have hg : ∀ w ∈ gt, w.before _ s = true := fun w h => hts w (List.mem_cons_of_mem _ h)
  have hown : s.vm.findClass R_Md = some m.cls := findClass_of_methodNamed B.named
  have hlocks := B.notSynchronized
  have hK := hKn.1
  have hl := lv_entry ([.ref a, .int (nI j), .int t]) (n := 4) (Nat.le_of_ble_eq_true rfl)
  rw [lg_entry_eq]
  generalize (lg_sl ([.ref a, .int (nI j), .int t]) ++ List.replicate (4 - (lg_sl ([.ref a, .int (nI j), .int t])).length) Slot.unset).toArray = ls at hl ⊢
  have hl : lv_has ls 4 [(0, .ref a), (1, .int (nI j)), (2, .int t)] := hl
  have hS : va_S (blk a 15) s.heap s.heap [] := va_S.rf
  have hD : va_D (blk a 15) (wMo cI cJ cZ a code kn ed ct ti nm xa xb ma it vs se sm rs wk ors owk) := (blk_D (wMo_in))
  have hR : ((f_Mo_asked_e kn j t)) = R := hR
  refine lv_aload_n hx hb d_Md_works_0 rfl (lv_at hl 0 rfl) ?_
  refine lv_iload_n hx hb d_Md_works_1 rfl (lv_at hl 1 rfl) ?_
  refine lv_iload_n hx hb d_Md_works_2 rfl (lv_at hl 2 rfl) ?_
  refine ep_callH (W.runV (As := [.int (nI j), .int t]) (rest := []) ⟨hx, hb, hml, hown, hg⟩ (m_Mo_asked_e l D cI cJ cZ cO a code kn ed ct ti nm xa xb ma it vs se sm rs wk ors owk j t (by omega) hlk _ rfl) (ep_cwV 2 hg tw_884 tw_886 ts_24 tw_12 tk_Md_asked rfl rfl (by decide +kernel) ⟨(Nat.le_of_ble_eq_true rfl), (Nat.le_of_ble_eq_true rfl)⟩) ⟨ep_blind, va_recv (q0 := 0) (ci := 9) hK hP rfl rfl, ep_pre hKn (hP)⟩ rfl rfl hl.1 rfl (lv_room (Nat.le_of_ble_eq_true rfl)) d_Md_works_3 ⟨Nat.zero_le _, Nat.zero_le _⟩) hS (fun q h => h) (fun H locs hsz9 hk1 hP1 hS => ?_)
  refine W.eq (g2 := F0 m 6 ls [.int (-1)]) rfl ?_
  have hP : va_P D cls (wMo cI cJ cZ a (f_Mo_asked_e kn j t) kn ed ct ti nm xa xb ma it vs se sm rs wk ors owk) H := hP1
  have hD : va_D (blk a 15) (wMo cI cJ cZ a (f_Mo_asked_e kn j t) kn ed ct ti nm xa xb ma it vs se sm rs wk ors owk) := (blk_D (wMo_in))
  refine lv_istore_n (lv' := [(3, .int (-1)), (0, .ref a), (1, .int (nI j)), (2, .int t)]) hx hb d_Md_works_6 rfl hl (by decide) rfl (fun ls hl => ?_)
  refine lv_iload_n hx hb d_Md_works_7 rfl (lv_at hl 0 rfl) ?_
  refine lv_if_lt (tgt := 24) hx hb d_Md_works_8 (by decide) (fun hc => ?_) (fun hc => False.elim (by revert hc; decide))
  refine lv_iconst (v := 0) hx hb d_Md_works_24 (by decide) ?_
  subst hR
  exact W.zret (v := 0) hx hb hr (by decide) (fun t9 ht hW => ⟨rfl, hS.F ht, by rw [ht]; exact hP⟩) hS.2.2 d_Md_works_25

def f_Mo_works_b  : Int32 := f_Mo_asked_b
set_option maxHeartbeats 4000000 in
set_option maxRecDepth 100000 in
theorem m_Mo_works_b (l : Launch) (D : va_G) (cI cJ cZ cO : ClassId) (a : Nat) (code : Int32) (kn : Nat → Int32) (ed : Nat → Int32) (ct : Nat → Int32) (ti : Nat → Int32) (nm : Nat → Int32) (xa : Nat → Int32) (xb : Nat → Int32) (ma : Int32) (it : Nat → Int32) (vs : Nat → Int32) (se : Nat → Int32) (sm : Int64) (rs : Nat → Int64) (wk : Nat → Int32) (ors : Nat → Int64) (owk : Nat → Int32) (id : Int32) (t : Int32) (hid : ¬ okI id) (R : Int32) (hR : f_Mo_works_b = R) : Met l y_Md_works (k_Md_works :: gt) rm_Md_works (Pc0 D cI cJ cZ cO [.ref a, .int id, .int t] (fun H => va_P D cls (wMo cI cJ cZ a code kn ed ct ti nm xa xb ma it vs se sm rs wk ors owk) H)) (Qd (blk a 15) (some (.int 0)) (fun H => va_P D cls (wMo cI cJ cZ a R kn ed ct ti nm xa xb ma it vs se sm rs wk ors owk) H)) 0 0 (blk a 15) := by
  refine Met.ofW (cc := c_Md_works) (maxL := 4) (ret := (Option.some FieldType.boolean)) (by decide) rfl ?_
  intro p e s m args below meth c s₁ B hml hv
  obtain ⟨rfl, hKn, hP⟩ := hv
  have hx := B.exec
  have hb := B.bytes
  have hr := B.returns
  have hts := atoms_spec (ws := k_Md_works :: gt) B.pre
  have hg : ∀ w ∈ gt, w.before _ s = true := fun w h => hts w (List.mem_cons_of_mem _ h)
  have hown : s.vm.findClass R_Md = some m.cls := findClass_of_methodNamed B.named
  have hlocks := B.notSynchronized
  have hK := hKn.1
  have hl := lv_entry ([.ref a, .int id, .int t]) (n := 4) (Nat.le_of_ble_eq_true rfl)
  rw [lg_entry_eq]
  generalize (lg_sl ([.ref a, .int id, .int t]) ++ List.replicate (4 - (lg_sl ([.ref a, .int id, .int t])).length) Slot.unset).toArray = ls at hl ⊢
  have hl : lv_has ls 4 [(0, .ref a), (1, .int id), (2, .int t)] := hl
  have hS : va_S (blk a 15) s.heap s.heap [] := va_S.rf
  have hD : va_D (blk a 15) (wMo cI cJ cZ a code kn ed ct ti nm xa xb ma it vs se sm rs wk ors owk) := (blk_D (wMo_in))
  have hR : (f_Mo_asked_b) = R := hR
  refine lv_aload_n hx hb d_Md_works_0 rfl (lv_at hl 0 rfl) ?_
  refine lv_iload_n hx hb d_Md_works_1 rfl (lv_at hl 1 rfl) ?_
  refine lv_iload_n hx hb d_Md_works_2 rfl (lv_at hl 2 rfl) ?_
  refine ep_callH (W.runV (As := [.int id, .int t]) (rest := []) ⟨hx, hb, hml, hown, hg⟩ (m_Mo_asked_b l D cI cJ cZ cO a code kn ed ct ti nm xa xb ma it vs se sm rs wk ors owk id t hid _ rfl) (ep_cwV 2 hg tw_884 tw_886 ts_24 tw_12 tk_Md_asked rfl rfl (by decide +kernel) ⟨(Nat.le_of_ble_eq_true rfl), (Nat.le_of_ble_eq_true rfl)⟩) ⟨ep_blind, va_recv (q0 := 0) (ci := 9) hK hP rfl rfl, ep_pre hKn (hP)⟩ rfl rfl hl.1 rfl (lv_room (Nat.le_of_ble_eq_true rfl)) d_Md_works_3 ⟨Nat.zero_le _, Nat.zero_le _⟩) hS (fun q h => h) (fun H locs hsz9 hk1 hP1 hS => ?_)
  refine W.eq (g2 := F0 m 6 ls [.int (-1)]) rfl ?_
  have hP : va_P D cls (wMo cI cJ cZ a f_Mo_asked_b kn ed ct ti nm xa xb ma it vs se sm rs wk ors owk) H := hP1
  have hD : va_D (blk a 15) (wMo cI cJ cZ a f_Mo_asked_b kn ed ct ti nm xa xb ma it vs se sm rs wk ors owk) := (blk_D (wMo_in))
  refine lv_istore_n (lv' := [(3, .int (-1)), (0, .ref a), (1, .int id), (2, .int t)]) hx hb d_Md_works_6 rfl hl (by decide) rfl (fun ls hl => ?_)
  refine lv_iload_n hx hb d_Md_works_7 rfl (lv_at hl 0 rfl) ?_
  refine lv_if_lt (tgt := 24) hx hb d_Md_works_8 (by decide) (fun hc => ?_) (fun hc => False.elim (by revert hc; decide))
  refine lv_iconst (v := 0) hx hb d_Md_works_24 (by decide) ?_
  subst hR
  exact W.zret (v := 0) hx hb hr (by decide) (fun t9 ht hW => ⟨rfl, hS.F ht, by rw [ht]; exact hP⟩) hS.2.2 d_Md_works_25

def f_Mo_works_0 (ti : Nat → Int32) (nm : Nat → Int32) (xa : Nat → Int32) (it : Nat → Int32) (vs : Nat → Int32) (se : Nat → Int32) (rs : Nat → Int64) (wk : Nat → Int32) (n : Nat) (j : Nat) (t : Int32) : Int32 × Int32 × Nat × (Nat → Int32) × (Nat → Int32) × (Nat → Int32) × Int64 × (Nat → Int64) × (Nat → Int32) := if ¬ (f_Mo_find ti n j t) = -1 then (if (((f_Mo_asked_0 ti nm xa it vs se rs wk n j t).2.2.2.2.2.2.2.2) ((f_Mo_find ti n j t).toNatClampNeg)) = 0 then ((0, (f_Mo_asked_0 ti nm xa it vs se rs wk n j t).2.1, (f_Mo_asked_0 ti nm xa it vs se rs wk n j t).2.2.1, (f_Mo_asked_0 ti nm xa it vs se rs wk n j t).2.2.2.1, (f_Mo_asked_0 ti nm xa it vs se rs wk n j t).2.2.2.2.1, (f_Mo_asked_0 ti nm xa it vs se rs wk n j t).2.2.2.2.2.1, (f_Mo_asked_0 ti nm xa it vs se rs wk n j t).2.2.2.2.2.2.1, (f_Mo_asked_0 ti nm xa it vs se rs wk n j t).2.2.2.2.2.2.2.1, (f_Mo_asked_0 ti nm xa it vs se rs wk n j t).2.2.2.2.2.2.2.2)) else ((1, (f_Mo_asked_0 ti nm xa it vs se rs wk n j t).2.1, (f_Mo_asked_0 ti nm xa it vs se rs wk n j t).2.2.1, (f_Mo_asked_0 ti nm xa it vs se rs wk n j t).2.2.2.1, (f_Mo_asked_0 ti nm xa it vs se rs wk n j t).2.2.2.2.1, (f_Mo_asked_0 ti nm xa it vs se rs wk n j t).2.2.2.2.2.1, (f_Mo_asked_0 ti nm xa it vs se rs wk n j t).2.2.2.2.2.2.1, (f_Mo_asked_0 ti nm xa it vs se rs wk n j t).2.2.2.2.2.2.2.1, (f_Mo_asked_0 ti nm xa it vs se rs wk n j t).2.2.2.2.2.2.2.2))) else ((0, (f_Mo_asked_0 ti nm xa it vs se rs wk n j t).2.1, (f_Mo_asked_0 ti nm xa it vs se rs wk n j t).2.2.1, (f_Mo_asked_0 ti nm xa it vs se rs wk n j t).2.2.2.1, (f_Mo_asked_0 ti nm xa it vs se rs wk n j t).2.2.2.2.1, (f_Mo_asked_0 ti nm xa it vs se rs wk n j t).2.2.2.2.2.1, (f_Mo_asked_0 ti nm xa it vs se rs wk n j t).2.2.2.2.2.2.1, (f_Mo_asked_0 ti nm xa it vs se rs wk n j t).2.2.2.2.2.2.2.1, (f_Mo_asked_0 ti nm xa it vs se rs wk n j t).2.2.2.2.2.2.2.2))
set_option maxHeartbeats 4000000 in
set_option maxRecDepth 100000 in
theorem m_Mo_works_0 (l : Launch) (D : va_G) (cI cJ cZ cO : ClassId) (a : Nat) (code : Int32) (kn : Nat → Int32) (ed : Nat → Int32) (ct : Nat → Int32) (ti : Nat → Int32) (nm : Nat → Int32) (xa : Nat → Int32) (xb : Nat → Int32) (ma : Int32) (it : Nat → Int32) (vs : Nat → Int32) (se : Nat → Int32) (sm : Int64) (rs : Nat → Int64) (wk : Nat → Int32) (ors : Nat → Int64) (owk : Nat → Int32) (n : Nat) (j : Nat) (t : Int32) (hj : j < 4) (hlk : (f_Mo_lacks kn j t).1 = 0) (hk : kn j = 1) (hct : ct j = nI n) (hn : n ≤ 32) (R : Int32 × Int32 × Nat × (Nat → Int32) × (Nat → Int32) × (Nat → Int32) × Int64 × (Nat → Int64) × (Nat → Int32)) (hR : f_Mo_works_0 ti nm xa it vs se rs wk n j t = R) : Met l y_Md_works (k_Md_works :: gt) rm_Md_works (Pc0 D cI cJ cZ cO [.ref a, .int (nI j), .int t] (fun H => va_P D cls (wMo cI cJ cZ a code kn ed ct ti nm xa xb ma it vs se sm rs wk ors owk) H)) (Qd (blk a 15) (some (.int R.1)) (fun H => va_P D cls (wMo cI cJ cZ a R.2.1 kn ed ct ti nm xa xb (nI R.2.2.1) R.2.2.2.1 R.2.2.2.2.1 R.2.2.2.2.2.1 R.2.2.2.2.2.2.1 R.2.2.2.2.2.2.2.1 R.2.2.2.2.2.2.2.2 ors owk) H)) 0 0 (blk a 15) := by
  refine Met.ofW (cc := c_Md_works) (maxL := 4) (ret := (Option.some FieldType.boolean)) (by decide) rfl ?_
  intro p e s m args below meth c s₁ B hml hv
  obtain ⟨rfl, hKn, hP⟩ := hv
  have hx := B.exec
  have hb := B.bytes
  have hr := B.returns
  have hts := atoms_spec (ws := k_Md_works :: gt) B.pre
  have hg : ∀ w ∈ gt, w.before _ s = true := fun w h => hts w (List.mem_cons_of_mem _ h)
  have hown : s.vm.findClass R_Md = some m.cls := findClass_of_methodNamed B.named
  have hlocks := B.notSynchronized
  have hK := hKn.1
  have hl := lv_entry ([.ref a, .int (nI j), .int t]) (n := 4) (Nat.le_of_ble_eq_true rfl)
  rw [lg_entry_eq]
  generalize (lg_sl ([.ref a, .int (nI j), .int t]) ++ List.replicate (4 - (lg_sl ([.ref a, .int (nI j), .int t])).length) Slot.unset).toArray = ls at hl ⊢
  have hl : lv_has ls 4 [(0, .ref a), (1, .int (nI j)), (2, .int t)] := hl
  have hS : va_S (blk a 15) s.heap s.heap [] := va_S.rf
  have hD : va_D (blk a 15) (wMo cI cJ cZ a code kn ed ct ti nm xa xb ma it vs se sm rs wk ors owk) := (blk_D (wMo_in))
  have hR : (if ¬ (f_Mo_find ti n j t) = -1 then (if (((f_Mo_asked_0 ti nm xa it vs se rs wk n j t).2.2.2.2.2.2.2.2) ((f_Mo_find ti n j t).toNatClampNeg)) = 0 then ((0, (f_Mo_asked_0 ti nm xa it vs se rs wk n j t).2.1, (f_Mo_asked_0 ti nm xa it vs se rs wk n j t).2.2.1, (f_Mo_asked_0 ti nm xa it vs se rs wk n j t).2.2.2.1, (f_Mo_asked_0 ti nm xa it vs se rs wk n j t).2.2.2.2.1, (f_Mo_asked_0 ti nm xa it vs se rs wk n j t).2.2.2.2.2.1, (f_Mo_asked_0 ti nm xa it vs se rs wk n j t).2.2.2.2.2.2.1, (f_Mo_asked_0 ti nm xa it vs se rs wk n j t).2.2.2.2.2.2.2.1, (f_Mo_asked_0 ti nm xa it vs se rs wk n j t).2.2.2.2.2.2.2.2)) else ((1, (f_Mo_asked_0 ti nm xa it vs se rs wk n j t).2.1, (f_Mo_asked_0 ti nm xa it vs se rs wk n j t).2.2.1, (f_Mo_asked_0 ti nm xa it vs se rs wk n j t).2.2.2.1, (f_Mo_asked_0 ti nm xa it vs se rs wk n j t).2.2.2.2.1, (f_Mo_asked_0 ti nm xa it vs se rs wk n j t).2.2.2.2.2.1, (f_Mo_asked_0 ti nm xa it vs se rs wk n j t).2.2.2.2.2.2.1, (f_Mo_asked_0 ti nm xa it vs se rs wk n j t).2.2.2.2.2.2.2.1, (f_Mo_asked_0 ti nm xa it vs se rs wk n j t).2.2.2.2.2.2.2.2))) else ((0, (f_Mo_asked_0 ti nm xa it vs se rs wk n j t).2.1, (f_Mo_asked_0 ti nm xa it vs se rs wk n j t).2.2.1, (f_Mo_asked_0 ti nm xa it vs se rs wk n j t).2.2.2.1, (f_Mo_asked_0 ti nm xa it vs se rs wk n j t).2.2.2.2.1, (f_Mo_asked_0 ti nm xa it vs se rs wk n j t).2.2.2.2.2.1, (f_Mo_asked_0 ti nm xa it vs se rs wk n j t).2.2.2.2.2.2.1, (f_Mo_asked_0 ti nm xa it vs se rs wk n j t).2.2.2.2.2.2.2.1, (f_Mo_asked_0 ti nm xa it vs se rs wk n j t).2.2.2.2.2.2.2.2))) = R := hR
  refine lv_aload_n hx hb d_Md_works_0 rfl (lv_at hl 0 rfl) ?_
  refine lv_iload_n hx hb d_Md_works_1 rfl (lv_at hl 1 rfl) ?_
  refine lv_iload_n hx hb d_Md_works_2 rfl (lv_at hl 2 rfl) ?_
  refine ep_callH (W.runV (As := [.int (nI j), .int t]) (rest := []) ⟨hx, hb, hml, hown, hg⟩ (m_Mo_asked_0 l D cI cJ cZ cO a code kn ed ct ti nm xa xb ma it vs se sm rs wk ors owk n j t (by omega) hlk hk hct (by omega) _ rfl) (ep_cwV 2 hg tw_884 tw_886 ts_24 tw_12 tk_Md_asked rfl rfl (by decide +kernel) ⟨(Nat.le_of_ble_eq_true rfl), (Nat.le_of_ble_eq_true rfl)⟩) ⟨ep_blind, va_recv (q0 := 0) (ci := 9) hK hP rfl rfl, ep_pre hKn (hP)⟩ rfl rfl hl.1 rfl (lv_room (Nat.le_of_ble_eq_true rfl)) d_Md_works_3 ⟨Nat.zero_le _, Nat.zero_le _⟩) hS (fun q h => h) (fun H locs hsz9 hk1 hP1 hS => ?_)
  refine W.eq (g2 := F0 m 6 ls [.int ((f_Mo_asked_0 ti nm xa it vs se rs wk n j t).1)]) rfl ?_
  have hP : va_P D cls (wMo cI cJ cZ a ((f_Mo_asked_0 ti nm xa it vs se rs wk n j t).2.1) kn ed ct ti nm xa xb (nI ((f_Mo_asked_0 ti nm xa it vs se rs wk n j t).2.2.1)) ((f_Mo_asked_0 ti nm xa it vs se rs wk n j t).2.2.2.1) ((f_Mo_asked_0 ti nm xa it vs se rs wk n j t).2.2.2.2.1) ((f_Mo_asked_0 ti nm xa it vs se rs wk n j t).2.2.2.2.2.1) ((f_Mo_asked_0 ti nm xa it vs se rs wk n j t).2.2.2.2.2.2.1) ((f_Mo_asked_0 ti nm xa it vs se rs wk n j t).2.2.2.2.2.2.2.1) ((f_Mo_asked_0 ti nm xa it vs se rs wk n j t).2.2.2.2.2.2.2.2) ors owk) H := hP1
  have hD : va_D (blk a 15) (wMo cI cJ cZ a ((f_Mo_asked_0 ti nm xa it vs se rs wk n j t).2.1) kn ed ct ti nm xa xb (nI ((f_Mo_asked_0 ti nm xa it vs se rs wk n j t).2.2.1)) ((f_Mo_asked_0 ti nm xa it vs se rs wk n j t).2.2.2.1) ((f_Mo_asked_0 ti nm xa it vs se rs wk n j t).2.2.2.2.1) ((f_Mo_asked_0 ti nm xa it vs se rs wk n j t).2.2.2.2.2.1) ((f_Mo_asked_0 ti nm xa it vs se rs wk n j t).2.2.2.2.2.2.1) ((f_Mo_asked_0 ti nm xa it vs se rs wk n j t).2.2.2.2.2.2.2.1) ((f_Mo_asked_0 ti nm xa it vs se rs wk n j t).2.2.2.2.2.2.2.2) ors owk) := (blk_D (wMo_in))
  refine lv_topi (fun z8 e_z8 => ?_)
  obtain rfl : z8 = oI (¬ (f_Mo_find ti n j t) = -1) ((f_Mo_find ti n j t).toNatClampNeg) := by rw [e_z8]; exact (asked_fi_0 _ _ _ _ _ _ _ _ _ _ _)
  by_cases hc1 : ¬ (f_Mo_find ti n j t) = -1
  · rw [show oI (¬ (f_Mo_find ti n j t) = -1) ((f_Mo_find ti n j t).toNatClampNeg) = nI ((f_Mo_find ti n j t).toNatClampNeg) from if_pos hc1]
    have hp9 : ((f_Mo_find ti n j t)).toNatClampNeg < n := fi_lt _ _ _ _ (by omega) hc1
    refine lv_istore_n (lv' := [(3, .int (nI ((f_Mo_find ti n j t).toNatClampNeg))), (0, .ref a), (1, .int (nI j)), (2, .int t)]) hx hb d_Md_works_6 rfl hl (by decide) rfl (fun ls hl => ?_)
    refine lv_iload_n hx hb d_Md_works_7 rfl (lv_at hl 0 rfl) ?_
    refine lv_if_lt (tgt := 24) hx hb d_Md_works_8 (by decide) (fun hc => False.elim (by have hc := (nI_ltI (a := (f_Mo_find ti n j t).toNatClampNeg) (b := 0) (by omega) (by omega)).mp hc; omega)) (fun hc => ?_)
    refine lv_aload_n hx hb d_Md_works_11 rfl (lv_at hl 1 rfl) ?_
    refine va_get (D := D) (ci := 9) (v := .ref (a + 12)) (C := R_Md) (T := F_Md) (N := 17) hx hb hg in_Md hown hK hP 0 rfl rfl 14 (Nat.le_of_ble_eq_true rfl) (hg _ tw_720) (fun _ h9 => h9) rfl d_Md_works_12 ?_
    refine lv_iload_n hx hb d_Md_works_15 rfl (lv_at hl 0 rfl) ?_
    refine ep_zald hx hb hK hP 12 2 rfl rfl (i := ((f_Mo_find ti n j t).toNatClampNeg)) (by omega) (by decide) d_Md_works_16 ?_
    refine lv_if_eq (tgt := 24) hx hb d_Md_works_17 (by decide) (fun hc2 => ?_) (fun hc2 => ?_)
    · have hc2 : (((f_Mo_asked_0 ti nm xa it vs se rs wk n j t).2.2.2.2.2.2.2.2) ((f_Mo_find ti n j t).toNatClampNeg)) = 0 := hc2
      refine lv_iconst (v := 0) hx hb d_Md_works_24 (by decide) ?_
      rw [if_pos hc1, if_pos hc2] at hR
      subst hR
      exact W.zret (v := 0) hx hb hr (by decide) (fun t9 ht hW => ⟨rfl, hS.F ht, by rw [ht]; exact hP⟩) hS.2.2 d_Md_works_25
    · have hc2 : ¬ ((((f_Mo_asked_0 ti nm xa it vs se rs wk n j t).2.2.2.2.2.2.2.2) ((f_Mo_find ti n j t).toNatClampNeg)) = 0) := hc2
      refine lv_iconst (v := 1) hx hb d_Md_works_20 (by decide) ?_
      refine lv_goto (tgt := 25) hx hb d_Md_works_21 (by decide) ?_
      rw [if_pos hc1, if_neg hc2] at hR
      subst hR
      exact W.zret (v := 1) hx hb hr (by decide) (fun t9 ht hW => ⟨rfl, hS.F ht, by rw [ht]; exact hP⟩) hS.2.2 d_Md_works_25
  · rw [show oI (¬ (f_Mo_find ti n j t) = -1) ((f_Mo_find ti n j t).toNatClampNeg) = -1 from if_neg hc1]
    refine lv_istore_n (lv' := [(3, .int (-1)), (0, .ref a), (1, .int (nI j)), (2, .int t)]) hx hb d_Md_works_6 rfl hl (by decide) rfl (fun ls hl => ?_)
    refine lv_iload_n hx hb d_Md_works_7 rfl (lv_at hl 0 rfl) ?_
    refine lv_if_lt (tgt := 24) hx hb d_Md_works_8 (by decide) (fun hc => ?_) (fun hc => False.elim (by revert hc; decide))
    refine lv_iconst (v := 0) hx hb d_Md_works_24 (by decide) ?_
    rw [if_neg hc1] at hR
    subst hR
    exact W.zret (v := 0) hx hb hr (by decide) (fun t9 ht hW => ⟨rfl, hS.F ht, by rw [ht]; exact hP⟩) hS.2.2 d_Md_works_25

def f_Mo_works_1 (ti : Nat → Int32) (nm : Nat → Int32) (xa : Nat → Int32) (it : Nat → Int32) (vs : Nat → Int32) (se : Nat → Int32) (rs : Nat → Int64) (wk : Nat → Int32) (n : Nat) (j : Nat) (t : Int32) : Int32 × Int32 × Nat × (Nat → Int32) × (Nat → Int32) × (Nat → Int32) × Int64 × (Nat → Int64) × (Nat → Int32) := if ¬ (f_Mo_find ti n j t) = -1 then (if (((f_Mo_asked_1 ti nm xa it vs se rs wk n j t).2.2.2.2.2.2.2.2) ((f_Mo_find ti n j t).toNatClampNeg)) = 0 then ((0, (f_Mo_asked_1 ti nm xa it vs se rs wk n j t).2.1, (f_Mo_asked_1 ti nm xa it vs se rs wk n j t).2.2.1, (f_Mo_asked_1 ti nm xa it vs se rs wk n j t).2.2.2.1, (f_Mo_asked_1 ti nm xa it vs se rs wk n j t).2.2.2.2.1, (f_Mo_asked_1 ti nm xa it vs se rs wk n j t).2.2.2.2.2.1, (f_Mo_asked_1 ti nm xa it vs se rs wk n j t).2.2.2.2.2.2.1, (f_Mo_asked_1 ti nm xa it vs se rs wk n j t).2.2.2.2.2.2.2.1, (f_Mo_asked_1 ti nm xa it vs se rs wk n j t).2.2.2.2.2.2.2.2)) else ((1, (f_Mo_asked_1 ti nm xa it vs se rs wk n j t).2.1, (f_Mo_asked_1 ti nm xa it vs se rs wk n j t).2.2.1, (f_Mo_asked_1 ti nm xa it vs se rs wk n j t).2.2.2.1, (f_Mo_asked_1 ti nm xa it vs se rs wk n j t).2.2.2.2.1, (f_Mo_asked_1 ti nm xa it vs se rs wk n j t).2.2.2.2.2.1, (f_Mo_asked_1 ti nm xa it vs se rs wk n j t).2.2.2.2.2.2.1, (f_Mo_asked_1 ti nm xa it vs se rs wk n j t).2.2.2.2.2.2.2.1, (f_Mo_asked_1 ti nm xa it vs se rs wk n j t).2.2.2.2.2.2.2.2))) else ((0, (f_Mo_asked_1 ti nm xa it vs se rs wk n j t).2.1, (f_Mo_asked_1 ti nm xa it vs se rs wk n j t).2.2.1, (f_Mo_asked_1 ti nm xa it vs se rs wk n j t).2.2.2.1, (f_Mo_asked_1 ti nm xa it vs se rs wk n j t).2.2.2.2.1, (f_Mo_asked_1 ti nm xa it vs se rs wk n j t).2.2.2.2.2.1, (f_Mo_asked_1 ti nm xa it vs se rs wk n j t).2.2.2.2.2.2.1, (f_Mo_asked_1 ti nm xa it vs se rs wk n j t).2.2.2.2.2.2.2.1, (f_Mo_asked_1 ti nm xa it vs se rs wk n j t).2.2.2.2.2.2.2.2))
set_option maxHeartbeats 4000000 in
set_option maxRecDepth 100000 in
theorem m_Mo_works_1 (l : Launch) (D : va_G) (cI cJ cZ cO : ClassId) (a : Nat) (code : Int32) (kn : Nat → Int32) (ed : Nat → Int32) (ct : Nat → Int32) (ti : Nat → Int32) (nm : Nat → Int32) (xa : Nat → Int32) (xb : Nat → Int32) (ma : Int32) (it : Nat → Int32) (vs : Nat → Int32) (se : Nat → Int32) (sm : Int64) (rs : Nat → Int64) (wk : Nat → Int32) (ors : Nat → Int64) (owk : Nat → Int32) (n : Nat) (j : Nat) (t : Int32) (hj : j < 4) (hlk : (f_Mo_lacks kn j t).1 = 0) (hk : kn j = 2) (hct : ct j = nI n) (hn : n ≤ 32) (R : Int32 × Int32 × Nat × (Nat → Int32) × (Nat → Int32) × (Nat → Int32) × Int64 × (Nat → Int64) × (Nat → Int32)) (hR : f_Mo_works_1 ti nm xa it vs se rs wk n j t = R) : Met l y_Md_works (k_Md_works :: gt) rm_Md_works (Pc0 D cI cJ cZ cO [.ref a, .int (nI j), .int t] (fun H => va_P D cls (wMo cI cJ cZ a code kn ed ct ti nm xa xb ma it vs se sm rs wk ors owk) H)) (Qd (blk a 15) (some (.int R.1)) (fun H => va_P D cls (wMo cI cJ cZ a R.2.1 kn ed ct ti nm xa xb (nI R.2.2.1) R.2.2.2.1 R.2.2.2.2.1 R.2.2.2.2.2.1 R.2.2.2.2.2.2.1 R.2.2.2.2.2.2.2.1 R.2.2.2.2.2.2.2.2 ors owk) H)) 0 0 (blk a 15) := by
  refine Met.ofW (cc := c_Md_works) (maxL := 4) (ret := (Option.some FieldType.boolean)) (by decide) rfl ?_
  intro p e s m args below meth c s₁ B hml hv
  obtain ⟨rfl, hKn, hP⟩ := hv
  have hx := B.exec
  have hb := B.bytes
  have hr := B.returns
  have hts := atoms_spec (ws := k_Md_works :: gt) B.pre
  have hg : ∀ w ∈ gt, w.before _ s = true := fun w h => hts w (List.mem_cons_of_mem _ h)
  have hown : s.vm.findClass R_Md = some m.cls := findClass_of_methodNamed B.named
  have hlocks := B.notSynchronized
  have hK := hKn.1
  have hl := lv_entry ([.ref a, .int (nI j), .int t]) (n := 4) (Nat.le_of_ble_eq_true rfl)
  rw [lg_entry_eq]
  generalize (lg_sl ([.ref a, .int (nI j), .int t]) ++ List.replicate (4 - (lg_sl ([.ref a, .int (nI j), .int t])).length) Slot.unset).toArray = ls at hl ⊢
  have hl : lv_has ls 4 [(0, .ref a), (1, .int (nI j)), (2, .int t)] := hl
  have hS : va_S (blk a 15) s.heap s.heap [] := va_S.rf
  have hD : va_D (blk a 15) (wMo cI cJ cZ a code kn ed ct ti nm xa xb ma it vs se sm rs wk ors owk) := (blk_D (wMo_in))
  have hR : (if ¬ (f_Mo_find ti n j t) = -1 then (if (((f_Mo_asked_1 ti nm xa it vs se rs wk n j t).2.2.2.2.2.2.2.2) ((f_Mo_find ti n j t).toNatClampNeg)) = 0 then ((0, (f_Mo_asked_1 ti nm xa it vs se rs wk n j t).2.1, (f_Mo_asked_1 ti nm xa it vs se rs wk n j t).2.2.1, (f_Mo_asked_1 ti nm xa it vs se rs wk n j t).2.2.2.1, (f_Mo_asked_1 ti nm xa it vs se rs wk n j t).2.2.2.2.1, (f_Mo_asked_1 ti nm xa it vs se rs wk n j t).2.2.2.2.2.1, (f_Mo_asked_1 ti nm xa it vs se rs wk n j t).2.2.2.2.2.2.1, (f_Mo_asked_1 ti nm xa it vs se rs wk n j t).2.2.2.2.2.2.2.1, (f_Mo_asked_1 ti nm xa it vs se rs wk n j t).2.2.2.2.2.2.2.2)) else ((1, (f_Mo_asked_1 ti nm xa it vs se rs wk n j t).2.1, (f_Mo_asked_1 ti nm xa it vs se rs wk n j t).2.2.1, (f_Mo_asked_1 ti nm xa it vs se rs wk n j t).2.2.2.1, (f_Mo_asked_1 ti nm xa it vs se rs wk n j t).2.2.2.2.1, (f_Mo_asked_1 ti nm xa it vs se rs wk n j t).2.2.2.2.2.1, (f_Mo_asked_1 ti nm xa it vs se rs wk n j t).2.2.2.2.2.2.1, (f_Mo_asked_1 ti nm xa it vs se rs wk n j t).2.2.2.2.2.2.2.1, (f_Mo_asked_1 ti nm xa it vs se rs wk n j t).2.2.2.2.2.2.2.2))) else ((0, (f_Mo_asked_1 ti nm xa it vs se rs wk n j t).2.1, (f_Mo_asked_1 ti nm xa it vs se rs wk n j t).2.2.1, (f_Mo_asked_1 ti nm xa it vs se rs wk n j t).2.2.2.1, (f_Mo_asked_1 ti nm xa it vs se rs wk n j t).2.2.2.2.1, (f_Mo_asked_1 ti nm xa it vs se rs wk n j t).2.2.2.2.2.1, (f_Mo_asked_1 ti nm xa it vs se rs wk n j t).2.2.2.2.2.2.1, (f_Mo_asked_1 ti nm xa it vs se rs wk n j t).2.2.2.2.2.2.2.1, (f_Mo_asked_1 ti nm xa it vs se rs wk n j t).2.2.2.2.2.2.2.2))) = R := hR
  refine lv_aload_n hx hb d_Md_works_0 rfl (lv_at hl 0 rfl) ?_
  refine lv_iload_n hx hb d_Md_works_1 rfl (lv_at hl 1 rfl) ?_
  refine lv_iload_n hx hb d_Md_works_2 rfl (lv_at hl 2 rfl) ?_
  refine ep_callH (W.runV (As := [.int (nI j), .int t]) (rest := []) ⟨hx, hb, hml, hown, hg⟩ (m_Mo_asked_1 l D cI cJ cZ cO a code kn ed ct ti nm xa xb ma it vs se sm rs wk ors owk n j t (by omega) hlk hk hct (by omega) _ rfl) (ep_cwV 2 hg tw_884 tw_886 ts_24 tw_12 tk_Md_asked rfl rfl (by decide +kernel) ⟨(Nat.le_of_ble_eq_true rfl), (Nat.le_of_ble_eq_true rfl)⟩) ⟨ep_blind, va_recv (q0 := 0) (ci := 9) hK hP rfl rfl, ep_pre hKn (hP)⟩ rfl rfl hl.1 rfl (lv_room (Nat.le_of_ble_eq_true rfl)) d_Md_works_3 ⟨Nat.zero_le _, Nat.zero_le _⟩) hS (fun q h => h) (fun H locs hsz9 hk1 hP1 hS => ?_)
  refine W.eq (g2 := F0 m 6 ls [.int ((f_Mo_asked_1 ti nm xa it vs se rs wk n j t).1)]) rfl ?_
  have hP : va_P D cls (wMo cI cJ cZ a ((f_Mo_asked_1 ti nm xa it vs se rs wk n j t).2.1) kn ed ct ti nm xa xb (nI ((f_Mo_asked_1 ti nm xa it vs se rs wk n j t).2.2.1)) ((f_Mo_asked_1 ti nm xa it vs se rs wk n j t).2.2.2.1) ((f_Mo_asked_1 ti nm xa it vs se rs wk n j t).2.2.2.2.1) ((f_Mo_asked_1 ti nm xa it vs se rs wk n j t).2.2.2.2.2.1) ((f_Mo_asked_1 ti nm xa it vs se rs wk n j t).2.2.2.2.2.2.1) ((f_Mo_asked_1 ti nm xa it vs se rs wk n j t).2.2.2.2.2.2.2.1) ((f_Mo_asked_1 ti nm xa it vs se rs wk n j t).2.2.2.2.2.2.2.2) ors owk) H := hP1
  have hD : va_D (blk a 15) (wMo cI cJ cZ a ((f_Mo_asked_1 ti nm xa it vs se rs wk n j t).2.1) kn ed ct ti nm xa xb (nI ((f_Mo_asked_1 ti nm xa it vs se rs wk n j t).2.2.1)) ((f_Mo_asked_1 ti nm xa it vs se rs wk n j t).2.2.2.1) ((f_Mo_asked_1 ti nm xa it vs se rs wk n j t).2.2.2.2.1) ((f_Mo_asked_1 ti nm xa it vs se rs wk n j t).2.2.2.2.2.1) ((f_Mo_asked_1 ti nm xa it vs se rs wk n j t).2.2.2.2.2.2.1) ((f_Mo_asked_1 ti nm xa it vs se rs wk n j t).2.2.2.2.2.2.2.1) ((f_Mo_asked_1 ti nm xa it vs se rs wk n j t).2.2.2.2.2.2.2.2) ors owk) := (blk_D (wMo_in))
  refine lv_topi (fun z8 e_z8 => ?_)
  obtain rfl : z8 = oI (¬ (f_Mo_find ti n j t) = -1) ((f_Mo_find ti n j t).toNatClampNeg) := by rw [e_z8]; exact (asked_fi_1 _ _ _ _ _ _ _ _ _ _ _)
  by_cases hc1 : ¬ (f_Mo_find ti n j t) = -1
  · rw [show oI (¬ (f_Mo_find ti n j t) = -1) ((f_Mo_find ti n j t).toNatClampNeg) = nI ((f_Mo_find ti n j t).toNatClampNeg) from if_pos hc1]
    have hp9 : ((f_Mo_find ti n j t)).toNatClampNeg < n := fi_lt _ _ _ _ (by omega) hc1
    refine lv_istore_n (lv' := [(3, .int (nI ((f_Mo_find ti n j t).toNatClampNeg))), (0, .ref a), (1, .int (nI j)), (2, .int t)]) hx hb d_Md_works_6 rfl hl (by decide) rfl (fun ls hl => ?_)
    refine lv_iload_n hx hb d_Md_works_7 rfl (lv_at hl 0 rfl) ?_
    refine lv_if_lt (tgt := 24) hx hb d_Md_works_8 (by decide) (fun hc => False.elim (by have hc := (nI_ltI (a := (f_Mo_find ti n j t).toNatClampNeg) (b := 0) (by omega) (by omega)).mp hc; omega)) (fun hc => ?_)
    refine lv_aload_n hx hb d_Md_works_11 rfl (lv_at hl 1 rfl) ?_
    refine va_get (D := D) (ci := 9) (v := .ref (a + 12)) (C := R_Md) (T := F_Md) (N := 17) hx hb hg in_Md hown hK hP 0 rfl rfl 14 (Nat.le_of_ble_eq_true rfl) (hg _ tw_720) (fun _ h9 => h9) rfl d_Md_works_12 ?_
    refine lv_iload_n hx hb d_Md_works_15 rfl (lv_at hl 0 rfl) ?_
    refine ep_zald hx hb hK hP 12 2 rfl rfl (i := ((f_Mo_find ti n j t).toNatClampNeg)) (by omega) (by decide) d_Md_works_16 ?_
    refine lv_if_eq (tgt := 24) hx hb d_Md_works_17 (by decide) (fun hc2 => ?_) (fun hc2 => ?_)
    · have hc2 : (((f_Mo_asked_1 ti nm xa it vs se rs wk n j t).2.2.2.2.2.2.2.2) ((f_Mo_find ti n j t).toNatClampNeg)) = 0 := hc2
      refine lv_iconst (v := 0) hx hb d_Md_works_24 (by decide) ?_
      rw [if_pos hc1, if_pos hc2] at hR
      subst hR
      exact W.zret (v := 0) hx hb hr (by decide) (fun t9 ht hW => ⟨rfl, hS.F ht, by rw [ht]; exact hP⟩) hS.2.2 d_Md_works_25
    · have hc2 : ¬ ((((f_Mo_asked_1 ti nm xa it vs se rs wk n j t).2.2.2.2.2.2.2.2) ((f_Mo_find ti n j t).toNatClampNeg)) = 0) := hc2
      refine lv_iconst (v := 1) hx hb d_Md_works_20 (by decide) ?_
      refine lv_goto (tgt := 25) hx hb d_Md_works_21 (by decide) ?_
      rw [if_pos hc1, if_neg hc2] at hR
      subst hR
      exact W.zret (v := 1) hx hb hr (by decide) (fun t9 ht hW => ⟨rfl, hS.F ht, by rw [ht]; exact hP⟩) hS.2.2 d_Md_works_25
  · rw [show oI (¬ (f_Mo_find ti n j t) = -1) ((f_Mo_find ti n j t).toNatClampNeg) = -1 from if_neg hc1]
    refine lv_istore_n (lv' := [(3, .int (-1)), (0, .ref a), (1, .int (nI j)), (2, .int t)]) hx hb d_Md_works_6 rfl hl (by decide) rfl (fun ls hl => ?_)
    refine lv_iload_n hx hb d_Md_works_7 rfl (lv_at hl 0 rfl) ?_
    refine lv_if_lt (tgt := 24) hx hb d_Md_works_8 (by decide) (fun hc => ?_) (fun hc => False.elim (by revert hc; decide))
    refine lv_iconst (v := 0) hx hb d_Md_works_24 (by decide) ?_
    rw [if_neg hc1] at hR
    subst hR
    exact W.zret (v := 0) hx hb hr (by decide) (fun t9 ht hW => ⟨rfl, hS.F ht, by rw [ht]; exact hP⟩) hS.2.2 d_Md_works_25

def f_Mo_works_2 (ti : Nat → Int32) (nm : Nat → Int32) (xa : Nat → Int32) (xb : Nat → Int32) (it : Nat → Int32) (vs : Nat → Int32) (se : Nat → Int32) (rs : Nat → Int64) (wk : Nat → Int32) (n : Nat) (j : Nat) (t : Int32) : Int32 × Int32 × Nat × (Nat → Int32) × (Nat → Int32) × (Nat → Int32) × Int64 × (Nat → Int64) × (Nat → Int32) := if ¬ (f_Mo_find ti n j t) = -1 then (if (((f_Mo_asked_2 ti nm xa xb it vs se rs wk n j t).2.2.2.2.2.2.2.2) ((f_Mo_find ti n j t).toNatClampNeg)) = 0 then ((0, (f_Mo_asked_2 ti nm xa xb it vs se rs wk n j t).2.1, (f_Mo_asked_2 ti nm xa xb it vs se rs wk n j t).2.2.1, (f_Mo_asked_2 ti nm xa xb it vs se rs wk n j t).2.2.2.1, (f_Mo_asked_2 ti nm xa xb it vs se rs wk n j t).2.2.2.2.1, (f_Mo_asked_2 ti nm xa xb it vs se rs wk n j t).2.2.2.2.2.1, (f_Mo_asked_2 ti nm xa xb it vs se rs wk n j t).2.2.2.2.2.2.1, (f_Mo_asked_2 ti nm xa xb it vs se rs wk n j t).2.2.2.2.2.2.2.1, (f_Mo_asked_2 ti nm xa xb it vs se rs wk n j t).2.2.2.2.2.2.2.2)) else ((1, (f_Mo_asked_2 ti nm xa xb it vs se rs wk n j t).2.1, (f_Mo_asked_2 ti nm xa xb it vs se rs wk n j t).2.2.1, (f_Mo_asked_2 ti nm xa xb it vs se rs wk n j t).2.2.2.1, (f_Mo_asked_2 ti nm xa xb it vs se rs wk n j t).2.2.2.2.1, (f_Mo_asked_2 ti nm xa xb it vs se rs wk n j t).2.2.2.2.2.1, (f_Mo_asked_2 ti nm xa xb it vs se rs wk n j t).2.2.2.2.2.2.1, (f_Mo_asked_2 ti nm xa xb it vs se rs wk n j t).2.2.2.2.2.2.2.1, (f_Mo_asked_2 ti nm xa xb it vs se rs wk n j t).2.2.2.2.2.2.2.2))) else ((0, (f_Mo_asked_2 ti nm xa xb it vs se rs wk n j t).2.1, (f_Mo_asked_2 ti nm xa xb it vs se rs wk n j t).2.2.1, (f_Mo_asked_2 ti nm xa xb it vs se rs wk n j t).2.2.2.1, (f_Mo_asked_2 ti nm xa xb it vs se rs wk n j t).2.2.2.2.1, (f_Mo_asked_2 ti nm xa xb it vs se rs wk n j t).2.2.2.2.2.1, (f_Mo_asked_2 ti nm xa xb it vs se rs wk n j t).2.2.2.2.2.2.1, (f_Mo_asked_2 ti nm xa xb it vs se rs wk n j t).2.2.2.2.2.2.2.1, (f_Mo_asked_2 ti nm xa xb it vs se rs wk n j t).2.2.2.2.2.2.2.2))
set_option maxHeartbeats 4000000 in
set_option maxRecDepth 100000 in
theorem m_Mo_works_2 (l : Launch) (D : va_G) (cI cJ cZ cO : ClassId) (a : Nat) (code : Int32) (kn : Nat → Int32) (ed : Nat → Int32) (ct : Nat → Int32) (ti : Nat → Int32) (nm : Nat → Int32) (xa : Nat → Int32) (xb : Nat → Int32) (ma : Int32) (it : Nat → Int32) (vs : Nat → Int32) (se : Nat → Int32) (sm : Int64) (rs : Nat → Int64) (wk : Nat → Int32) (ors : Nat → Int64) (owk : Nat → Int32) (n : Nat) (j : Nat) (t : Int32) (hj : j < 4) (hlk : (f_Mo_lacks kn j t).1 = 0) (hk : kn j = 3) (hct : ct j = nI n) (hn : n ≤ 32) (R : Int32 × Int32 × Nat × (Nat → Int32) × (Nat → Int32) × (Nat → Int32) × Int64 × (Nat → Int64) × (Nat → Int32)) (hR : f_Mo_works_2 ti nm xa xb it vs se rs wk n j t = R) : Met l y_Md_works (k_Md_works :: gt) rm_Md_works (Pc0 D cI cJ cZ cO [.ref a, .int (nI j), .int t] (fun H => va_P D cls (wMo cI cJ cZ a code kn ed ct ti nm xa xb ma it vs se sm rs wk ors owk) H)) (Qd (blk a 15) (some (.int R.1)) (fun H => va_P D cls (wMo cI cJ cZ a R.2.1 kn ed ct ti nm xa xb (nI R.2.2.1) R.2.2.2.1 R.2.2.2.2.1 R.2.2.2.2.2.1 R.2.2.2.2.2.2.1 R.2.2.2.2.2.2.2.1 R.2.2.2.2.2.2.2.2 ors owk) H)) 0 0 (blk a 15) := by
  refine Met.ofW (cc := c_Md_works) (maxL := 4) (ret := (Option.some FieldType.boolean)) (by decide) rfl ?_
  intro p e s m args below meth c s₁ B hml hv
  obtain ⟨rfl, hKn, hP⟩ := hv
  have hx := B.exec
  have hb := B.bytes
  have hr := B.returns
  have hts := atoms_spec (ws := k_Md_works :: gt) B.pre
  have hg : ∀ w ∈ gt, w.before _ s = true := fun w h => hts w (List.mem_cons_of_mem _ h)
  have hown : s.vm.findClass R_Md = some m.cls := findClass_of_methodNamed B.named
  have hlocks := B.notSynchronized
  have hK := hKn.1
  have hl := lv_entry ([.ref a, .int (nI j), .int t]) (n := 4) (Nat.le_of_ble_eq_true rfl)
  rw [lg_entry_eq]
  generalize (lg_sl ([.ref a, .int (nI j), .int t]) ++ List.replicate (4 - (lg_sl ([.ref a, .int (nI j), .int t])).length) Slot.unset).toArray = ls at hl ⊢
  have hl : lv_has ls 4 [(0, .ref a), (1, .int (nI j)), (2, .int t)] := hl
  have hS : va_S (blk a 15) s.heap s.heap [] := va_S.rf
  have hD : va_D (blk a 15) (wMo cI cJ cZ a code kn ed ct ti nm xa xb ma it vs se sm rs wk ors owk) := (blk_D (wMo_in))
  have hR : (if ¬ (f_Mo_find ti n j t) = -1 then (if (((f_Mo_asked_2 ti nm xa xb it vs se rs wk n j t).2.2.2.2.2.2.2.2) ((f_Mo_find ti n j t).toNatClampNeg)) = 0 then ((0, (f_Mo_asked_2 ti nm xa xb it vs se rs wk n j t).2.1, (f_Mo_asked_2 ti nm xa xb it vs se rs wk n j t).2.2.1, (f_Mo_asked_2 ti nm xa xb it vs se rs wk n j t).2.2.2.1, (f_Mo_asked_2 ti nm xa xb it vs se rs wk n j t).2.2.2.2.1, (f_Mo_asked_2 ti nm xa xb it vs se rs wk n j t).2.2.2.2.2.1, (f_Mo_asked_2 ti nm xa xb it vs se rs wk n j t).2.2.2.2.2.2.1, (f_Mo_asked_2 ti nm xa xb it vs se rs wk n j t).2.2.2.2.2.2.2.1, (f_Mo_asked_2 ti nm xa xb it vs se rs wk n j t).2.2.2.2.2.2.2.2)) else ((1, (f_Mo_asked_2 ti nm xa xb it vs se rs wk n j t).2.1, (f_Mo_asked_2 ti nm xa xb it vs se rs wk n j t).2.2.1, (f_Mo_asked_2 ti nm xa xb it vs se rs wk n j t).2.2.2.1, (f_Mo_asked_2 ti nm xa xb it vs se rs wk n j t).2.2.2.2.1, (f_Mo_asked_2 ti nm xa xb it vs se rs wk n j t).2.2.2.2.2.1, (f_Mo_asked_2 ti nm xa xb it vs se rs wk n j t).2.2.2.2.2.2.1, (f_Mo_asked_2 ti nm xa xb it vs se rs wk n j t).2.2.2.2.2.2.2.1, (f_Mo_asked_2 ti nm xa xb it vs se rs wk n j t).2.2.2.2.2.2.2.2))) else ((0, (f_Mo_asked_2 ti nm xa xb it vs se rs wk n j t).2.1, (f_Mo_asked_2 ti nm xa xb it vs se rs wk n j t).2.2.1, (f_Mo_asked_2 ti nm xa xb it vs se rs wk n j t).2.2.2.1, (f_Mo_asked_2 ti nm xa xb it vs se rs wk n j t).2.2.2.2.1, (f_Mo_asked_2 ti nm xa xb it vs se rs wk n j t).2.2.2.2.2.1, (f_Mo_asked_2 ti nm xa xb it vs se rs wk n j t).2.2.2.2.2.2.1, (f_Mo_asked_2 ti nm xa xb it vs se rs wk n j t).2.2.2.2.2.2.2.1, (f_Mo_asked_2 ti nm xa xb it vs se rs wk n j t).2.2.2.2.2.2.2.2))) = R := hR
  refine lv_aload_n hx hb d_Md_works_0 rfl (lv_at hl 0 rfl) ?_
  refine lv_iload_n hx hb d_Md_works_1 rfl (lv_at hl 1 rfl) ?_
  refine lv_iload_n hx hb d_Md_works_2 rfl (lv_at hl 2 rfl) ?_
  refine ep_callH (W.runV (As := [.int (nI j), .int t]) (rest := []) ⟨hx, hb, hml, hown, hg⟩ (m_Mo_asked_2 l D cI cJ cZ cO a code kn ed ct ti nm xa xb ma it vs se sm rs wk ors owk n j t (by omega) hlk hk hct (by omega) _ rfl) (ep_cwV 2 hg tw_884 tw_886 ts_24 tw_12 tk_Md_asked rfl rfl (by decide +kernel) ⟨(Nat.le_of_ble_eq_true rfl), (Nat.le_of_ble_eq_true rfl)⟩) ⟨ep_blind, va_recv (q0 := 0) (ci := 9) hK hP rfl rfl, ep_pre hKn (hP)⟩ rfl rfl hl.1 rfl (lv_room (Nat.le_of_ble_eq_true rfl)) d_Md_works_3 ⟨Nat.zero_le _, Nat.zero_le _⟩) hS (fun q h => h) (fun H locs hsz9 hk1 hP1 hS => ?_)
  refine W.eq (g2 := F0 m 6 ls [.int ((f_Mo_asked_2 ti nm xa xb it vs se rs wk n j t).1)]) rfl ?_
  have hP : va_P D cls (wMo cI cJ cZ a ((f_Mo_asked_2 ti nm xa xb it vs se rs wk n j t).2.1) kn ed ct ti nm xa xb (nI ((f_Mo_asked_2 ti nm xa xb it vs se rs wk n j t).2.2.1)) ((f_Mo_asked_2 ti nm xa xb it vs se rs wk n j t).2.2.2.1) ((f_Mo_asked_2 ti nm xa xb it vs se rs wk n j t).2.2.2.2.1) ((f_Mo_asked_2 ti nm xa xb it vs se rs wk n j t).2.2.2.2.2.1) ((f_Mo_asked_2 ti nm xa xb it vs se rs wk n j t).2.2.2.2.2.2.1) ((f_Mo_asked_2 ti nm xa xb it vs se rs wk n j t).2.2.2.2.2.2.2.1) ((f_Mo_asked_2 ti nm xa xb it vs se rs wk n j t).2.2.2.2.2.2.2.2) ors owk) H := hP1
  have hD : va_D (blk a 15) (wMo cI cJ cZ a ((f_Mo_asked_2 ti nm xa xb it vs se rs wk n j t).2.1) kn ed ct ti nm xa xb (nI ((f_Mo_asked_2 ti nm xa xb it vs se rs wk n j t).2.2.1)) ((f_Mo_asked_2 ti nm xa xb it vs se rs wk n j t).2.2.2.1) ((f_Mo_asked_2 ti nm xa xb it vs se rs wk n j t).2.2.2.2.1) ((f_Mo_asked_2 ti nm xa xb it vs se rs wk n j t).2.2.2.2.2.1) ((f_Mo_asked_2 ti nm xa xb it vs se rs wk n j t).2.2.2.2.2.2.1) ((f_Mo_asked_2 ti nm xa xb it vs se rs wk n j t).2.2.2.2.2.2.2.1) ((f_Mo_asked_2 ti nm xa xb it vs se rs wk n j t).2.2.2.2.2.2.2.2) ors owk) := (blk_D (wMo_in))
  refine lv_topi (fun z8 e_z8 => ?_)
  obtain rfl : z8 = oI (¬ (f_Mo_find ti n j t) = -1) ((f_Mo_find ti n j t).toNatClampNeg) := by rw [e_z8]; exact (asked_fi_2 _ _ _ _ _ _ _ _ _ _ _ _)
  by_cases hc1 : ¬ (f_Mo_find ti n j t) = -1
  · rw [show oI (¬ (f_Mo_find ti n j t) = -1) ((f_Mo_find ti n j t).toNatClampNeg) = nI ((f_Mo_find ti n j t).toNatClampNeg) from if_pos hc1]
    have hp9 : ((f_Mo_find ti n j t)).toNatClampNeg < n := fi_lt _ _ _ _ (by omega) hc1
    refine lv_istore_n (lv' := [(3, .int (nI ((f_Mo_find ti n j t).toNatClampNeg))), (0, .ref a), (1, .int (nI j)), (2, .int t)]) hx hb d_Md_works_6 rfl hl (by decide) rfl (fun ls hl => ?_)
    refine lv_iload_n hx hb d_Md_works_7 rfl (lv_at hl 0 rfl) ?_
    refine lv_if_lt (tgt := 24) hx hb d_Md_works_8 (by decide) (fun hc => False.elim (by have hc := (nI_ltI (a := (f_Mo_find ti n j t).toNatClampNeg) (b := 0) (by omega) (by omega)).mp hc; omega)) (fun hc => ?_)
    refine lv_aload_n hx hb d_Md_works_11 rfl (lv_at hl 1 rfl) ?_
    refine va_get (D := D) (ci := 9) (v := .ref (a + 12)) (C := R_Md) (T := F_Md) (N := 17) hx hb hg in_Md hown hK hP 0 rfl rfl 14 (Nat.le_of_ble_eq_true rfl) (hg _ tw_720) (fun _ h9 => h9) rfl d_Md_works_12 ?_
    refine lv_iload_n hx hb d_Md_works_15 rfl (lv_at hl 0 rfl) ?_
    refine ep_zald hx hb hK hP 12 2 rfl rfl (i := ((f_Mo_find ti n j t).toNatClampNeg)) (by omega) (by decide) d_Md_works_16 ?_
    refine lv_if_eq (tgt := 24) hx hb d_Md_works_17 (by decide) (fun hc2 => ?_) (fun hc2 => ?_)
    · have hc2 : (((f_Mo_asked_2 ti nm xa xb it vs se rs wk n j t).2.2.2.2.2.2.2.2) ((f_Mo_find ti n j t).toNatClampNeg)) = 0 := hc2
      refine lv_iconst (v := 0) hx hb d_Md_works_24 (by decide) ?_
      rw [if_pos hc1, if_pos hc2] at hR
      subst hR
      exact W.zret (v := 0) hx hb hr (by decide) (fun t9 ht hW => ⟨rfl, hS.F ht, by rw [ht]; exact hP⟩) hS.2.2 d_Md_works_25
    · have hc2 : ¬ ((((f_Mo_asked_2 ti nm xa xb it vs se rs wk n j t).2.2.2.2.2.2.2.2) ((f_Mo_find ti n j t).toNatClampNeg)) = 0) := hc2
      refine lv_iconst (v := 1) hx hb d_Md_works_20 (by decide) ?_
      refine lv_goto (tgt := 25) hx hb d_Md_works_21 (by decide) ?_
      rw [if_pos hc1, if_neg hc2] at hR
      subst hR
      exact W.zret (v := 1) hx hb hr (by decide) (fun t9 ht hW => ⟨rfl, hS.F ht, by rw [ht]; exact hP⟩) hS.2.2 d_Md_works_25
  · rw [show oI (¬ (f_Mo_find ti n j t) = -1) ((f_Mo_find ti n j t).toNatClampNeg) = -1 from if_neg hc1]
    refine lv_istore_n (lv' := [(3, .int (-1)), (0, .ref a), (1, .int (nI j)), (2, .int t)]) hx hb d_Md_works_6 rfl hl (by decide) rfl (fun ls hl => ?_)
    refine lv_iload_n hx hb d_Md_works_7 rfl (lv_at hl 0 rfl) ?_
    refine lv_if_lt (tgt := 24) hx hb d_Md_works_8 (by decide) (fun hc => ?_) (fun hc => False.elim (by revert hc; decide))
    refine lv_iconst (v := 0) hx hb d_Md_works_24 (by decide) ?_
    rw [if_neg hc1] at hR
    subst hR
    exact W.zret (v := 0) hx hb hr (by decide) (fun t9 ht hW => ⟨rfl, hS.F ht, by rw [ht]; exact hP⟩) hS.2.2 d_Md_works_25

def f_Mo_works_3 (ti : Nat → Int32) (nm : Nat → Int32) (xa : Nat → Int32) (it : Nat → Int32) (vs : Nat → Int32) (se : Nat → Int32) (rs : Nat → Int64) (wk : Nat → Int32) (n : Nat) (j : Nat) (t : Int32) : Int32 × Int32 × Nat × (Nat → Int32) × (Nat → Int32) × (Nat → Int32) × Int64 × (Nat → Int64) × (Nat → Int32) := if ¬ (f_Mo_find ti n j t) = -1 then (if (((f_Mo_asked_3 ti nm xa it vs se rs wk n j t).2.2.2.2.2.2.2.2) ((f_Mo_find ti n j t).toNatClampNeg)) = 0 then ((0, (f_Mo_asked_3 ti nm xa it vs se rs wk n j t).2.1, (f_Mo_asked_3 ti nm xa it vs se rs wk n j t).2.2.1, (f_Mo_asked_3 ti nm xa it vs se rs wk n j t).2.2.2.1, (f_Mo_asked_3 ti nm xa it vs se rs wk n j t).2.2.2.2.1, (f_Mo_asked_3 ti nm xa it vs se rs wk n j t).2.2.2.2.2.1, (f_Mo_asked_3 ti nm xa it vs se rs wk n j t).2.2.2.2.2.2.1, (f_Mo_asked_3 ti nm xa it vs se rs wk n j t).2.2.2.2.2.2.2.1, (f_Mo_asked_3 ti nm xa it vs se rs wk n j t).2.2.2.2.2.2.2.2)) else ((1, (f_Mo_asked_3 ti nm xa it vs se rs wk n j t).2.1, (f_Mo_asked_3 ti nm xa it vs se rs wk n j t).2.2.1, (f_Mo_asked_3 ti nm xa it vs se rs wk n j t).2.2.2.1, (f_Mo_asked_3 ti nm xa it vs se rs wk n j t).2.2.2.2.1, (f_Mo_asked_3 ti nm xa it vs se rs wk n j t).2.2.2.2.2.1, (f_Mo_asked_3 ti nm xa it vs se rs wk n j t).2.2.2.2.2.2.1, (f_Mo_asked_3 ti nm xa it vs se rs wk n j t).2.2.2.2.2.2.2.1, (f_Mo_asked_3 ti nm xa it vs se rs wk n j t).2.2.2.2.2.2.2.2))) else ((0, (f_Mo_asked_3 ti nm xa it vs se rs wk n j t).2.1, (f_Mo_asked_3 ti nm xa it vs se rs wk n j t).2.2.1, (f_Mo_asked_3 ti nm xa it vs se rs wk n j t).2.2.2.1, (f_Mo_asked_3 ti nm xa it vs se rs wk n j t).2.2.2.2.1, (f_Mo_asked_3 ti nm xa it vs se rs wk n j t).2.2.2.2.2.1, (f_Mo_asked_3 ti nm xa it vs se rs wk n j t).2.2.2.2.2.2.1, (f_Mo_asked_3 ti nm xa it vs se rs wk n j t).2.2.2.2.2.2.2.1, (f_Mo_asked_3 ti nm xa it vs se rs wk n j t).2.2.2.2.2.2.2.2))
set_option maxHeartbeats 4000000 in
set_option maxRecDepth 100000 in
theorem m_Mo_works_3 (l : Launch) (D : va_G) (cI cJ cZ cO : ClassId) (a : Nat) (code : Int32) (kn : Nat → Int32) (ed : Nat → Int32) (ct : Nat → Int32) (ti : Nat → Int32) (nm : Nat → Int32) (xa : Nat → Int32) (xb : Nat → Int32) (ma : Int32) (it : Nat → Int32) (vs : Nat → Int32) (se : Nat → Int32) (sm : Int64) (rs : Nat → Int64) (wk : Nat → Int32) (ors : Nat → Int64) (owk : Nat → Int32) (n : Nat) (j : Nat) (t : Int32) (hj : j < 4) (hlk : (f_Mo_lacks kn j t).1 = 0) (hk : kn j = 4) (hct : ct j = nI n) (hn : n ≤ 32) (R : Int32 × Int32 × Nat × (Nat → Int32) × (Nat → Int32) × (Nat → Int32) × Int64 × (Nat → Int64) × (Nat → Int32)) (hR : f_Mo_works_3 ti nm xa it vs se rs wk n j t = R) : Met l y_Md_works (k_Md_works :: gt) rm_Md_works (Pc0 D cI cJ cZ cO [.ref a, .int (nI j), .int t] (fun H => va_P D cls (wMo cI cJ cZ a code kn ed ct ti nm xa xb ma it vs se sm rs wk ors owk) H)) (Qd (blk a 15) (some (.int R.1)) (fun H => va_P D cls (wMo cI cJ cZ a R.2.1 kn ed ct ti nm xa xb (nI R.2.2.1) R.2.2.2.1 R.2.2.2.2.1 R.2.2.2.2.2.1 R.2.2.2.2.2.2.1 R.2.2.2.2.2.2.2.1 R.2.2.2.2.2.2.2.2 ors owk) H)) 0 0 (blk a 15) := by
  refine Met.ofW (cc := c_Md_works) (maxL := 4) (ret := (Option.some FieldType.boolean)) (by decide) rfl ?_
  intro p e s m args below meth c s₁ B hml hv
  obtain ⟨rfl, hKn, hP⟩ := hv
  have hx := B.exec
  have hb := B.bytes
  have hr := B.returns
  have hts := atoms_spec (ws := k_Md_works :: gt) B.pre
  have hg : ∀ w ∈ gt, w.before _ s = true := fun w h => hts w (List.mem_cons_of_mem _ h)
  have hown : s.vm.findClass R_Md = some m.cls := findClass_of_methodNamed B.named
  have hlocks := B.notSynchronized
  have hK := hKn.1
  have hl := lv_entry ([.ref a, .int (nI j), .int t]) (n := 4) (Nat.le_of_ble_eq_true rfl)
  rw [lg_entry_eq]
  generalize (lg_sl ([.ref a, .int (nI j), .int t]) ++ List.replicate (4 - (lg_sl ([.ref a, .int (nI j), .int t])).length) Slot.unset).toArray = ls at hl ⊢
  have hl : lv_has ls 4 [(0, .ref a), (1, .int (nI j)), (2, .int t)] := hl
  have hS : va_S (blk a 15) s.heap s.heap [] := va_S.rf
  have hD : va_D (blk a 15) (wMo cI cJ cZ a code kn ed ct ti nm xa xb ma it vs se sm rs wk ors owk) := (blk_D (wMo_in))
  have hR : (if ¬ (f_Mo_find ti n j t) = -1 then (if (((f_Mo_asked_3 ti nm xa it vs se rs wk n j t).2.2.2.2.2.2.2.2) ((f_Mo_find ti n j t).toNatClampNeg)) = 0 then ((0, (f_Mo_asked_3 ti nm xa it vs se rs wk n j t).2.1, (f_Mo_asked_3 ti nm xa it vs se rs wk n j t).2.2.1, (f_Mo_asked_3 ti nm xa it vs se rs wk n j t).2.2.2.1, (f_Mo_asked_3 ti nm xa it vs se rs wk n j t).2.2.2.2.1, (f_Mo_asked_3 ti nm xa it vs se rs wk n j t).2.2.2.2.2.1, (f_Mo_asked_3 ti nm xa it vs se rs wk n j t).2.2.2.2.2.2.1, (f_Mo_asked_3 ti nm xa it vs se rs wk n j t).2.2.2.2.2.2.2.1, (f_Mo_asked_3 ti nm xa it vs se rs wk n j t).2.2.2.2.2.2.2.2)) else ((1, (f_Mo_asked_3 ti nm xa it vs se rs wk n j t).2.1, (f_Mo_asked_3 ti nm xa it vs se rs wk n j t).2.2.1, (f_Mo_asked_3 ti nm xa it vs se rs wk n j t).2.2.2.1, (f_Mo_asked_3 ti nm xa it vs se rs wk n j t).2.2.2.2.1, (f_Mo_asked_3 ti nm xa it vs se rs wk n j t).2.2.2.2.2.1, (f_Mo_asked_3 ti nm xa it vs se rs wk n j t).2.2.2.2.2.2.1, (f_Mo_asked_3 ti nm xa it vs se rs wk n j t).2.2.2.2.2.2.2.1, (f_Mo_asked_3 ti nm xa it vs se rs wk n j t).2.2.2.2.2.2.2.2))) else ((0, (f_Mo_asked_3 ti nm xa it vs se rs wk n j t).2.1, (f_Mo_asked_3 ti nm xa it vs se rs wk n j t).2.2.1, (f_Mo_asked_3 ti nm xa it vs se rs wk n j t).2.2.2.1, (f_Mo_asked_3 ti nm xa it vs se rs wk n j t).2.2.2.2.1, (f_Mo_asked_3 ti nm xa it vs se rs wk n j t).2.2.2.2.2.1, (f_Mo_asked_3 ti nm xa it vs se rs wk n j t).2.2.2.2.2.2.1, (f_Mo_asked_3 ti nm xa it vs se rs wk n j t).2.2.2.2.2.2.2.1, (f_Mo_asked_3 ti nm xa it vs se rs wk n j t).2.2.2.2.2.2.2.2))) = R := hR
  refine lv_aload_n hx hb d_Md_works_0 rfl (lv_at hl 0 rfl) ?_
  refine lv_iload_n hx hb d_Md_works_1 rfl (lv_at hl 1 rfl) ?_
  refine lv_iload_n hx hb d_Md_works_2 rfl (lv_at hl 2 rfl) ?_
  refine ep_callH (W.runV (As := [.int (nI j), .int t]) (rest := []) ⟨hx, hb, hml, hown, hg⟩ (m_Mo_asked_3 l D cI cJ cZ cO a code kn ed ct ti nm xa xb ma it vs se sm rs wk ors owk n j t (by omega) hlk hk hct (by omega) _ rfl) (ep_cwV 2 hg tw_884 tw_886 ts_24 tw_12 tk_Md_asked rfl rfl (by decide +kernel) ⟨(Nat.le_of_ble_eq_true rfl), (Nat.le_of_ble_eq_true rfl)⟩) ⟨ep_blind, va_recv (q0 := 0) (ci := 9) hK hP rfl rfl, ep_pre hKn (hP)⟩ rfl rfl hl.1 rfl (lv_room (Nat.le_of_ble_eq_true rfl)) d_Md_works_3 ⟨Nat.zero_le _, Nat.zero_le _⟩) hS (fun q h => h) (fun H locs hsz9 hk1 hP1 hS => ?_)
  refine W.eq (g2 := F0 m 6 ls [.int ((f_Mo_asked_3 ti nm xa it vs se rs wk n j t).1)]) rfl ?_
  have hP : va_P D cls (wMo cI cJ cZ a ((f_Mo_asked_3 ti nm xa it vs se rs wk n j t).2.1) kn ed ct ti nm xa xb (nI ((f_Mo_asked_3 ti nm xa it vs se rs wk n j t).2.2.1)) ((f_Mo_asked_3 ti nm xa it vs se rs wk n j t).2.2.2.1) ((f_Mo_asked_3 ti nm xa it vs se rs wk n j t).2.2.2.2.1) ((f_Mo_asked_3 ti nm xa it vs se rs wk n j t).2.2.2.2.2.1) ((f_Mo_asked_3 ti nm xa it vs se rs wk n j t).2.2.2.2.2.2.1) ((f_Mo_asked_3 ti nm xa it vs se rs wk n j t).2.2.2.2.2.2.2.1) ((f_Mo_asked_3 ti nm xa it vs se rs wk n j t).2.2.2.2.2.2.2.2) ors owk) H := hP1
  have hD : va_D (blk a 15) (wMo cI cJ cZ a ((f_Mo_asked_3 ti nm xa it vs se rs wk n j t).2.1) kn ed ct ti nm xa xb (nI ((f_Mo_asked_3 ti nm xa it vs se rs wk n j t).2.2.1)) ((f_Mo_asked_3 ti nm xa it vs se rs wk n j t).2.2.2.1) ((f_Mo_asked_3 ti nm xa it vs se rs wk n j t).2.2.2.2.1) ((f_Mo_asked_3 ti nm xa it vs se rs wk n j t).2.2.2.2.2.1) ((f_Mo_asked_3 ti nm xa it vs se rs wk n j t).2.2.2.2.2.2.1) ((f_Mo_asked_3 ti nm xa it vs se rs wk n j t).2.2.2.2.2.2.2.1) ((f_Mo_asked_3 ti nm xa it vs se rs wk n j t).2.2.2.2.2.2.2.2) ors owk) := (blk_D (wMo_in))
  refine lv_topi (fun z8 e_z8 => ?_)
  obtain rfl : z8 = oI (¬ (f_Mo_find ti n j t) = -1) ((f_Mo_find ti n j t).toNatClampNeg) := by rw [e_z8]; exact (asked_fi_3 _ _ _ _ _ _ _ _ _ _ _)
  by_cases hc1 : ¬ (f_Mo_find ti n j t) = -1
  · rw [show oI (¬ (f_Mo_find ti n j t) = -1) ((f_Mo_find ti n j t).toNatClampNeg) = nI ((f_Mo_find ti n j t).toNatClampNeg) from if_pos hc1]
    have hp9 : ((f_Mo_find ti n j t)).toNatClampNeg < n := fi_lt _ _ _ _ (by omega) hc1
    refine lv_istore_n (lv' := [(3, .int (nI ((f_Mo_find ti n j t).toNatClampNeg))), (0, .ref a), (1, .int (nI j)), (2, .int t)]) hx hb d_Md_works_6 rfl hl (by decide) rfl (fun ls hl => ?_)
    refine lv_iload_n hx hb d_Md_works_7 rfl (lv_at hl 0 rfl) ?_
    refine lv_if_lt (tgt := 24) hx hb d_Md_works_8 (by decide) (fun hc => False.elim (by have hc := (nI_ltI (a := (f_Mo_find ti n j t).toNatClampNeg) (b := 0) (by omega) (by omega)).mp hc; omega)) (fun hc => ?_)
    refine lv_aload_n hx hb d_Md_works_11 rfl (lv_at hl 1 rfl) ?_
    refine va_get (D := D) (ci := 9) (v := .ref (a + 12)) (C := R_Md) (T := F_Md) (N := 17) hx hb hg in_Md hown hK hP 0 rfl rfl 14 (Nat.le_of_ble_eq_true rfl) (hg _ tw_720) (fun _ h9 => h9) rfl d_Md_works_12 ?_
    refine lv_iload_n hx hb d_Md_works_15 rfl (lv_at hl 0 rfl) ?_
    refine ep_zald hx hb hK hP 12 2 rfl rfl (i := ((f_Mo_find ti n j t).toNatClampNeg)) (by omega) (by decide) d_Md_works_16 ?_
    refine lv_if_eq (tgt := 24) hx hb d_Md_works_17 (by decide) (fun hc2 => ?_) (fun hc2 => ?_)
    · have hc2 : (((f_Mo_asked_3 ti nm xa it vs se rs wk n j t).2.2.2.2.2.2.2.2) ((f_Mo_find ti n j t).toNatClampNeg)) = 0 := hc2
      refine lv_iconst (v := 0) hx hb d_Md_works_24 (by decide) ?_
      rw [if_pos hc1, if_pos hc2] at hR
      subst hR
      exact W.zret (v := 0) hx hb hr (by decide) (fun t9 ht hW => ⟨rfl, hS.F ht, by rw [ht]; exact hP⟩) hS.2.2 d_Md_works_25
    · have hc2 : ¬ ((((f_Mo_asked_3 ti nm xa it vs se rs wk n j t).2.2.2.2.2.2.2.2) ((f_Mo_find ti n j t).toNatClampNeg)) = 0) := hc2
      refine lv_iconst (v := 1) hx hb d_Md_works_20 (by decide) ?_
      refine lv_goto (tgt := 25) hx hb d_Md_works_21 (by decide) ?_
      rw [if_pos hc1, if_neg hc2] at hR
      subst hR
      exact W.zret (v := 1) hx hb hr (by decide) (fun t9 ht hW => ⟨rfl, hS.F ht, by rw [ht]; exact hP⟩) hS.2.2 d_Md_works_25
  · rw [show oI (¬ (f_Mo_find ti n j t) = -1) ((f_Mo_find ti n j t).toNatClampNeg) = -1 from if_neg hc1]
    refine lv_istore_n (lv' := [(3, .int (-1)), (0, .ref a), (1, .int (nI j)), (2, .int t)]) hx hb d_Md_works_6 rfl hl (by decide) rfl (fun ls hl => ?_)
    refine lv_iload_n hx hb d_Md_works_7 rfl (lv_at hl 0 rfl) ?_
    refine lv_if_lt (tgt := 24) hx hb d_Md_works_8 (by decide) (fun hc => ?_) (fun hc => False.elim (by revert hc; decide))
    refine lv_iconst (v := 0) hx hb d_Md_works_24 (by decide) ?_
    rw [if_neg hc1] at hR
    subst hR
    exact W.zret (v := 0) hx hb hr (by decide) (fun t9 ht hW => ⟨rfl, hS.F ht, by rw [ht]; exact hP⟩) hS.2.2 d_Md_works_25

def f_Mo_works_4 (ti : Nat → Int32) (xa : Nat → Int32) (it : Nat → Int32) (vs : Nat → Int32) (se : Nat → Int32) (rs : Nat → Int64) (wk : Nat → Int32) (n : Nat) (j : Nat) (t : Int32) : Int32 × Int32 × Int32 × (Nat → Int32) × (Nat → Int32) × (Nat → Int32) × Int64 × (Nat → Int64) × (Nat → Int32) := if ¬ (f_Mo_find ti n j t) = -1 then (if (((f_Mo_asked_4 ti xa it vs se rs wk n j t).2.2.2.2.2.2.2.2) ((f_Mo_find ti n j t).toNatClampNeg)) = 0 then ((0, (f_Mo_asked_4 ti xa it vs se rs wk n j t).2.1, (f_Mo_asked_4 ti xa it vs se rs wk n j t).2.2.1, (f_Mo_asked_4 ti xa it vs se rs wk n j t).2.2.2.1, (f_Mo_asked_4 ti xa it vs se rs wk n j t).2.2.2.2.1, (f_Mo_asked_4 ti xa it vs se rs wk n j t).2.2.2.2.2.1, (f_Mo_asked_4 ti xa it vs se rs wk n j t).2.2.2.2.2.2.1, (f_Mo_asked_4 ti xa it vs se rs wk n j t).2.2.2.2.2.2.2.1, (f_Mo_asked_4 ti xa it vs se rs wk n j t).2.2.2.2.2.2.2.2)) else ((1, (f_Mo_asked_4 ti xa it vs se rs wk n j t).2.1, (f_Mo_asked_4 ti xa it vs se rs wk n j t).2.2.1, (f_Mo_asked_4 ti xa it vs se rs wk n j t).2.2.2.1, (f_Mo_asked_4 ti xa it vs se rs wk n j t).2.2.2.2.1, (f_Mo_asked_4 ti xa it vs se rs wk n j t).2.2.2.2.2.1, (f_Mo_asked_4 ti xa it vs se rs wk n j t).2.2.2.2.2.2.1, (f_Mo_asked_4 ti xa it vs se rs wk n j t).2.2.2.2.2.2.2.1, (f_Mo_asked_4 ti xa it vs se rs wk n j t).2.2.2.2.2.2.2.2))) else ((0, (f_Mo_asked_4 ti xa it vs se rs wk n j t).2.1, (f_Mo_asked_4 ti xa it vs se rs wk n j t).2.2.1, (f_Mo_asked_4 ti xa it vs se rs wk n j t).2.2.2.1, (f_Mo_asked_4 ti xa it vs se rs wk n j t).2.2.2.2.1, (f_Mo_asked_4 ti xa it vs se rs wk n j t).2.2.2.2.2.1, (f_Mo_asked_4 ti xa it vs se rs wk n j t).2.2.2.2.2.2.1, (f_Mo_asked_4 ti xa it vs se rs wk n j t).2.2.2.2.2.2.2.1, (f_Mo_asked_4 ti xa it vs se rs wk n j t).2.2.2.2.2.2.2.2))
set_option maxHeartbeats 4000000 in
set_option maxRecDepth 100000 in
theorem m_Mo_works_4 (l : Launch) (D : va_G) (cI cJ cZ cO : ClassId) (a : Nat) (code : Int32) (kn : Nat → Int32) (ed : Nat → Int32) (ct : Nat → Int32) (ti : Nat → Int32) (nm : Nat → Int32) (xa : Nat → Int32) (xb : Nat → Int32) (ma : Int32) (it : Nat → Int32) (vs : Nat → Int32) (se : Nat → Int32) (sm : Int64) (rs : Nat → Int64) (wk : Nat → Int32) (ors : Nat → Int64) (owk : Nat → Int32) (n : Nat) (j : Nat) (t : Int32) (hj : j < 4) (hlk : (f_Mo_lacks kn j t).1 = 0) (hk : kn j = 5) (hct : ct j = nI n) (hn : n ≤ 32) (R : Int32 × Int32 × Int32 × (Nat → Int32) × (Nat → Int32) × (Nat → Int32) × Int64 × (Nat → Int64) × (Nat → Int32)) (hR : f_Mo_works_4 ti xa it vs se rs wk n j t = R) : Met l y_Md_works (k_Md_works :: gt) rm_Md_works (Pc0 D cI cJ cZ cO [.ref a, .int (nI j), .int t] (fun H => va_P D cls (wMo cI cJ cZ a code kn ed ct ti nm xa xb ma it vs se sm rs wk ors owk) H)) (Qd (blk a 15) (some (.int R.1)) (fun H => va_P D cls (wMo cI cJ cZ a R.2.1 kn ed ct ti nm xa xb R.2.2.1 R.2.2.2.1 R.2.2.2.2.1 R.2.2.2.2.2.1 R.2.2.2.2.2.2.1 R.2.2.2.2.2.2.2.1 R.2.2.2.2.2.2.2.2 ors owk) H)) 0 0 (blk a 15) := by
  refine Met.ofW (cc := c_Md_works) (maxL := 4) (ret := (Option.some FieldType.boolean)) (by decide) rfl ?_
  intro p e s m args below meth c s₁ B hml hv
  obtain ⟨rfl, hKn, hP⟩ := hv
  have hx := B.exec
  have hb := B.bytes
  have hr := B.returns
  have hts := atoms_spec (ws := k_Md_works :: gt) B.pre
  have hg : ∀ w ∈ gt, w.before _ s = true := fun w h => hts w (List.mem_cons_of_mem _ h)
  have hown : s.vm.findClass R_Md = some m.cls := findClass_of_methodNamed B.named
  have hlocks := B.notSynchronized
  have hK := hKn.1
  have hl := lv_entry ([.ref a, .int (nI j), .int t]) (n := 4) (Nat.le_of_ble_eq_true rfl)
  rw [lg_entry_eq]
  generalize (lg_sl ([.ref a, .int (nI j), .int t]) ++ List.replicate (4 - (lg_sl ([.ref a, .int (nI j), .int t])).length) Slot.unset).toArray = ls at hl ⊢
  have hl : lv_has ls 4 [(0, .ref a), (1, .int (nI j)), (2, .int t)] := hl
  have hS : va_S (blk a 15) s.heap s.heap [] := va_S.rf
  have hD : va_D (blk a 15) (wMo cI cJ cZ a code kn ed ct ti nm xa xb ma it vs se sm rs wk ors owk) := (blk_D (wMo_in))
  have hR : (if ¬ (f_Mo_find ti n j t) = -1 then (if (((f_Mo_asked_4 ti xa it vs se rs wk n j t).2.2.2.2.2.2.2.2) ((f_Mo_find ti n j t).toNatClampNeg)) = 0 then ((0, (f_Mo_asked_4 ti xa it vs se rs wk n j t).2.1, (f_Mo_asked_4 ti xa it vs se rs wk n j t).2.2.1, (f_Mo_asked_4 ti xa it vs se rs wk n j t).2.2.2.1, (f_Mo_asked_4 ti xa it vs se rs wk n j t).2.2.2.2.1, (f_Mo_asked_4 ti xa it vs se rs wk n j t).2.2.2.2.2.1, (f_Mo_asked_4 ti xa it vs se rs wk n j t).2.2.2.2.2.2.1, (f_Mo_asked_4 ti xa it vs se rs wk n j t).2.2.2.2.2.2.2.1, (f_Mo_asked_4 ti xa it vs se rs wk n j t).2.2.2.2.2.2.2.2)) else ((1, (f_Mo_asked_4 ti xa it vs se rs wk n j t).2.1, (f_Mo_asked_4 ti xa it vs se rs wk n j t).2.2.1, (f_Mo_asked_4 ti xa it vs se rs wk n j t).2.2.2.1, (f_Mo_asked_4 ti xa it vs se rs wk n j t).2.2.2.2.1, (f_Mo_asked_4 ti xa it vs se rs wk n j t).2.2.2.2.2.1, (f_Mo_asked_4 ti xa it vs se rs wk n j t).2.2.2.2.2.2.1, (f_Mo_asked_4 ti xa it vs se rs wk n j t).2.2.2.2.2.2.2.1, (f_Mo_asked_4 ti xa it vs se rs wk n j t).2.2.2.2.2.2.2.2))) else ((0, (f_Mo_asked_4 ti xa it vs se rs wk n j t).2.1, (f_Mo_asked_4 ti xa it vs se rs wk n j t).2.2.1, (f_Mo_asked_4 ti xa it vs se rs wk n j t).2.2.2.1, (f_Mo_asked_4 ti xa it vs se rs wk n j t).2.2.2.2.1, (f_Mo_asked_4 ti xa it vs se rs wk n j t).2.2.2.2.2.1, (f_Mo_asked_4 ti xa it vs se rs wk n j t).2.2.2.2.2.2.1, (f_Mo_asked_4 ti xa it vs se rs wk n j t).2.2.2.2.2.2.2.1, (f_Mo_asked_4 ti xa it vs se rs wk n j t).2.2.2.2.2.2.2.2))) = R := hR
  refine lv_aload_n hx hb d_Md_works_0 rfl (lv_at hl 0 rfl) ?_
  refine lv_iload_n hx hb d_Md_works_1 rfl (lv_at hl 1 rfl) ?_
  refine lv_iload_n hx hb d_Md_works_2 rfl (lv_at hl 2 rfl) ?_
  refine ep_callH (W.runV (As := [.int (nI j), .int t]) (rest := []) ⟨hx, hb, hml, hown, hg⟩ (m_Mo_asked_4 l D cI cJ cZ cO a code kn ed ct ti nm xa xb ma it vs se sm rs wk ors owk n j t (by omega) hlk hk hct (by omega) _ rfl) (ep_cwV 2 hg tw_884 tw_886 ts_24 tw_12 tk_Md_asked rfl rfl (by decide +kernel) ⟨(Nat.le_of_ble_eq_true rfl), (Nat.le_of_ble_eq_true rfl)⟩) ⟨ep_blind, va_recv (q0 := 0) (ci := 9) hK hP rfl rfl, ep_pre hKn (hP)⟩ rfl rfl hl.1 rfl (lv_room (Nat.le_of_ble_eq_true rfl)) d_Md_works_3 ⟨Nat.zero_le _, Nat.zero_le _⟩) hS (fun q h => h) (fun H locs hsz9 hk1 hP1 hS => ?_)
  refine W.eq (g2 := F0 m 6 ls [.int ((f_Mo_asked_4 ti xa it vs se rs wk n j t).1)]) rfl ?_
  have hP : va_P D cls (wMo cI cJ cZ a ((f_Mo_asked_4 ti xa it vs se rs wk n j t).2.1) kn ed ct ti nm xa xb ((f_Mo_asked_4 ti xa it vs se rs wk n j t).2.2.1) ((f_Mo_asked_4 ti xa it vs se rs wk n j t).2.2.2.1) ((f_Mo_asked_4 ti xa it vs se rs wk n j t).2.2.2.2.1) ((f_Mo_asked_4 ti xa it vs se rs wk n j t).2.2.2.2.2.1) ((f_Mo_asked_4 ti xa it vs se rs wk n j t).2.2.2.2.2.2.1) ((f_Mo_asked_4 ti xa it vs se rs wk n j t).2.2.2.2.2.2.2.1) ((f_Mo_asked_4 ti xa it vs se rs wk n j t).2.2.2.2.2.2.2.2) ors owk) H := hP1
  have hD : va_D (blk a 15) (wMo cI cJ cZ a ((f_Mo_asked_4 ti xa it vs se rs wk n j t).2.1) kn ed ct ti nm xa xb ((f_Mo_asked_4 ti xa it vs se rs wk n j t).2.2.1) ((f_Mo_asked_4 ti xa it vs se rs wk n j t).2.2.2.1) ((f_Mo_asked_4 ti xa it vs se rs wk n j t).2.2.2.2.1) ((f_Mo_asked_4 ti xa it vs se rs wk n j t).2.2.2.2.2.1) ((f_Mo_asked_4 ti xa it vs se rs wk n j t).2.2.2.2.2.2.1) ((f_Mo_asked_4 ti xa it vs se rs wk n j t).2.2.2.2.2.2.2.1) ((f_Mo_asked_4 ti xa it vs se rs wk n j t).2.2.2.2.2.2.2.2) ors owk) := (blk_D (wMo_in))
  refine lv_topi (fun z8 e_z8 => ?_)
  obtain rfl : z8 = oI (¬ (f_Mo_find ti n j t) = -1) ((f_Mo_find ti n j t).toNatClampNeg) := by rw [e_z8]; exact (asked_fi_4 _ _ _ _ _ _ _ _ _ _)
  by_cases hc1 : ¬ (f_Mo_find ti n j t) = -1
  · rw [show oI (¬ (f_Mo_find ti n j t) = -1) ((f_Mo_find ti n j t).toNatClampNeg) = nI ((f_Mo_find ti n j t).toNatClampNeg) from if_pos hc1]
    have hp9 : ((f_Mo_find ti n j t)).toNatClampNeg < n := fi_lt _ _ _ _ (by omega) hc1
    refine lv_istore_n (lv' := [(3, .int (nI ((f_Mo_find ti n j t).toNatClampNeg))), (0, .ref a), (1, .int (nI j)), (2, .int t)]) hx hb d_Md_works_6 rfl hl (by decide) rfl (fun ls hl => ?_)
    refine lv_iload_n hx hb d_Md_works_7 rfl (lv_at hl 0 rfl) ?_
    refine lv_if_lt (tgt := 24) hx hb d_Md_works_8 (by decide) (fun hc => False.elim (by have hc := (nI_ltI (a := (f_Mo_find ti n j t).toNatClampNeg) (b := 0) (by omega) (by omega)).mp hc; omega)) (fun hc => ?_)
    refine lv_aload_n hx hb d_Md_works_11 rfl (lv_at hl 1 rfl) ?_
    refine va_get (D := D) (ci := 9) (v := .ref (a + 12)) (C := R_Md) (T := F_Md) (N := 17) hx hb hg in_Md hown hK hP 0 rfl rfl 14 (Nat.le_of_ble_eq_true rfl) (hg _ tw_720) (fun _ h9 => h9) rfl d_Md_works_12 ?_
    refine lv_iload_n hx hb d_Md_works_15 rfl (lv_at hl 0 rfl) ?_
    refine ep_zald hx hb hK hP 12 2 rfl rfl (i := ((f_Mo_find ti n j t).toNatClampNeg)) (by omega) (by decide) d_Md_works_16 ?_
    refine lv_if_eq (tgt := 24) hx hb d_Md_works_17 (by decide) (fun hc2 => ?_) (fun hc2 => ?_)
    · have hc2 : (((f_Mo_asked_4 ti xa it vs se rs wk n j t).2.2.2.2.2.2.2.2) ((f_Mo_find ti n j t).toNatClampNeg)) = 0 := hc2
      refine lv_iconst (v := 0) hx hb d_Md_works_24 (by decide) ?_
      rw [if_pos hc1, if_pos hc2] at hR
      subst hR
      exact W.zret (v := 0) hx hb hr (by decide) (fun t9 ht hW => ⟨rfl, hS.F ht, by rw [ht]; exact hP⟩) hS.2.2 d_Md_works_25
    · have hc2 : ¬ ((((f_Mo_asked_4 ti xa it vs se rs wk n j t).2.2.2.2.2.2.2.2) ((f_Mo_find ti n j t).toNatClampNeg)) = 0) := hc2
      refine lv_iconst (v := 1) hx hb d_Md_works_20 (by decide) ?_
      refine lv_goto (tgt := 25) hx hb d_Md_works_21 (by decide) ?_
      rw [if_pos hc1, if_neg hc2] at hR
      subst hR
      exact W.zret (v := 1) hx hb hr (by decide) (fun t9 ht hW => ⟨rfl, hS.F ht, by rw [ht]; exact hP⟩) hS.2.2 d_Md_works_25
  · rw [show oI (¬ (f_Mo_find ti n j t) = -1) ((f_Mo_find ti n j t).toNatClampNeg) = -1 from if_neg hc1]
    refine lv_istore_n (lv' := [(3, .int (-1)), (0, .ref a), (1, .int (nI j)), (2, .int t)]) hx hb d_Md_works_6 rfl hl (by decide) rfl (fun ls hl => ?_)
    refine lv_iload_n hx hb d_Md_works_7 rfl (lv_at hl 0 rfl) ?_
    refine lv_if_lt (tgt := 24) hx hb d_Md_works_8 (by decide) (fun hc => ?_) (fun hc => False.elim (by revert hc; decide))
    refine lv_iconst (v := 0) hx hb d_Md_works_24 (by decide) ?_
    rw [if_neg hc1] at hR
    subst hR
    exact W.zret (v := 0) hx hb hr (by decide) (fun t9 ht hW => ⟨rfl, hS.F ht, by rw [ht]; exact hP⟩) hS.2.2 d_Md_works_25

def f_Mo_works_5 (ti : Nat → Int32) (xa : Nat → Int32) (xb : Nat → Int32) (it : Nat → Int32) (vs : Nat → Int32) (se : Nat → Int32) (rs : Nat → Int64) (wk : Nat → Int32) (n : Nat) (j : Nat) (t : Int32) : Int32 × Int32 × Int32 × (Nat → Int32) × (Nat → Int32) × (Nat → Int32) × Int64 × (Nat → Int64) × (Nat → Int32) := if ¬ (f_Mo_find ti n j t) = -1 then (if (((f_Mo_asked_5 ti xa xb it vs se rs wk n j t).2.2.2.2.2.2.2.2) ((f_Mo_find ti n j t).toNatClampNeg)) = 0 then ((0, (f_Mo_asked_5 ti xa xb it vs se rs wk n j t).2.1, (f_Mo_asked_5 ti xa xb it vs se rs wk n j t).2.2.1, (f_Mo_asked_5 ti xa xb it vs se rs wk n j t).2.2.2.1, (f_Mo_asked_5 ti xa xb it vs se rs wk n j t).2.2.2.2.1, (f_Mo_asked_5 ti xa xb it vs se rs wk n j t).2.2.2.2.2.1, (f_Mo_asked_5 ti xa xb it vs se rs wk n j t).2.2.2.2.2.2.1, (f_Mo_asked_5 ti xa xb it vs se rs wk n j t).2.2.2.2.2.2.2.1, (f_Mo_asked_5 ti xa xb it vs se rs wk n j t).2.2.2.2.2.2.2.2)) else ((1, (f_Mo_asked_5 ti xa xb it vs se rs wk n j t).2.1, (f_Mo_asked_5 ti xa xb it vs se rs wk n j t).2.2.1, (f_Mo_asked_5 ti xa xb it vs se rs wk n j t).2.2.2.1, (f_Mo_asked_5 ti xa xb it vs se rs wk n j t).2.2.2.2.1, (f_Mo_asked_5 ti xa xb it vs se rs wk n j t).2.2.2.2.2.1, (f_Mo_asked_5 ti xa xb it vs se rs wk n j t).2.2.2.2.2.2.1, (f_Mo_asked_5 ti xa xb it vs se rs wk n j t).2.2.2.2.2.2.2.1, (f_Mo_asked_5 ti xa xb it vs se rs wk n j t).2.2.2.2.2.2.2.2))) else ((0, (f_Mo_asked_5 ti xa xb it vs se rs wk n j t).2.1, (f_Mo_asked_5 ti xa xb it vs se rs wk n j t).2.2.1, (f_Mo_asked_5 ti xa xb it vs se rs wk n j t).2.2.2.1, (f_Mo_asked_5 ti xa xb it vs se rs wk n j t).2.2.2.2.1, (f_Mo_asked_5 ti xa xb it vs se rs wk n j t).2.2.2.2.2.1, (f_Mo_asked_5 ti xa xb it vs se rs wk n j t).2.2.2.2.2.2.1, (f_Mo_asked_5 ti xa xb it vs se rs wk n j t).2.2.2.2.2.2.2.1, (f_Mo_asked_5 ti xa xb it vs se rs wk n j t).2.2.2.2.2.2.2.2))
set_option maxHeartbeats 4000000 in
set_option maxRecDepth 100000 in
theorem m_Mo_works_5 (l : Launch) (D : va_G) (cI cJ cZ cO : ClassId) (a : Nat) (code : Int32) (kn : Nat → Int32) (ed : Nat → Int32) (ct : Nat → Int32) (ti : Nat → Int32) (nm : Nat → Int32) (xa : Nat → Int32) (xb : Nat → Int32) (ma : Int32) (it : Nat → Int32) (vs : Nat → Int32) (se : Nat → Int32) (sm : Int64) (rs : Nat → Int64) (wk : Nat → Int32) (ors : Nat → Int64) (owk : Nat → Int32) (n : Nat) (j : Nat) (t : Int32) (hj : j < 4) (hlk : (f_Mo_lacks kn j t).1 = 0) (hk : kn j = 6) (hct : ct j = nI n) (hn : n ≤ 32) (hop : ∀ i, i < n → (xa (32 * j + i) = nI (xa (32 * j + i)).toNatClampNeg ∧ (xa (32 * j + i)).toNatClampNeg < 16) ∧ (xb (32 * j + i) = nI (xb (32 * j + i)).toNatClampNeg ∧ (xb (32 * j + i)).toNatClampNeg < 16)) (R : Int32 × Int32 × Int32 × (Nat → Int32) × (Nat → Int32) × (Nat → Int32) × Int64 × (Nat → Int64) × (Nat → Int32)) (hR : f_Mo_works_5 ti xa xb it vs se rs wk n j t = R) : Met l y_Md_works (k_Md_works :: gt) rm_Md_works (Pc0 D cI cJ cZ cO [.ref a, .int (nI j), .int t] (fun H => va_P D cls (wMo cI cJ cZ a code kn ed ct ti nm xa xb ma it vs se sm rs wk ors owk) H)) (Qd (blk a 15) (some (.int R.1)) (fun H => va_P D cls (wMo cI cJ cZ a R.2.1 kn ed ct ti nm xa xb R.2.2.1 R.2.2.2.1 R.2.2.2.2.1 R.2.2.2.2.2.1 R.2.2.2.2.2.2.1 R.2.2.2.2.2.2.2.1 R.2.2.2.2.2.2.2.2 ors owk) H)) 0 0 (blk a 15) := by
  refine Met.ofW (cc := c_Md_works) (maxL := 4) (ret := (Option.some FieldType.boolean)) (by decide) rfl ?_
  intro p e s m args below meth c s₁ B hml hv
  obtain ⟨rfl, hKn, hP⟩ := hv
  have hx := B.exec
  have hb := B.bytes
  have hr := B.returns
  have hts := atoms_spec (ws := k_Md_works :: gt) B.pre
  have hg : ∀ w ∈ gt, w.before _ s = true := fun w h => hts w (List.mem_cons_of_mem _ h)
  have hown : s.vm.findClass R_Md = some m.cls := findClass_of_methodNamed B.named
  have hlocks := B.notSynchronized
  have hK := hKn.1
  have hl := lv_entry ([.ref a, .int (nI j), .int t]) (n := 4) (Nat.le_of_ble_eq_true rfl)
  rw [lg_entry_eq]
  generalize (lg_sl ([.ref a, .int (nI j), .int t]) ++ List.replicate (4 - (lg_sl ([.ref a, .int (nI j), .int t])).length) Slot.unset).toArray = ls at hl ⊢
  have hl : lv_has ls 4 [(0, .ref a), (1, .int (nI j)), (2, .int t)] := hl
  have hS : va_S (blk a 15) s.heap s.heap [] := va_S.rf
  have hD : va_D (blk a 15) (wMo cI cJ cZ a code kn ed ct ti nm xa xb ma it vs se sm rs wk ors owk) := (blk_D (wMo_in))
  have hR : (if ¬ (f_Mo_find ti n j t) = -1 then (if (((f_Mo_asked_5 ti xa xb it vs se rs wk n j t).2.2.2.2.2.2.2.2) ((f_Mo_find ti n j t).toNatClampNeg)) = 0 then ((0, (f_Mo_asked_5 ti xa xb it vs se rs wk n j t).2.1, (f_Mo_asked_5 ti xa xb it vs se rs wk n j t).2.2.1, (f_Mo_asked_5 ti xa xb it vs se rs wk n j t).2.2.2.1, (f_Mo_asked_5 ti xa xb it vs se rs wk n j t).2.2.2.2.1, (f_Mo_asked_5 ti xa xb it vs se rs wk n j t).2.2.2.2.2.1, (f_Mo_asked_5 ti xa xb it vs se rs wk n j t).2.2.2.2.2.2.1, (f_Mo_asked_5 ti xa xb it vs se rs wk n j t).2.2.2.2.2.2.2.1, (f_Mo_asked_5 ti xa xb it vs se rs wk n j t).2.2.2.2.2.2.2.2)) else ((1, (f_Mo_asked_5 ti xa xb it vs se rs wk n j t).2.1, (f_Mo_asked_5 ti xa xb it vs se rs wk n j t).2.2.1, (f_Mo_asked_5 ti xa xb it vs se rs wk n j t).2.2.2.1, (f_Mo_asked_5 ti xa xb it vs se rs wk n j t).2.2.2.2.1, (f_Mo_asked_5 ti xa xb it vs se rs wk n j t).2.2.2.2.2.1, (f_Mo_asked_5 ti xa xb it vs se rs wk n j t).2.2.2.2.2.2.1, (f_Mo_asked_5 ti xa xb it vs se rs wk n j t).2.2.2.2.2.2.2.1, (f_Mo_asked_5 ti xa xb it vs se rs wk n j t).2.2.2.2.2.2.2.2))) else ((0, (f_Mo_asked_5 ti xa xb it vs se rs wk n j t).2.1, (f_Mo_asked_5 ti xa xb it vs se rs wk n j t).2.2.1, (f_Mo_asked_5 ti xa xb it vs se rs wk n j t).2.2.2.1, (f_Mo_asked_5 ti xa xb it vs se rs wk n j t).2.2.2.2.1, (f_Mo_asked_5 ti xa xb it vs se rs wk n j t).2.2.2.2.2.1, (f_Mo_asked_5 ti xa xb it vs se rs wk n j t).2.2.2.2.2.2.1, (f_Mo_asked_5 ti xa xb it vs se rs wk n j t).2.2.2.2.2.2.2.1, (f_Mo_asked_5 ti xa xb it vs se rs wk n j t).2.2.2.2.2.2.2.2))) = R := hR
  refine lv_aload_n hx hb d_Md_works_0 rfl (lv_at hl 0 rfl) ?_
  refine lv_iload_n hx hb d_Md_works_1 rfl (lv_at hl 1 rfl) ?_
  refine lv_iload_n hx hb d_Md_works_2 rfl (lv_at hl 2 rfl) ?_
  refine ep_callH (W.runV (As := [.int (nI j), .int t]) (rest := []) ⟨hx, hb, hml, hown, hg⟩ (m_Mo_asked_5 l D cI cJ cZ cO a code kn ed ct ti nm xa xb ma it vs se sm rs wk ors owk n j t (by omega) hlk hk hct (by omega) hop _ rfl) (ep_cwV 2 hg tw_884 tw_886 ts_24 tw_12 tk_Md_asked rfl rfl (by decide +kernel) ⟨(Nat.le_of_ble_eq_true rfl), (Nat.le_of_ble_eq_true rfl)⟩) ⟨ep_blind, va_recv (q0 := 0) (ci := 9) hK hP rfl rfl, ep_pre hKn (hP)⟩ rfl rfl hl.1 rfl (lv_room (Nat.le_of_ble_eq_true rfl)) d_Md_works_3 ⟨Nat.zero_le _, Nat.zero_le _⟩) hS (fun q h => h) (fun H locs hsz9 hk1 hP1 hS => ?_)
  refine W.eq (g2 := F0 m 6 ls [.int ((f_Mo_asked_5 ti xa xb it vs se rs wk n j t).1)]) rfl ?_
  have hP : va_P D cls (wMo cI cJ cZ a ((f_Mo_asked_5 ti xa xb it vs se rs wk n j t).2.1) kn ed ct ti nm xa xb ((f_Mo_asked_5 ti xa xb it vs se rs wk n j t).2.2.1) ((f_Mo_asked_5 ti xa xb it vs se rs wk n j t).2.2.2.1) ((f_Mo_asked_5 ti xa xb it vs se rs wk n j t).2.2.2.2.1) ((f_Mo_asked_5 ti xa xb it vs se rs wk n j t).2.2.2.2.2.1) ((f_Mo_asked_5 ti xa xb it vs se rs wk n j t).2.2.2.2.2.2.1) ((f_Mo_asked_5 ti xa xb it vs se rs wk n j t).2.2.2.2.2.2.2.1) ((f_Mo_asked_5 ti xa xb it vs se rs wk n j t).2.2.2.2.2.2.2.2) ors owk) H := hP1
  have hD : va_D (blk a 15) (wMo cI cJ cZ a ((f_Mo_asked_5 ti xa xb it vs se rs wk n j t).2.1) kn ed ct ti nm xa xb ((f_Mo_asked_5 ti xa xb it vs se rs wk n j t).2.2.1) ((f_Mo_asked_5 ti xa xb it vs se rs wk n j t).2.2.2.1) ((f_Mo_asked_5 ti xa xb it vs se rs wk n j t).2.2.2.2.1) ((f_Mo_asked_5 ti xa xb it vs se rs wk n j t).2.2.2.2.2.1) ((f_Mo_asked_5 ti xa xb it vs se rs wk n j t).2.2.2.2.2.2.1) ((f_Mo_asked_5 ti xa xb it vs se rs wk n j t).2.2.2.2.2.2.2.1) ((f_Mo_asked_5 ti xa xb it vs se rs wk n j t).2.2.2.2.2.2.2.2) ors owk) := (blk_D (wMo_in))
  refine lv_topi (fun z8 e_z8 => ?_)
  obtain rfl : z8 = oI (¬ (f_Mo_find ti n j t) = -1) ((f_Mo_find ti n j t).toNatClampNeg) := by rw [e_z8]; exact (asked_fi_5 _ _ _ _ _ _ _ _ _ _ _)
  by_cases hc1 : ¬ (f_Mo_find ti n j t) = -1
  · rw [show oI (¬ (f_Mo_find ti n j t) = -1) ((f_Mo_find ti n j t).toNatClampNeg) = nI ((f_Mo_find ti n j t).toNatClampNeg) from if_pos hc1]
    have hp9 : ((f_Mo_find ti n j t)).toNatClampNeg < n := fi_lt _ _ _ _ (by omega) hc1
    refine lv_istore_n (lv' := [(3, .int (nI ((f_Mo_find ti n j t).toNatClampNeg))), (0, .ref a), (1, .int (nI j)), (2, .int t)]) hx hb d_Md_works_6 rfl hl (by decide) rfl (fun ls hl => ?_)
    refine lv_iload_n hx hb d_Md_works_7 rfl (lv_at hl 0 rfl) ?_
    refine lv_if_lt (tgt := 24) hx hb d_Md_works_8 (by decide) (fun hc => False.elim (by have hc := (nI_ltI (a := (f_Mo_find ti n j t).toNatClampNeg) (b := 0) (by omega) (by omega)).mp hc; omega)) (fun hc => ?_)
    refine lv_aload_n hx hb d_Md_works_11 rfl (lv_at hl 1 rfl) ?_
    refine va_get (D := D) (ci := 9) (v := .ref (a + 12)) (C := R_Md) (T := F_Md) (N := 17) hx hb hg in_Md hown hK hP 0 rfl rfl 14 (Nat.le_of_ble_eq_true rfl) (hg _ tw_720) (fun _ h9 => h9) rfl d_Md_works_12 ?_
    refine lv_iload_n hx hb d_Md_works_15 rfl (lv_at hl 0 rfl) ?_
    refine ep_zald hx hb hK hP 12 2 rfl rfl (i := ((f_Mo_find ti n j t).toNatClampNeg)) (by omega) (by decide) d_Md_works_16 ?_
    refine lv_if_eq (tgt := 24) hx hb d_Md_works_17 (by decide) (fun hc2 => ?_) (fun hc2 => ?_)
    · have hc2 : (((f_Mo_asked_5 ti xa xb it vs se rs wk n j t).2.2.2.2.2.2.2.2) ((f_Mo_find ti n j t).toNatClampNeg)) = 0 := hc2
      refine lv_iconst (v := 0) hx hb d_Md_works_24 (by decide) ?_
      rw [if_pos hc1, if_pos hc2] at hR
      subst hR
      exact W.zret (v := 0) hx hb hr (by decide) (fun t9 ht hW => ⟨rfl, hS.F ht, by rw [ht]; exact hP⟩) hS.2.2 d_Md_works_25
    · have hc2 : ¬ ((((f_Mo_asked_5 ti xa xb it vs se rs wk n j t).2.2.2.2.2.2.2.2) ((f_Mo_find ti n j t).toNatClampNeg)) = 0) := hc2
      refine lv_iconst (v := 1) hx hb d_Md_works_20 (by decide) ?_
      refine lv_goto (tgt := 25) hx hb d_Md_works_21 (by decide) ?_
      rw [if_pos hc1, if_neg hc2] at hR
      subst hR
      exact W.zret (v := 1) hx hb hr (by decide) (fun t9 ht hW => ⟨rfl, hS.F ht, by rw [ht]; exact hP⟩) hS.2.2 d_Md_works_25
  · rw [show oI (¬ (f_Mo_find ti n j t) = -1) ((f_Mo_find ti n j t).toNatClampNeg) = -1 from if_neg hc1]
    refine lv_istore_n (lv' := [(3, .int (-1)), (0, .ref a), (1, .int (nI j)), (2, .int t)]) hx hb d_Md_works_6 rfl hl (by decide) rfl (fun ls hl => ?_)
    refine lv_iload_n hx hb d_Md_works_7 rfl (lv_at hl 0 rfl) ?_
    refine lv_if_lt (tgt := 24) hx hb d_Md_works_8 (by decide) (fun hc => ?_) (fun hc => False.elim (by revert hc; decide))
    refine lv_iconst (v := 0) hx hb d_Md_works_24 (by decide) ?_
    rw [if_neg hc1] at hR
    subst hR
    exact W.zret (v := 0) hx hb hr (by decide) (fun t9 ht hW => ⟨rfl, hS.F ht, by rw [ht]; exact hP⟩) hS.2.2 d_Md_works_25
