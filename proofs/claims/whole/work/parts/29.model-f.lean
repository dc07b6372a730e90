/-! contracts of EditablePastModel (by wip/whole/gen/model.py) -/
def f_Mo_close (kn : Nat → Int32) (ct : Nat → Int32) (j : Nat) : Int32 × Int32 × (Nat → Int32) := if ((f_Mo_lacks kn j 1).1) = 0 then ((ct j, (f_Mo_lacks kn j 1).2, upd kn j 0)) else ((0, (f_Mo_lacks kn j 1).2, kn))
set_option maxHeartbeats 4000000 in
set_option maxRecDepth 100000 in
theorem m_Mo_close (l : Launch) (D : va_G) (cI cJ cZ cO : ClassId) (a : Nat) (code : Int32) (kn : Nat → Int32) (ed : Nat → Int32) (ct : Nat → Int32) (ti : Nat → Int32) (nm : Nat → Int32) (xa : Nat → Int32) (xb : Nat → Int32) (ma : Int32) (it : Nat → Int32) (vs : Nat → Int32) (se : Nat → Int32) (sm : Int64) (rs : Nat → Int64) (wk : Nat → Int32) (ors : Nat → Int64) (owk : Nat → Int32) (j : Nat) (hj : j < 4) (R : Int32 × Int32 × (Nat → Int32)) (hR : f_Mo_close kn ct j = R) : Met l y_Md_close (k_Md_close :: gt) rm_Md_close (Pc0 D cI cJ cZ cO [.ref a, .int (nI j)] (fun H => va_P D cls (wMo cI cJ cZ a code kn ed ct ti nm xa xb ma it vs se sm rs wk ors owk) H)) (Qd (blk a 15) (some (.int R.1)) (fun H => va_P D cls (wMo cI cJ cZ a R.2.1 R.2.2 ed ct ti nm xa xb ma it vs se sm rs wk ors owk) H)) 0 0 (blk a 15) := by
  refine Met.ofW (cc := c_Md_close) (maxL := 2) (ret := (Option.some FieldType.int)) (by decide) rfl ?_
  intro p e s m args below meth c s₁ B hml hv
  obtain ⟨rfl, hKn, hP⟩ := hv
  have hx := B.exec
  have hb := B.bytes
  have hr := B.returns
  have hts := atoms_spec (ws := k_Md_close :: gt) B.pre
  have hg : ∀ w ∈ gt, w.before _ s = true := fun w h => hts w (List.mem_cons_of_mem _ h)
  have hown : s.vm.findClass R_Md = some m.cls := findClass_of_methodNamed B.named
  have hlocks := B.notSynchronized
  have hK := hKn.1
  have hl := lv_entry ([.ref a, .int (nI j)]) (n := 2) (Nat.le_of_ble_eq_true rfl)
  rw [lg_entry_eq]
  generalize (lg_sl ([.ref a, .int (nI j)]) ++ List.replicate (2 - (lg_sl ([.ref a, .int (nI j)])).length) Slot.unset).toArray = ls at hl ⊢
  have hl : lv_has ls 2 [(0, .ref a), (1, .int (nI j))] := hl
  have hS : va_S (blk a 15) s.heap s.heap [] := va_S.rf
  have hD : va_D (blk a 15) (wMo cI cJ cZ a code kn ed ct ti nm xa xb ma it vs se sm rs wk ors owk) := (blk_D (wMo_in))
  have hR : (if ((f_Mo_lacks kn j 1).1) = 0 then ((ct j, (f_Mo_lacks kn j 1).2, upd kn j 0)) else ((0, (f_Mo_lacks kn j 1).2, kn))) = R := hR
  refine lv_aload_n hx hb d_Md_close_0 rfl (lv_at hl 0 rfl) ?_
  refine lv_iload_n hx hb d_Md_close_1 rfl (lv_at hl 1 rfl) ?_
  refine lv_iconst (v := 1) hx hb d_Md_close_2 (by decide) ?_
  refine ep_callH (W.runV (As := [.int (nI j), .int 1]) (rest := []) ⟨hx, hb, hml, hown, hg⟩ (m_Mo_lacks l D cI cJ cZ cO a code kn ed ct ti nm xa xb ma it vs se sm rs wk ors owk j 1 (by omega) _ rfl) (ep_cwV 2 hg tw_773 tw_775 ts_9 tw_12 tk_Md_lacks rfl rfl (by decide +kernel) ⟨(Nat.le_of_ble_eq_true rfl), (Nat.le_of_ble_eq_true rfl)⟩) ⟨ep_blind, va_recv (q0 := 0) (ci := 9) hK hP rfl rfl, ep_pre hKn (hP)⟩ rfl rfl hl.1 rfl (lv_room (Nat.le_of_ble_eq_true rfl)) d_Md_close_3 ⟨Nat.zero_le _, Nat.zero_le _⟩) hS (fun q h => h) (fun H locs hsz9 hk1 hP1 hS => ?_)
  refine W.eq (g2 := F0 m 6 ls [.int ((f_Mo_lacks kn j 1).1)]) rfl ?_
  have hP : va_P D cls (wMo cI cJ cZ a ((f_Mo_lacks kn j 1).2) kn ed ct ti nm xa xb ma it vs se sm rs wk ors owk) H := hP1
  have hD : va_D (blk a 15) (wMo cI cJ cZ a ((f_Mo_lacks kn j 1).2) kn ed ct ti nm xa xb ma it vs se sm rs wk ors owk) := (blk_D (wMo_in))
  refine lv_if_eq (tgt := 11) hx hb d_Md_close_6 (by decide) (fun hc1 => ?_) (fun hc1 => ?_)
  · have hc1 : ((f_Mo_lacks kn j 1).1) = 0 := hc1
    refine lv_aload_n hx hb d_Md_close_11 rfl (lv_at hl 0 rfl) ?_
    refine va_get (D := D) (ci := 9) (v := .ref (a + 1)) (C := R_Md) (T := F_Md) (N := 17) hx hb hg in_Md hown hK hP 0 rfl rfl 1 (Nat.le_of_ble_eq_true rfl) (hg _ tw_707) (fun _ h9 => h9) rfl d_Md_close_12 ?_
    refine lv_iload_n hx hb d_Md_close_15 rfl (lv_at hl 1 rfl) ?_
    refine lv_iconst (v := 0) hx hb d_Md_close_16 (by decide) ?_
    refine ep_iast hx hb hK hP hD hS 1 0 rfl rfl (i := j) (x := 0) (by omega) (by decide) d_Md_close_17 (fun H locs hP hD hS => ?_)
    have hP : va_P D cls (wMo cI cJ cZ a ((f_Mo_lacks kn j 1).2) (upd kn j 0) ed ct ti nm xa xb ma it vs se sm rs wk ors owk) H := hP
    have hD : va_D (blk a 15) (wMo cI cJ cZ a ((f_Mo_lacks kn j 1).2) (upd kn j 0) ed ct ti nm xa xb ma it vs se sm rs wk ors owk) := hD
    refine lv_aload_n hx hb d_Md_close_18 rfl (lv_at hl 0 rfl) ?_
    refine va_get (D := D) (ci := 9) (v := .ref (a + 3)) (C := R_Md) (T := F_Md) (N := 17) hx hb hg in_Md hown hK hP 0 rfl rfl 3 (Nat.le_of_ble_eq_true rfl) (hg _ tw_709) (fun _ h9 => h9) rfl d_Md_close_19 ?_
    refine lv_iload_n hx hb d_Md_close_22 rfl (lv_at hl 1 rfl) ?_
    refine ep_iald hx hb hK hP 3 0 rfl rfl (i := j) (by omega) (by decide) d_Md_close_23 ?_
    rw [if_pos hc1] at hR
    subst hR
    exact W.iret (v := (ct j)) hx hb hr (fun t9 ht hW => ⟨rfl, hS.F ht, by rw [ht]; exact hP⟩) hS.2.2 d_Md_close_24
  · have hc1 : ¬ (((f_Mo_lacks kn j 1).1) = 0) := hc1
    refine lv_iconst (v := 0) hx hb d_Md_close_9 (by decide) ?_
    rw [if_neg hc1] at hR
    subst hR
    exact W.iret (v := 0) hx hb hr (fun t9 ht hW => ⟨rfl, hS.F ht, by rw [ht]; exact hP⟩) hS.2.2 d_Md_close_10

def f_Mo_close_b  : Int32 := f_Mo_lacks_b.2
set_option maxHeartbeats 4000000 in
set_option maxRecDepth 100000 in
theorem m_Mo_close_b (l : Launch) (D : va_G) (cI cJ cZ cO : ClassId) (a : Nat) (code : Int32) (kn : Nat → Int32) (ed : Nat → Int32) (ct : Nat → Int32) (ti : Nat → Int32) (nm : Nat → Int32) (xa : Nat → Int32) (xb : Nat → Int32) (ma : Int32) (it : Nat → Int32) (vs : Nat → Int32) (se : Nat → Int32) (sm : Int64) (rs : Nat → Int64) (wk : Nat → Int32) (ors : Nat → Int64) (owk : Nat → Int32) (id : Int32) (hid : ¬ okI id) (R : Int32) (hR : f_Mo_close_b = R) : Met l y_Md_close (k_Md_close :: gt) rm_Md_close (Pc0 D cI cJ cZ cO [.ref a, .int id] (fun H => va_P D cls (wMo cI cJ cZ a code kn ed ct ti nm xa xb ma it vs se sm rs wk ors owk) H)) (Qd (blk a 15) (some (.int 0)) (fun H => va_P D cls (wMo cI cJ cZ a R kn ed ct ti nm xa xb ma it vs se sm rs wk ors owk) H)) 0 0 (blk a 15) := by
  refine Met.ofW (cc := c_Md_close) (maxL := 2) (ret := (Option.some FieldType.int)) (by decide) rfl ?_
  intro p e s m args below meth c s₁ B hml hv
  obtain ⟨rfl, hKn, hP⟩ := hv
  have hx := B.exec
  have hb := B.bytes
  have hr := B.returns
  have hts := atoms_spec (ws := k_Md_close :: gt) B.pre
  have hg : ∀ w ∈ gt, w.before _ s = true := fun w h => hts w (List.mem_cons_of_mem _ h)
  have hown : s.vm.findClass R_Md = some m.cls := findClass_of_methodNamed B.named
  have hlocks := B.notSynchronized
  have hK := hKn.1
  have hl := lv_entry ([.ref a, .int id]) (n := 2) (Nat.le_of_ble_eq_true rfl)
  rw [lg_entry_eq]
  generalize (lg_sl ([.ref a, .int id]) ++ List.replicate (2 - (lg_sl ([.ref a, .int id])).length) Slot.unset).toArray = ls at hl ⊢
  have hl : lv_has ls 2 [(0, .ref a), (1, .int id)] := hl
  have hS : va_S (blk a 15) s.heap s.heap [] := va_S.rf
  have hD : va_D (blk a 15) (wMo cI cJ cZ a code kn ed ct ti nm xa xb ma it vs se sm rs wk ors owk) := (blk_D (wMo_in))
  have hR : (f_Mo_lacks_b.2) = R := hR
  refine lv_aload_n hx hb d_Md_close_0 rfl (lv_at hl 0 rfl) ?_
  refine lv_iload_n hx hb d_Md_close_1 rfl (lv_at hl 1 rfl) ?_
  refine lv_iconst (v := 1) hx hb d_Md_close_2 (by decide) ?_
  refine ep_callH (W.runV (As := [.int id, .int 1]) (rest := []) ⟨hx, hb, hml, hown, hg⟩ (m_Mo_lacks_b l D cI cJ cZ cO a code kn ed ct ti nm xa xb ma it vs se sm rs wk ors owk id 1 hid _ rfl) (ep_cwV 2 hg tw_773 tw_775 ts_9 tw_12 tk_Md_lacks rfl rfl (by decide +kernel) ⟨(Nat.le_of_ble_eq_true rfl), (Nat.le_of_ble_eq_true rfl)⟩) ⟨ep_blind, va_recv (q0 := 0) (ci := 9) hK hP rfl rfl, ep_pre hKn (hP)⟩ rfl rfl hl.1 rfl (lv_room (Nat.le_of_ble_eq_true rfl)) d_Md_close_3 ⟨Nat.zero_le _, Nat.zero_le _⟩) hS (fun q h => h) (fun H locs hsz9 hk1 hP1 hS => ?_)
  refine W.eq (g2 := F0 m 6 ls [.int f_Mo_lacks_b.1]) rfl ?_
  have hP : va_P D cls (wMo cI cJ cZ a f_Mo_lacks_b.2 kn ed ct ti nm xa xb ma it vs se sm rs wk ors owk) H := hP1
  have hD : va_D (blk a 15) (wMo cI cJ cZ a f_Mo_lacks_b.2 kn ed ct ti nm xa xb ma it vs se sm rs wk ors owk) := (blk_D (wMo_in))
  refine lv_topi (fun z9 e_z9 => ?_)
  obtain rfl : z9 = 1 := by rw [e_z9]; exact rfl
  refine lv_if_eq (tgt := 11) hx hb d_Md_close_6 (by decide) (fun hc => False.elim (by revert hc; decide)) (fun hc => ?_)
  refine lv_iconst (v := 0) hx hb d_Md_close_9 (by decide) ?_
  subst hR
  exact W.iret (v := 0) hx hb hr (fun t9 ht hW => ⟨rfl, hS.F ht, by rw [ht]; exact hP⟩) hS.2.2 d_Md_close_10

def f_Mo_operations (kn : Nat → Int32) (ct : Nat → Int32) (j : Nat) : Int32 × Int32 := if ((f_Mo_lacks kn j 1).1) = 0 then ((ct j, (f_Mo_lacks kn j 1).2)) else ((0, (f_Mo_lacks kn j 1).2))
set_option maxHeartbeats 4000000 in
set_option maxRecDepth 100000 in
theorem m_Mo_operations (l : Launch) (D : va_G) (cI cJ cZ cO : ClassId) (a : Nat) (code : Int32) (kn : Nat → Int32) (ed : Nat → Int32) (ct : Nat → Int32) (ti : Nat → Int32) (nm : Nat → Int32) (xa : Nat → Int32) (xb : Nat → Int32) (ma : Int32) (it : Nat → Int32) (vs : Nat → Int32) (se : Nat → Int32) (sm : Int64) (rs : Nat → Int64) (wk : Nat → Int32) (ors : Nat → Int64) (owk : Nat → Int32) (j : Nat) (hj : j < 4) (R : Int32 × Int32) (hR : f_Mo_operations kn ct j = R) : Met l y_Md_operations (k_Md_operations :: gt) rm_Md_operations (Pc0 D cI cJ cZ cO [.ref a, .int (nI j)] (fun H => va_P D cls (wMo cI cJ cZ a code kn ed ct ti nm xa xb ma it vs se sm rs wk ors owk) H)) (Qd (blk a 15) (some (.int R.1)) (fun H => va_P D cls (wMo cI cJ cZ a R.2 kn ed ct ti nm xa xb ma it vs se sm rs wk ors owk) H)) 0 0 (blk a 15) := by
  refine Met.ofW (cc := c_Md_operations) (maxL := 2) (ret := (Option.some FieldType.int)) (by decide) rfl ?_
  intro p e s m args below meth c s₁ B hml hv
  obtain ⟨rfl, hKn, hP⟩ := hv
  have hx := B.exec
  have hb := B.bytes
  have hr := B.returns
  have hts := atoms_spec (ws := k_Md_operations :: gt) B.pre
  have hg : ∀ w ∈ gt, w.before _ s = true := fun w h => hts w (List.mem_cons_of_mem _ h)
  have hown : s.vm.findClass R_Md = some m.cls := findClass_of_methodNamed B.named
  have hlocks := B.notSynchronized
  have hK := hKn.1
  have hl := lv_entry ([.ref a, .int (nI j)]) (n := 2) (Nat.le_of_ble_eq_true rfl)
  rw [lg_entry_eq]
  generalize (lg_sl ([.ref a, .int (nI j)]) ++ List.replicate (2 - (lg_sl ([.ref a, .int (nI j)])).length) Slot.unset).toArray = ls at hl ⊢
  have hl : lv_has ls 2 [(0, .ref a), (1, .int (nI j))] := hl
  have hS : va_S (blk a 15) s.heap s.heap [] := va_S.rf
  have hD : va_D (blk a 15) (wMo cI cJ cZ a code kn ed ct ti nm xa xb ma it vs se sm rs wk ors owk) := (blk_D (wMo_in))
  have hR : (if ((f_Mo_lacks kn j 1).1) = 0 then ((ct j, (f_Mo_lacks kn j 1).2)) else ((0, (f_Mo_lacks kn j 1).2))) = R := hR
  refine lv_aload_n hx hb d_Md_operations_0 rfl (lv_at hl 0 rfl) ?_
  refine lv_iload_n hx hb d_Md_operations_1 rfl (lv_at hl 1 rfl) ?_
  refine lv_iconst (v := 1) hx hb d_Md_operations_2 (by decide) ?_
  refine ep_callH (W.runV (As := [.int (nI j), .int 1]) (rest := []) ⟨hx, hb, hml, hown, hg⟩ (m_Mo_lacks l D cI cJ cZ cO a code kn ed ct ti nm xa xb ma it vs se sm rs wk ors owk j 1 (by omega) _ rfl) (ep_cwV 2 hg tw_773 tw_775 ts_9 tw_12 tk_Md_lacks rfl rfl (by decide +kernel) ⟨(Nat.le_of_ble_eq_true rfl), (Nat.le_of_ble_eq_true rfl)⟩) ⟨ep_blind, va_recv (q0 := 0) (ci := 9) hK hP rfl rfl, ep_pre hKn (hP)⟩ rfl rfl hl.1 rfl (lv_room (Nat.le_of_ble_eq_true rfl)) d_Md_operations_3 ⟨Nat.zero_le _, Nat.zero_le _⟩) hS (fun q h => h) (fun H locs hsz9 hk1 hP1 hS => ?_)
  refine W.eq (g2 := F0 m 6 ls [.int ((f_Mo_lacks kn j 1).1)]) rfl ?_
  have hP : va_P D cls (wMo cI cJ cZ a ((f_Mo_lacks kn j 1).2) kn ed ct ti nm xa xb ma it vs se sm rs wk ors owk) H := hP1
  have hD : va_D (blk a 15) (wMo cI cJ cZ a ((f_Mo_lacks kn j 1).2) kn ed ct ti nm xa xb ma it vs se sm rs wk ors owk) := (blk_D (wMo_in))
  refine lv_if_eq (tgt := 13) hx hb d_Md_operations_6 (by decide) (fun hc1 => ?_) (fun hc1 => ?_)
  · have hc1 : ((f_Mo_lacks kn j 1).1) = 0 := hc1
    refine lv_aload_n hx hb d_Md_operations_13 rfl (lv_at hl 0 rfl) ?_
    refine va_get (D := D) (ci := 9) (v := .ref (a + 3)) (C := R_Md) (T := F_Md) (N := 17) hx hb hg in_Md hown hK hP 0 rfl rfl 3 (Nat.le_of_ble_eq_true rfl) (hg _ tw_709) (fun _ h9 => h9) rfl d_Md_operations_14 ?_
    refine lv_iload_n hx hb d_Md_operations_17 rfl (lv_at hl 1 rfl) ?_
    refine ep_iald hx hb hK hP 3 0 rfl rfl (i := j) (by omega) (by decide) d_Md_operations_18 ?_
    rw [if_pos hc1] at hR
    subst hR
    exact W.iret (v := (ct j)) hx hb hr (fun t9 ht hW => ⟨rfl, hS.F ht, by rw [ht]; exact hP⟩) hS.2.2 d_Md_operations_19
  · have hc1 : ¬ (((f_Mo_lacks kn j 1).1) = 0) := hc1
    refine lv_iconst (v := 0) hx hb d_Md_operations_9 (by decide) ?_
    refine lv_goto (tgt := 19) hx hb d_Md_operations_10 (by decide) ?_
    rw [if_neg hc1] at hR
    subst hR
    exact W.iret (v := 0) hx hb hr (fun t9 ht hW => ⟨rfl, hS.F ht, by rw [ht]; exact hP⟩) hS.2.2 d_Md_operations_19

def f_Mo_operations_b  : Int32 := f_Mo_lacks_b.2
set_option maxHeartbeats 4000000 in
set_option maxRecDepth 100000 in
theorem m_Mo_operations_b (l : Launch) (D : va_G) (cI cJ cZ cO : ClassId) (a : Nat) (code : Int32) (kn : Nat → Int32) (ed : Nat → Int32) (ct : Nat → Int32) (ti : Nat → Int32) (nm : Nat → Int32) (xa : Nat → Int32) (xb : Nat → Int32) (ma : Int32) (it : Nat → Int32) (vs : Nat → Int32) (se : Nat → Int32) (sm : Int64) (rs : Nat → Int64) (wk : Nat → Int32) (ors : Nat → Int64) (owk : Nat → Int32) (id : Int32) (hid : ¬ okI id) (R : Int32) (hR : f_Mo_operations_b = R) : Met l y_Md_operations (k_Md_operations :: gt) rm_Md_operations (Pc0 D cI cJ cZ cO [.ref a, .int id] (fun H => va_P D cls (wMo cI cJ cZ a code kn ed ct ti nm xa xb ma it vs se sm rs wk ors owk) H)) (Qd (blk a 15) (some (.int 0)) (fun H => va_P D cls (wMo cI cJ cZ a R kn ed ct ti nm xa xb ma it vs se sm rs wk ors owk) H)) 0 0 (blk a 15) := by
  refine Met.ofW (cc := c_Md_operations) (maxL := 2) (ret := (Option.some FieldType.int)) (by decide) rfl ?_
  intro p e s m args below meth c s₁ B hml hv
  obtain ⟨rfl, hKn, hP⟩ := hv
  have hx := B.exec
  have hb := B.bytes
  have hr := B.returns
  have hts := atoms_spec (ws := k_Md_operations :: gt) B.pre
  have hg : ∀ w ∈ gt, w.before _ s = true := fun w h => hts w (List.mem_cons_of_mem _ h)
  have hown : s.vm.findClass R_Md = some m.cls := findClass_of_methodNamed B.named
  have hlocks := B.notSynchronized
  have hK := hKn.1
  have hl := lv_entry ([.ref a, .int id]) (n := 2) (Nat.le_of_ble_eq_true rfl)
  rw [lg_entry_eq]
  generalize (lg_sl ([.ref a, .int id]) ++ List.replicate (2 - (lg_sl ([.ref a, .int id])).length) Slot.unset).toArray = ls at hl ⊢
  have hl : lv_has ls 2 [(0, .ref a), (1, .int id)] := hl
  have hS : va_S (blk a 15) s.heap s.heap [] := va_S.rf
  have hD : va_D (blk a 15) (wMo cI cJ cZ a code kn ed ct ti nm xa xb ma it vs se sm rs wk ors owk) := (blk_D (wMo_in))
  have hR : (f_Mo_lacks_b.2) = R := hR
  refine lv_aload_n hx hb d_Md_operations_0 rfl (lv_at hl 0 rfl) ?_
  refine lv_iload_n hx hb d_Md_operations_1 rfl (lv_at hl 1 rfl) ?_
  refine lv_iconst (v := 1) hx hb d_Md_operations_2 (by decide) ?_
  refine ep_callH (W.runV (As := [.int id, .int 1]) (rest := []) ⟨hx, hb, hml, hown, hg⟩ (m_Mo_lacks_b l D cI cJ cZ cO a code kn ed ct ti nm xa xb ma it vs se sm rs wk ors owk id 1 hid _ rfl) (ep_cwV 2 hg tw_773 tw_775 ts_9 tw_12 tk_Md_lacks rfl rfl (by decide +kernel) ⟨(Nat.le_of_ble_eq_true rfl), (Nat.le_of_ble_eq_true rfl)⟩) ⟨ep_blind, va_recv (q0 := 0) (ci := 9) hK hP rfl rfl, ep_pre hKn (hP)⟩ rfl rfl hl.1 rfl (lv_room (Nat.le_of_ble_eq_true rfl)) d_Md_operations_3 ⟨Nat.zero_le _, Nat.zero_le _⟩) hS (fun q h => h) (fun H locs hsz9 hk1 hP1 hS => ?_)
  refine W.eq (g2 := F0 m 6 ls [.int f_Mo_lacks_b.1]) rfl ?_
  have hP : va_P D cls (wMo cI cJ cZ a f_Mo_lacks_b.2 kn ed ct ti nm xa xb ma it vs se sm rs wk ors owk) H := hP1
  have hD : va_D (blk a 15) (wMo cI cJ cZ a f_Mo_lacks_b.2 kn ed ct ti nm xa xb ma it vs se sm rs wk ors owk) := (blk_D (wMo_in))
  refine lv_topi (fun z9 e_z9 => ?_)
  obtain rfl : z9 = 1 := by rw [e_z9]; exact rfl
  refine lv_if_eq (tgt := 13) hx hb d_Md_operations_6 (by decide) (fun hc => False.elim (by revert hc; decide)) (fun hc => ?_)
  refine lv_iconst (v := 0) hx hb d_Md_operations_9 (by decide) ?_
  refine lv_goto (tgt := 19) hx hb d_Md_operations_10 (by decide) ?_
  subst hR
  exact W.iret (v := 0) hx hb hr (fun t9 ht hW => ⟨rfl, hS.F ht, by rw [ht]; exact hP⟩) hS.2.2 d_Md_operations_19

def f_Mo_put_b  : Int32 := f_Mo_lacks_b.2
set_option maxHeartbeats 4000000 in
set_option maxRecDepth 100000 in
theorem m_Mo_put_b (l : Launch) (D : va_G) (cI cJ cZ cO : ClassId) (a : Nat) (code : Int32) (kn : Nat → Int32) (ed : Nat → Int32) (ct : Nat → Int32) (ti : Nat → Int32) (nm : Nat → Int32) (xa : Nat → Int32) (xb : Nat → Int32) (ma : Int32) (it : Nat → Int32) (vs : Nat → Int32) (se : Nat → Int32) (sm : Int64) (rs : Nat → Int64) (wk : Nat → Int32) (ors : Nat → Int64) (owk : Nat → Int32) (id : Int32) (t : Int32) (u : Int32) (x : Int32) (y : Int32) (hid : ¬ okI id) (R : Int32) (hR : f_Mo_put_b = R) : Met l y_Md_put (k_Md_put :: gt) rm_Md_put (Pc0 D cI cJ cZ cO [.ref a, .int id, .int t, .int u, .int x, .int y] (fun H => va_P D cls (wMo cI cJ cZ a code kn ed ct ti nm xa xb ma it vs se sm rs wk ors owk) H)) (Qd (blk a 15) none (fun H => va_P D cls (wMo cI cJ cZ a R kn ed ct ti nm xa xb ma it vs se sm rs wk ors owk) H)) 0 0 (blk a 15) := by
  refine Met.ofW (cc := c_Md_put) (maxL := 6) (ret := none) (by decide) rfl ?_
  intro p e s m args below meth c s₁ B hml hv
  obtain ⟨rfl, hKn, hP⟩ := hv
  have hx := B.exec
  have hb := B.bytes
  have hr := B.returns
  have hts := atoms_spec (ws := k_Md_put :: gt) B.pre
  have hg : ∀ w ∈ gt, w.before _ s = true := fun w h => hts w (List.mem_cons_of_mem _ h)
  have hown : s.vm.findClass R_Md = some m.cls := findClass_of_methodNamed B.named
  have hlocks := B.notSynchronized
  have hK := hKn.1
  have hl := lv_entry ([.ref a, .int id, .int t, .int u, .int x, .int y]) (n := 6) (Nat.le_of_ble_eq_true rfl)
  rw [lg_entry_eq]
  generalize (lg_sl ([.ref a, .int id, .int t, .int u, .int x, .int y]) ++ List.replicate (6 - (lg_sl ([.ref a, .int id, .int t, .int u, .int x, .int y])).length) Slot.unset).toArray = ls at hl ⊢
  have hl : lv_has ls 6 [(0, .ref a), (1, .int id), (2, .int t), (3, .int u), (4, .int x), (5, .int y)] := hl
  have hS : va_S (blk a 15) s.heap s.heap [] := va_S.rf
  have hD : va_D (blk a 15) (wMo cI cJ cZ a code kn ed ct ti nm xa xb ma it vs se sm rs wk ors owk) := (blk_D (wMo_in))
  have hR : (f_Mo_lacks_b.2) = R := hR
  refine lv_aload_n hx hb d_Md_put_0 rfl (lv_at hl 0 rfl) ?_
  refine lv_iload_n hx hb d_Md_put_1 rfl (lv_at hl 1 rfl) ?_
  refine lv_iload_n hx hb d_Md_put_2 rfl (lv_at hl 2 rfl) ?_
  refine ep_callH (W.runV (As := [.int id, .int t]) (rest := []) ⟨hx, hb, hml, hown, hg⟩ (m_Mo_lacks_b l D cI cJ cZ cO a code kn ed ct ti nm xa xb ma it vs se sm rs wk ors owk id t hid _ rfl) (ep_cwV 2 hg tw_773 tw_775 ts_9 tw_12 tk_Md_lacks rfl rfl (by decide +kernel) ⟨(Nat.le_of_ble_eq_true rfl), (Nat.le_of_ble_eq_true rfl)⟩) ⟨ep_blind, va_recv (q0 := 0) (ci := 9) hK hP rfl rfl, ep_pre hKn (hP)⟩ rfl rfl hl.1 rfl (lv_room (Nat.le_of_ble_eq_true rfl)) d_Md_put_3 ⟨Nat.zero_le _, Nat.zero_le _⟩) hS (fun q h => h) (fun H locs hsz9 hk1 hP1 hS => ?_)
  refine W.eq (g2 := F0 m 6 ls [.int f_Mo_lacks_b.1]) rfl ?_
  have hP : va_P D cls (wMo cI cJ cZ a f_Mo_lacks_b.2 kn ed ct ti nm xa xb ma it vs se sm rs wk ors owk) H := hP1
  have hD : va_D (blk a 15) (wMo cI cJ cZ a f_Mo_lacks_b.2 kn ed ct ti nm xa xb ma it vs se sm rs wk ors owk) := (blk_D (wMo_in))
  refine lv_topi (fun z9 e_z9 => ?_)
  obtain rfl : z9 = 1 := by rw [e_z9]; exact rfl
  refine lv_if_eq (tgt := 10) hx hb d_Md_put_6 (by decide) (fun hc => False.elim (by revert hc; decide)) (fun hc => ?_)
  subst hR
  exact W.vret hx hb hr (fun t9 ht hW => ⟨rfl, hS.F ht, by rw [ht]; exact hP⟩) hS.2.2 d_Md_put_9

def f_Mo_put_e (kn : Nat → Int32) (j : Nat) (t : Int32) : Int32 := ((f_Mo_lacks kn j t).2)
set_option maxHeartbeats 4000000 in
set_option maxRecDepth 100000 in
theorem m_Mo_put_e (l : Launch) (D : va_G) (cI cJ cZ cO : ClassId) (a : Nat) (code : Int32) (kn : Nat → Int32) (ed : Nat → Int32) (ct : Nat → Int32) (ti : Nat → Int32) (nm : Nat → Int32) (xa : Nat → Int32) (xb : Nat → Int32) (ma : Int32) (it : Nat → Int32) (vs : Nat → Int32) (se : Nat → Int32) (sm : Int64) (rs : Nat → Int64) (wk : Nat → Int32) (ors : Nat → Int64) (owk : Nat → Int32) (j : Nat) (t : Int32) (u : Int32) (x : Int32) (y : Int32) (hj : j < 4) (hlk : ¬ (f_Mo_lacks kn j t).1 = 0) (R : Int32) (hR : f_Mo_put_e kn j t = R) : Met l y_Md_put (k_Md_put :: gt) rm_Md_put (Pc0 D cI cJ cZ cO [.ref a, .int (nI j), .int t, .int u, .int x, .int y] (fun H => va_P D cls (wMo cI cJ cZ a code kn ed ct ti nm xa xb ma it vs se sm rs wk ors owk) H)) (Qd (blk a 15) none (fun H => va_P D cls (wMo cI cJ cZ a R kn ed ct ti nm xa xb ma it vs se sm rs wk ors owk) H)) 0 0 (blk a 15) := by
  refine Met.ofW (cc := c_Md_put) (maxL := 6) (ret := none) (by decide) rfl ?_
  intro p e s m args below meth c s₁ B hml hv
  obtain ⟨rfl, hKn, hP⟩ := hv
  have hx := B.exec
  have hb := B.bytes
  have hr := B.returns
  have hts := atoms_spec (ws := k_Md_put :: gt) B.pre
  have hg : ∀ w ∈ gt, w.before _ s = true := fun w h => hts w (List.mem_cons_of_mem _ h)
  have hown : s.vm.findClass R_Md = some m.cls := findClass_of_methodNamed B.named
  have hlocks := B.notSynchronized
  have hK := hKn.1
  have hl := lv_entry ([.ref a, .int (nI j), .int t, .int u, .int x, .int y]) (n := 6) (Nat.le_of_ble_eq_true rfl)
  rw [lg_entry_eq]
  generalize (lg_sl ([.ref a, .int (nI j), .int t, .int u, .int x, .int y]) ++ List.replicate (6 - (lg_sl ([.ref a, .int (nI j), .int t, .int u, .int x, .int y])).length) Slot.unset).toArray = ls at hl ⊢
  have hl : lv_has ls 6 [(0, .ref a), (1, .int (nI j)), (2, .int t), (3, .int u), (4, .int x), (5, .int y)] := hl
  have hS : va_S (blk a 15) s.heap s.heap [] := va_S.rf
  have hD : va_D (blk a 15) (wMo cI cJ cZ a code kn ed ct ti nm xa xb ma it vs se sm rs wk ors owk) := (blk_D (wMo_in))
  have hR : (((f_Mo_lacks kn j t).2)) = R := hR
  refine lv_aload_n hx hb d_Md_put_0 rfl (lv_at hl 0 rfl) ?_
  refine lv_iload_n hx hb d_Md_put_1 rfl (lv_at hl 1 rfl) ?_
  refine lv_iload_n hx hb d_Md_put_2 rfl (lv_at hl 2 rfl) ?_
  refine ep_callH (W.runV (As := [.int (nI j), .int t]) (rest := []) ⟨hx, hb, hml, hown, hg⟩ (m_Mo_lacks l D cI cJ cZ cO a code kn ed ct ti nm xa xb ma it vs se sm rs wk ors owk j t (by omega) _ rfl) (ep_cwV 2 hg tw_773 tw_775 ts_9 tw_12 tk_Md_lacks rfl rfl (by decide +kernel) ⟨(Nat.le_of_ble_eq_true rfl), (Nat.le_of_ble_eq_true rfl)⟩) ⟨ep_blind, va_recv (q0 := 0) (ci := 9) hK hP rfl rfl, ep_pre hKn (hP)⟩ rfl rfl hl.1 rfl (lv_room (Nat.le_of_ble_eq_true rfl)) d_Md_put_3 ⟨Nat.zero_le _, Nat.zero_le _⟩) hS (fun q h => h) (fun H locs hsz9 hk1 hP1 hS => ?_)
  refine W.eq (g2 := F0 m 6 ls [.int ((f_Mo_lacks kn j t).1)]) rfl ?_
  have hP : va_P D cls (wMo cI cJ cZ a ((f_Mo_lacks kn j t).2) kn ed ct ti nm xa xb ma it vs se sm rs wk ors owk) H := hP1
  have hD : va_D (blk a 15) (wMo cI cJ cZ a ((f_Mo_lacks kn j t).2) kn ed ct ti nm xa xb ma it vs se sm rs wk ors owk) := (blk_D (wMo_in))
  refine lv_if_eq (tgt := 10) hx hb d_Md_put_6 (by decide) (fun hc => absurd hc hlk) (fun hc => ?_)
  subst hR
  exact W.vret hx hb hr (fun t9 ht hW => ⟨rfl, hS.F ht, by rw [ht]; exact hP⟩) hS.2.2 d_Md_put_9

def f_Mo_put_0 (ed : Nat → Int32) (ct : Nat → Int32) (ti : Nat → Int32) (nm : Nat → Int32) (xa : Nat → Int32) (xb : Nat → Int32) (n : Nat) (j : Nat) (t : Int32) (u : Int32) (x : Int32) (y : Int32) : Int32 × (Nat → Int32) × (Nat → Int32) × (Nat → Int32) × (Nat → Int32) × (Nat → Int32) × (Nat → Int32) := if ¬ (f_Mo_find ti n j t) = -1 then ((2, ed, ct, ti, nm, xa, xb)) else (if n = 32 then ((2, ed, ct, ti, nm, xa, xb)) else (if (f_Mo_fits_0 u x y) = 0 then ((3, ed, ct, ti, nm, xa, xb)) else ((0, (f_Mo_remember ed ct ti nm xa xb j).1, (f_Mo_insert ((f_Mo_remember ed ct ti nm xa xb j).2.1) ((f_Mo_remember ed ct ti nm xa xb j).2.2.1) ((f_Mo_remember ed ct ti nm xa xb j).2.2.2.1) ((f_Mo_remember ed ct ti nm xa xb j).2.2.2.2.1) ((f_Mo_remember ed ct ti nm xa xb j).2.2.2.2.2) n j t u x y).1, (f_Mo_insert ((f_Mo_remember ed ct ti nm xa xb j).2.1) ((f_Mo_remember ed ct ti nm xa xb j).2.2.1) ((f_Mo_remember ed ct ti nm xa xb j).2.2.2.1) ((f_Mo_remember ed ct ti nm xa xb j).2.2.2.2.1) ((f_Mo_remember ed ct ti nm xa xb j).2.2.2.2.2) n j t u x y).2.1, (f_Mo_insert ((f_Mo_remember ed ct ti nm xa xb j).2.1) ((f_Mo_remember ed ct ti nm xa xb j).2.2.1) ((f_Mo_remember ed ct ti nm xa xb j).2.2.2.1) ((f_Mo_remember ed ct ti nm xa xb j).2.2.2.2.1) ((f_Mo_remember ed ct ti nm xa xb j).2.2.2.2.2) n j t u x y).2.2.1, (f_Mo_insert ((f_Mo_remember ed ct ti nm xa xb j).2.1) ((f_Mo_remember ed ct ti nm xa xb j).2.2.1) ((f_Mo_remember ed ct ti nm xa xb j).2.2.2.1) ((f_Mo_remember ed ct ti nm xa xb j).2.2.2.2.1) ((f_Mo_remember ed ct ti nm xa xb j).2.2.2.2.2) n j t u x y).2.2.2.1, (f_Mo_insert ((f_Mo_remember ed ct ti nm xa xb j).2.1) ((f_Mo_remember ed ct ti nm xa xb j).2.2.1) ((f_Mo_remember ed ct ti nm xa xb j).2.2.2.1) ((f_Mo_remember ed ct ti nm xa xb j).2.2.2.2.1) ((f_Mo_remember ed ct ti nm xa xb j).2.2.2.2.2) n j t u x y).2.2.2.2))))
set_option maxHeartbeats 4000000 in
set_option maxRecDepth 100000 in
theorem m_Mo_put_0 (l : Launch) (D : va_G) (cI cJ cZ cO : ClassId) (a : Nat) (code : Int32) (kn : Nat → Int32) (ed : Nat → Int32) (ct : Nat → Int32) (ti : Nat → Int32) (nm : Nat → Int32) (xa : Nat → Int32) (xb : Nat → Int32) (ma : Int32) (it : Nat → Int32) (vs : Nat → Int32) (se : Nat → Int32) (sm : Int64) (rs : Nat → Int64) (wk : Nat → Int32) (ors : Nat → Int64) (owk : Nat → Int32) (n : Nat) (j : Nat) (t : Int32) (u : Int32) (x : Int32) (y : Int32) (hj : j < 4) (hlk : (f_Mo_lacks kn j t).1 = 0) (hk : kn j = 1) (hct : ct j = nI n) (hn : n ≤ 32) (R : Int32 × (Nat → Int32) × (Nat → Int32) × (Nat → Int32) × (Nat → Int32) × (Nat → Int32) × (Nat → Int32)) (hR : f_Mo_put_0 ed ct ti nm xa xb n j t u x y = R) : Met l y_Md_put (k_Md_put :: gt) rm_Md_put (Pc0 D cI cJ cZ cO [.ref a, .int (nI j), .int t, .int u, .int x, .int y] (fun H => va_P D cls (wMo cI cJ cZ a code kn ed ct ti nm xa xb ma it vs se sm rs wk ors owk) H)) (Qd (blk a 15) none (fun H => va_P D cls (wMo cI cJ cZ a R.1 kn R.2.1 R.2.2.1 R.2.2.2.1 R.2.2.2.2.1 R.2.2.2.2.2.1 R.2.2.2.2.2.2 ma it vs se sm rs wk ors owk) H)) 0 0 (blk a 15) := by
  refine Met.ofW (cc := c_Md_put) (maxL := 6) (ret := none) (by decide) rfl ?_
  intro p e s m args below meth c s₁ B hml hv
  obtain ⟨rfl, hKn, hP⟩ := hv
  have hx := B.exec
  have hb := B.bytes
  have hr := B.returns
  have hts := atoms_spec (ws := k_Md_put :: gt) B.pre
  have hg : ∀ w ∈ gt, w.before _ s = true := fun w h => hts w (List.mem_cons_of_mem _ h)
  have hown : s.vm.findClass R_Md = some m.cls := findClass_of_methodNamed B.named
  have hlocks := B.notSynchronized
  have hK := hKn.1
  have hl := lv_entry ([.ref a, .int (nI j), .int t, .int u, .int x, .int y]) (n := 6) (Nat.le_of_ble_eq_true rfl)
  rw [lg_entry_eq]
  generalize (lg_sl ([.ref a, .int (nI j), .int t, .int u, .int x, .int y]) ++ List.replicate (6 - (lg_sl ([.ref a, .int (nI j), .int t, .int u, .int x, .int y])).length) Slot.unset).toArray = ls at hl ⊢
  have hl : lv_has ls 6 [(0, .ref a), (1, .int (nI j)), (2, .int t), (3, .int u), (4, .int x), (5, .int y)] := hl
  have hS : va_S (blk a 15) s.heap s.heap [] := va_S.rf
  have hD : va_D (blk a 15) (wMo cI cJ cZ a code kn ed ct ti nm xa xb ma it vs se sm rs wk ors owk) := (blk_D (wMo_in))
  have hR : (if ¬ (f_Mo_find ti n j t) = -1 then ((2, ed, ct, ti, nm, xa, xb)) else (if n = 32 then ((2, ed, ct, ti, nm, xa, xb)) else (if (f_Mo_fits_0 u x y) = 0 then ((3, ed, ct, ti, nm, xa, xb)) else ((0, (f_Mo_remember ed ct ti nm xa xb j).1, (f_Mo_insert ((f_Mo_remember ed ct ti nm xa xb j).2.1) ((f_Mo_remember ed ct ti nm xa xb j).2.2.1) ((f_Mo_remember ed ct ti nm xa xb j).2.2.2.1) ((f_Mo_remember ed ct ti nm xa xb j).2.2.2.2.1) ((f_Mo_remember ed ct ti nm xa xb j).2.2.2.2.2) n j t u x y).1, (f_Mo_insert ((f_Mo_remember ed ct ti nm xa xb j).2.1) ((f_Mo_remember ed ct ti nm xa xb j).2.2.1) ((f_Mo_remember ed ct ti nm xa xb j).2.2.2.1) ((f_Mo_remember ed ct ti nm xa xb j).2.2.2.2.1) ((f_Mo_remember ed ct ti nm xa xb j).2.2.2.2.2) n j t u x y).2.1, (f_Mo_insert ((f_Mo_remember ed ct ti nm xa xb j).2.1) ((f_Mo_remember ed ct ti nm xa xb j).2.2.1) ((f_Mo_remember ed ct ti nm xa xb j).2.2.2.1) ((f_Mo_remember ed ct ti nm xa xb j).2.2.2.2.1) ((f_Mo_remember ed ct ti nm xa xb j).2.2.2.2.2) n j t u x y).2.2.1, (f_Mo_insert ((f_Mo_remember ed ct ti nm xa xb j).2.1) ((f_Mo_remember ed ct ti nm xa xb j).2.2.1) ((f_Mo_remember ed ct ti nm xa xb j).2.2.2.1) ((f_Mo_remember ed ct ti nm xa xb j).2.2.2.2.1) ((f_Mo_remember ed ct ti nm xa xb j).2.2.2.2.2) n j t u x y).2.2.2.1, (f_Mo_insert ((f_Mo_remember ed ct ti nm xa xb j).2.1) ((f_Mo_remember ed ct ti nm xa xb j).2.2.1) ((f_Mo_remember ed ct ti nm xa xb j).2.2.2.1) ((f_Mo_remember ed ct ti nm xa xb j).2.2.2.2.1) ((f_Mo_remember ed ct ti nm xa xb j).2.2.2.2.2) n j t u x y).2.2.2.2))))) = R := hR
  refine lv_aload_n hx hb d_Md_put_0 rfl (lv_at hl 0 rfl) ?_
  refine lv_iload_n hx hb d_Md_put_1 rfl (lv_at hl 1 rfl) ?_
  refine lv_iload_n hx hb d_Md_put_2 rfl (lv_at hl 2 rfl) ?_
  refine ep_callH (W.runV (As := [.int (nI j), .int t]) (rest := []) ⟨hx, hb, hml, hown, hg⟩ (m_Mo_lacks l D cI cJ cZ cO a code kn ed ct ti nm xa xb ma it vs se sm rs wk ors owk j t (by omega) _ rfl) (ep_cwV 2 hg tw_773 tw_775 ts_9 tw_12 tk_Md_lacks rfl rfl (by decide +kernel) ⟨(Nat.le_of_ble_eq_true rfl), (Nat.le_of_ble_eq_true rfl)⟩) ⟨ep_blind, va_recv (q0 := 0) (ci := 9) hK hP rfl rfl, ep_pre hKn (hP)⟩ rfl rfl hl.1 rfl (lv_room (Nat.le_of_ble_eq_true rfl)) d_Md_put_3 ⟨Nat.zero_le _, Nat.zero_le _⟩) hS (fun q h => h) (fun H locs hsz9 hk1 hP1 hS => ?_)
  refine W.eq (g2 := F0 m 6 ls [.int ((f_Mo_lacks kn j t).1)]) rfl ?_
  have hP : va_P D cls (wMo cI cJ cZ a ((f_Mo_lacks kn j t).2) kn ed ct ti nm xa xb ma it vs se sm rs wk ors owk) H := hP1
  have hD : va_D (blk a 15) (wMo cI cJ cZ a ((f_Mo_lacks kn j t).2) kn ed ct ti nm xa xb ma it vs se sm rs wk ors owk) := (blk_D (wMo_in))
  refine lv_if_eq (tgt := 10) hx hb d_Md_put_6 (by decide) (fun hc => ?_) (fun hc => absurd hlk hc)
  refine lv_aload_n hx hb d_Md_put_10 rfl (lv_at hl 0 rfl) ?_
  refine lv_aload_n hx hb d_Md_put_11 rfl (lv_at hl 0 rfl) ?_
  refine lv_iload_n hx hb d_Md_put_12 rfl (lv_at hl 1 rfl) ?_
  refine lv_iload_n hx hb d_Md_put_13 rfl (lv_at hl 2 rfl) ?_
  refine ep_callP (W.runV (As := [.int (nI j), .int t]) (rest := [.ref a]) ⟨hx, hb, hml, hown, hg⟩ (m_Mo_find l D cI cJ cZ cO a ((f_Mo_lacks kn j t).2) kn ed ct ti nm xa xb ma it vs se sm rs wk ors owk n j t (by omega) hct (by omega) _ rfl) (ep_cwV 2 hg tw_785 tw_787 ts_10 tw_12 tk_Md_find rfl rfl (by decide +kernel) ⟨(Nat.le_of_ble_eq_true rfl), (Nat.le_of_ble_eq_true rfl)⟩) ⟨ep_blind, va_recv (q0 := 0) (ci := 9) hK hP rfl rfl, ep_pre hKn (hP)⟩ rfl rfl hl.1 rfl (lv_room (Nat.le_of_ble_eq_true rfl)) d_Md_put_14 ⟨Nat.zero_le _, Nat.zero_le _⟩) ?_
  refine W.eq (g2 := F0 m 17 ls [.int (f_Mo_find ti n j t), .ref a]) rfl ?_
  refine lv_topi (fun z8 e_z8 => ?_)
  obtain rfl : z8 = oI (¬ (f_Mo_find ti n j t) = -1) ((f_Mo_find ti n j t).toNatClampNeg) := by rw [e_z8]; exact (oI_of (fi_at _ _ _ _ (by omega)))
  by_cases hc1 : ¬ (f_Mo_find ti n j t) = -1
  · rw [show oI (¬ (f_Mo_find ti n j t) = -1) ((f_Mo_find ti n j t).toNatClampNeg) = nI ((f_Mo_find ti n j t).toNatClampNeg) from if_pos hc1]
    have hp9 : ((f_Mo_find ti n j t)).toNatClampNeg < n := fi_lt _ _ _ _ (by omega) hc1
    refine lv_if_ge (tgt := 31) hx hb d_Md_put_17 (by decide) (fun hc => ?_) (fun hc => False.elim (by have hc : ¬ (0 ≤ (f_Mo_find ti n j t).toNatClampNeg) := fun h => hc (by exact (nI_leI (a := 0) (b := (f_Mo_find ti n j t).toNatClampNeg) (by omega) (by omega)).mpr h); omega))
    refine lv_iconst (v := 2) hx hb d_Md_put_31 (by decide) ?_
    refine lv_goto (tgt := 56) hx hb d_Md_put_32 (by decide) ?_
    refine va_put (D := D) (ci := 9) (v := .int 2) (ty := .int) (C := R_Md) (T := F_Md) (N := 17) hx hb hg in_Md t_Md t_Md_ok n_Md hown hK hP hD hS 0 rfl rfl 0 (Nat.le_of_ble_eq_true rfl) (hg _ tw_706) (fun _ h9 => h9) rfl (by decide +kernel) rfl rfl (Nat.le_of_ble_eq_true rfl) d_Md_put_56 (fun H locs hP hD hS => ?_)
    have hP : va_P D cls (wMo cI cJ cZ a 2 kn ed ct ti nm xa xb ma it vs se sm rs wk ors owk) H := hP
    have hD : va_D (blk a 15) (wMo cI cJ cZ a 2 kn ed ct ti nm xa xb ma it vs se sm rs wk ors owk) := hD
    refine lv_aload_n hx hb d_Md_put_59 rfl (lv_at hl 0 rfl) ?_
    refine va_get (D := D) (ci := 9) (v := .int 2) (C := R_Md) (T := F_Md) (N := 17) hx hb hg in_Md hown hK hP 0 rfl rfl 0 (Nat.le_of_ble_eq_true rfl) (hg _ tw_706) (fun _ h9 => h9) rfl d_Md_put_60 ?_
    refine lv_if_ne (tgt := 82) hx hb d_Md_put_63 (by decide) (fun hc => ?_) (fun hc => False.elim (by revert hc; decide))
    rw [if_pos hc1] at hR
    subst hR
    exact W.vret hx hb hr (fun t9 ht hW => ⟨rfl, hS.F ht, by rw [ht]; exact hP⟩) hS.2.2 d_Md_put_82
  · rw [show oI (¬ (f_Mo_find ti n j t) = -1) ((f_Mo_find ti n j t).toNatClampNeg) = -1 from if_neg hc1]
    refine lv_if_ge (tgt := 31) hx hb d_Md_put_17 (by decide) (fun hc => False.elim (by revert hc; decide)) (fun hc => ?_)
    refine lv_aload_n hx hb d_Md_put_20 rfl (lv_at hl 0 rfl) ?_
    refine va_get (D := D) (ci := 9) (v := .ref (a + 3)) (C := R_Md) (T := F_Md) (N := 17) hx hb hg in_Md hown hK hP 0 rfl rfl 3 (Nat.le_of_ble_eq_true rfl) (hg _ tw_709) (fun _ h9 => h9) rfl d_Md_put_21 ?_
    refine lv_iload_n hx hb d_Md_put_24 rfl (lv_at hl 1 rfl) ?_
    refine ep_iald hx hb hK hP 3 0 rfl rfl (i := j) (by omega) (by decide) d_Md_put_25 ?_
    refine lv_topi (fun z9 e_z9 => ?_)
    obtain rfl : z9 = nI n := by rw [e_z9]; exact hct
    refine lv_bipush (v := 32) hx hb d_Md_put_26 (by decide) ?_
    refine lv_icmp_ne (tgt := 35) hx hb d_Md_put_28 (by decide) (fun hc2 => ?_) (fun hc2 => ?_)
    · have hc2 : ¬ (n = 32) := fun h9 => hc2 ((nI_eq (a := n) (b := 32) (by omega) (by omega)).mpr h9)
      refine lv_aload_n hx hb d_Md_put_35 rfl (lv_at hl 0 rfl) ?_
      refine lv_iload_n hx hb d_Md_put_36 rfl (lv_at hl 1 rfl) ?_
      refine ep_callP (W.runV (As := [.int (nI j)]) (rest := [.ref a]) ⟨hx, hb, hml, hown, hg⟩ (m_Mo_kindOf l D cI cJ cZ cO a ((f_Mo_lacks kn j t).2) kn ed ct ti nm xa xb ma it vs se sm rs wk ors owk j (by omega) _ rfl) (ep_cwV 1 hg tw_789 tw_791 ts_11 tw_12 tk_Md_kindOf rfl rfl (by decide +kernel) ⟨(Nat.le_of_ble_eq_true rfl), (Nat.le_of_ble_eq_true rfl)⟩) ⟨ep_blind, va_recv (q0 := 0) (ci := 9) hK hP rfl rfl, ep_pre hKn (hP)⟩ rfl rfl hl.1 rfl (lv_room (Nat.le_of_ble_eq_true rfl)) d_Md_put_37 ⟨Nat.zero_le _, Nat.zero_le _⟩) ?_
      refine W.eq (g2 := F0 m 40 ls [.int (f_Mo_kindOf kn j), .ref a]) rfl ?_
      refine lv_topi (fun z9 e_z9 => ?_)
      obtain rfl : z9 = 0 := by rw [e_z9]; exact (by rw [show f_Mo_kindOf kn j = kn j - 1 from rfl, hk]; decide)
      refine lv_iload_n hx hb d_Md_put_40 rfl (lv_at hl 3 rfl) ?_
      refine lv_iload hx hb d_Md_put_41 (lv_at hl 4 rfl) ?_
      refine lv_iload hx hb d_Md_put_43 (lv_at hl 5 rfl) ?_
      refine ep_callP (W.runS (As := [.int 0, .int u, .int x, .int y]) (rest := [.ref a]) ⟨hx, hb, hml, hown, hg⟩ (m_Mo_fits_0 l D cI cJ cZ cO u x y _ rfl) (ep_cwS 4 hg tw_793 tw_794 tw_12 tk_Md_fits rfl rfl (by decide +kernel) ⟨(Nat.le_of_ble_eq_true rfl), (Nat.le_of_ble_eq_true rfl)⟩) ⟨ep_blind, ep_pre hKn (trivial)⟩ rfl rfl hl.1 rfl (lv_room (Nat.le_of_ble_eq_true rfl)) d_Md_put_45 ⟨Nat.zero_le _, Nat.zero_le _⟩) ?_
      refine W.eq (g2 := F0 m 48 ls [.int (f_Mo_fits_0 u x y), .ref a]) rfl ?_
      refine lv_if_ne (tgt := 55) hx hb d_Md_put_48 (by decide) (fun hc3 => ?_) (fun hc3 => ?_)
      · have hc3 : ¬ ((f_Mo_fits_0 u x y) = 0) := hc3
        refine lv_iconst (v := 0) hx hb d_Md_put_55 (by decide) ?_
        refine va_put (D := D) (ci := 9) (v := .int 0) (ty := .int) (C := R_Md) (T := F_Md) (N := 17) hx hb hg in_Md t_Md t_Md_ok n_Md hown hK hP hD hS 0 rfl rfl 0 (Nat.le_of_ble_eq_true rfl) (hg _ tw_706) (fun _ h9 => h9) rfl (by decide +kernel) rfl rfl (Nat.le_of_ble_eq_true rfl) d_Md_put_56 (fun H locs hP hD hS => ?_)
        have hP : va_P D cls (wMo cI cJ cZ a 0 kn ed ct ti nm xa xb ma it vs se sm rs wk ors owk) H := hP
        have hD : va_D (blk a 15) (wMo cI cJ cZ a 0 kn ed ct ti nm xa xb ma it vs se sm rs wk ors owk) := hD
        refine lv_aload_n hx hb d_Md_put_59 rfl (lv_at hl 0 rfl) ?_
        refine va_get (D := D) (ci := 9) (v := .int 0) (C := R_Md) (T := F_Md) (N := 17) hx hb hg in_Md hown hK hP 0 rfl rfl 0 (Nat.le_of_ble_eq_true rfl) (hg _ tw_706) (fun _ h9 => h9) rfl d_Md_put_60 ?_
        refine lv_if_ne (tgt := 82) hx hb d_Md_put_63 (by decide) (fun hc => False.elim (by revert hc; decide)) (fun hc => ?_)
        refine lv_aload_n hx hb d_Md_put_66 rfl (lv_at hl 0 rfl) ?_
        refine lv_iload_n hx hb d_Md_put_67 rfl (lv_at hl 1 rfl) ?_
        refine ep_callH (W.runV (As := [.int (nI j)]) (rest := []) ⟨hx, hb, hml, hown, hg⟩ (m_Mo_remember l D cI cJ cZ cO a 0 kn ed ct ti nm xa xb ma it vs se sm rs wk ors owk j (by omega) _ rfl) (ep_cwV 1 hg tw_800 tw_802 ts_12 tw_12 tk_Md_remember rfl rfl (by decide +kernel) ⟨(Nat.le_of_ble_eq_true rfl), (Nat.le_of_ble_eq_true rfl)⟩) ⟨ep_blind, va_recv (q0 := 0) (ci := 9) hK hP rfl rfl, ep_pre hKn (hP)⟩ rfl rfl hl.1 rfl (lv_room (Nat.le_of_ble_eq_true rfl)) d_Md_put_68 ⟨Nat.zero_le _, Nat.zero_le _⟩) hS (fun q h => h) (fun H locs hsz9 hk1 hP1 hS => ?_)
        refine W.eq (g2 := F0 m 71 ls []) rfl ?_
        have hP : va_P D cls (wMo cI cJ cZ a 0 kn ((f_Mo_remember ed ct ti nm xa xb j).1) ((f_Mo_remember ed ct ti nm xa xb j).2.1) ((f_Mo_remember ed ct ti nm xa xb j).2.2.1) ((f_Mo_remember ed ct ti nm xa xb j).2.2.2.1) ((f_Mo_remember ed ct ti nm xa xb j).2.2.2.2.1) ((f_Mo_remember ed ct ti nm xa xb j).2.2.2.2.2) ma it vs se sm rs wk ors owk) H := hP1
        have hD : va_D (blk a 15) (wMo cI cJ cZ a 0 kn ((f_Mo_remember ed ct ti nm xa xb j).1) ((f_Mo_remember ed ct ti nm xa xb j).2.1) ((f_Mo_remember ed ct ti nm xa xb j).2.2.1) ((f_Mo_remember ed ct ti nm xa xb j).2.2.2.1) ((f_Mo_remember ed ct ti nm xa xb j).2.2.2.2.1) ((f_Mo_remember ed ct ti nm xa xb j).2.2.2.2.2) ma it vs se sm rs wk ors owk) := (blk_D (wMo_in))
        refine lv_aload_n hx hb d_Md_put_71 rfl (lv_at hl 0 rfl) ?_
        refine lv_iload_n hx hb d_Md_put_72 rfl (lv_at hl 1 rfl) ?_
        refine lv_iload_n hx hb d_Md_put_73 rfl (lv_at hl 2 rfl) ?_
        refine lv_iload_n hx hb d_Md_put_74 rfl (lv_at hl 3 rfl) ?_
        refine lv_iload hx hb d_Md_put_75 (lv_at hl 4 rfl) ?_
        refine lv_iload hx hb d_Md_put_77 (lv_at hl 5 rfl) ?_
        refine ep_callH (W.runV (As := [.int (nI j), .int t, .int u, .int x, .int y]) (rest := []) ⟨hx, hb, hml, hown, hg⟩ (m_Mo_insert l D cI cJ cZ cO a 0 kn ((f_Mo_remember ed ct ti nm xa xb j).1) ((f_Mo_remember ed ct ti nm xa xb j).2.1) ((f_Mo_remember ed ct ti nm xa xb j).2.2.1) ((f_Mo_remember ed ct ti nm xa xb j).2.2.2.1) ((f_Mo_remember ed ct ti nm xa xb j).2.2.2.2.1) ((f_Mo_remember ed ct ti nm xa xb j).2.2.2.2.2) ma it vs se sm rs wk ors owk n j t u x y (by omega) (rem_ct _ _ _ _ _ _ _ _ hct) (by omega) _ rfl) (ep_cwV 5 hg tw_808 tw_810 ts_14 tw_12 tk_Md_insert rfl rfl (by decide +kernel) ⟨(Nat.le_of_ble_eq_true rfl), (Nat.le_of_ble_eq_true rfl)⟩) ⟨ep_blind, va_recv (q0 := 0) (ci := 9) hK hP rfl rfl, ep_pre hKn (hP)⟩ rfl rfl hl.1 rfl (lv_room (Nat.le_of_ble_eq_true rfl)) d_Md_put_79 ⟨Nat.zero_le _, Nat.zero_le _⟩) hS (fun q h => h) (fun H locs hsz9 hk1 hP1 hS => ?_)
        refine W.eq (g2 := F0 m 82 ls []) rfl ?_
        have hP : va_P D cls (wMo cI cJ cZ a 0 kn ((f_Mo_remember ed ct ti nm xa xb j).1) ((f_Mo_insert ((f_Mo_remember ed ct ti nm xa xb j).2.1) ((f_Mo_remember ed ct ti nm xa xb j).2.2.1) ((f_Mo_remember ed ct ti nm xa xb j).2.2.2.1) ((f_Mo_remember ed ct ti nm xa xb j).2.2.2.2.1) ((f_Mo_remember ed ct ti nm xa xb j).2.2.2.2.2) n j t u x y).1) ((f_Mo_insert ((f_Mo_remember ed ct ti nm xa xb j).2.1) ((f_Mo_remember ed ct ti nm xa xb j).2.2.1) ((f_Mo_remember ed ct ti nm xa xb j).2.2.2.1) ((f_Mo_remember ed ct ti nm xa xb j).2.2.2.2.1) ((f_Mo_remember ed ct ti nm xa xb j).2.2.2.2.2) n j t u x y).2.1) ((f_Mo_insert ((f_Mo_remember ed ct ti nm xa xb j).2.1) ((f_Mo_remember ed ct ti nm xa xb j).2.2.1) ((f_Mo_remember ed ct ti nm xa xb j).2.2.2.1) ((f_Mo_remember ed ct ti nm xa xb j).2.2.2.2.1) ((f_Mo_remember ed ct ti nm xa xb j).2.2.2.2.2) n j t u x y).2.2.1) ((f_Mo_insert ((f_Mo_remember ed ct ti nm xa xb j).2.1) ((f_Mo_remember ed ct ti nm xa xb j).2.2.1) ((f_Mo_remember ed ct ti nm xa xb j).2.2.2.1) ((f_Mo_remember ed ct ti nm xa xb j).2.2.2.2.1) ((f_Mo_remember ed ct ti nm xa xb j).2.2.2.2.2) n j t u x y).2.2.2.1) ((f_Mo_insert ((f_Mo_remember ed ct ti nm xa xb j).2.1) ((f_Mo_remember ed ct ti nm xa xb j).2.2.1) ((f_Mo_remember ed ct ti nm xa xb j).2.2.2.1) ((f_Mo_remember ed ct ti nm xa xb j).2.2.2.2.1) ((f_Mo_remember ed ct ti nm xa xb j).2.2.2.2.2) n j t u x y).2.2.2.2) ma it vs se sm rs wk ors owk) H := hP1
        have hD : va_D (blk a 15) (wMo cI cJ cZ a 0 kn ((f_Mo_remember ed ct ti nm xa xb j).1) ((f_Mo_insert ((f_Mo_remember ed ct ti nm xa xb j).2.1) ((f_Mo_remember ed ct ti nm xa xb j).2.2.1) ((f_Mo_remember ed ct ti nm xa xb j).2.2.2.1) ((f_Mo_remember ed ct ti nm xa xb j).2.2.2.2.1) ((f_Mo_remember ed ct ti nm xa xb j).2.2.2.2.2) n j t u x y).1) ((f_Mo_insert ((f_Mo_remember ed ct ti nm xa xb j).2.1) ((f_Mo_remember ed ct ti nm xa xb j).2.2.1) ((f_Mo_remember ed ct ti nm xa xb j).2.2.2.1) ((f_Mo_remember ed ct ti nm xa xb j).2.2.2.2.1) ((f_Mo_remember ed ct ti nm xa xb j).2.2.2.2.2) n j t u x y).2.1) ((f_Mo_insert ((f_Mo_remember ed ct ti nm xa xb j).2.1) ((f_Mo_remember ed ct ti nm xa xb j).2.2.1) ((f_Mo_remember ed ct ti nm xa xb j).2.2.2.1) ((f_Mo_remember ed ct ti nm xa xb j).2.2.2.2.1) ((f_Mo_remember ed ct ti nm xa xb j).2.2.2.2.2) n j t u x y).2.2.1) ((f_Mo_insert ((f_Mo_remember ed ct ti nm xa xb j).2.1) ((f_Mo_remember ed ct ti nm xa xb j).2.2.1) ((f_Mo_remember ed ct ti nm xa xb j).2.2.2.1) ((f_Mo_remember ed ct ti nm xa xb j).2.2.2.2.1) ((f_Mo_remember ed ct ti nm xa xb j).2.2.2.2.2) n j t u x y).2.2.2.1) ((f_Mo_insert ((f_Mo_remember ed ct ti nm xa xb j).2.1) ((f_Mo_remember ed ct ti nm xa xb j).2.2.1) ((f_Mo_remember ed ct ti nm xa xb j).2.2.2.1) ((f_Mo_remember ed ct ti nm xa xb j).2.2.2.2.1) ((f_Mo_remember ed ct ti nm xa xb j).2.2.2.2.2) n j t u x y).2.2.2.2) ma it vs se sm rs wk ors owk) := (blk_D (wMo_in))
        rw [if_neg hc1, if_neg hc2, if_neg hc3] at hR
        subst hR
        exact W.vret hx hb hr (fun t9 ht hW => ⟨rfl, hS.F ht, by rw [ht]; exact hP⟩) hS.2.2 d_Md_put_82
      · have hc3 : (f_Mo_fits_0 u x y) = 0 := hc3
        refine lv_iconst (v := 3) hx hb d_Md_put_51 (by decide) ?_
        refine lv_goto (tgt := 56) hx hb d_Md_put_52 (by decide) ?_
        refine va_put (D := D) (ci := 9) (v := .int 3) (ty := .int) (C := R_Md) (T := F_Md) (N := 17) hx hb hg in_Md t_Md t_Md_ok n_Md hown hK hP hD hS 0 rfl rfl 0 (Nat.le_of_ble_eq_true rfl) (hg _ tw_706) (fun _ h9 => h9) rfl (by decide +kernel) rfl rfl (Nat.le_of_ble_eq_true rfl) d_Md_put_56 (fun H locs hP hD hS => ?_)
        have hP : va_P D cls (wMo cI cJ cZ a 3 kn ed ct ti nm xa xb ma it vs se sm rs wk ors owk) H := hP
        have hD : va_D (blk a 15) (wMo cI cJ cZ a 3 kn ed ct ti nm xa xb ma it vs se sm rs wk ors owk) := hD
        refine lv_aload_n hx hb d_Md_put_59 rfl (lv_at hl 0 rfl) ?_
        refine va_get (D := D) (ci := 9) (v := .int 3) (C := R_Md) (T := F_Md) (N := 17) hx hb hg in_Md hown hK hP 0 rfl rfl 0 (Nat.le_of_ble_eq_true rfl) (hg _ tw_706) (fun _ h9 => h9) rfl d_Md_put_60 ?_
        refine lv_if_ne (tgt := 82) hx hb d_Md_put_63 (by decide) (fun hc => ?_) (fun hc => False.elim (by revert hc; decide))
        rw [if_neg hc1, if_neg hc2, if_pos hc3] at hR
        subst hR
        exact W.vret hx hb hr (fun t9 ht hW => ⟨rfl, hS.F ht, by rw [ht]; exact hP⟩) hS.2.2 d_Md_put_82
    · have hc2 : n = 32 := (nI_eq (a := n) (b := 32) (by omega) (by omega)).mp hc2
      refine lv_iconst (v := 2) hx hb d_Md_put_31 (by decide) ?_
      refine lv_goto (tgt := 56) hx hb d_Md_put_32 (by decide) ?_
      refine va_put (D := D) (ci := 9) (v := .int 2) (ty := .int) (C := R_Md) (T := F_Md) (N := 17) hx hb hg in_Md t_Md t_Md_ok n_Md hown hK hP hD hS 0 rfl rfl 0 (Nat.le_of_ble_eq_true rfl) (hg _ tw_706) (fun _ h9 => h9) rfl (by decide +kernel) rfl rfl (Nat.le_of_ble_eq_true rfl) d_Md_put_56 (fun H locs hP hD hS => ?_)
      have hP : va_P D cls (wMo cI cJ cZ a 2 kn ed ct ti nm xa xb ma it vs se sm rs wk ors owk) H := hP
      have hD : va_D (blk a 15) (wMo cI cJ cZ a 2 kn ed ct ti nm xa xb ma it vs se sm rs wk ors owk) := hD
      refine lv_aload_n hx hb d_Md_put_59 rfl (lv_at hl 0 rfl) ?_
      refine va_get (D := D) (ci := 9) (v := .int 2) (C := R_Md) (T := F_Md) (N := 17) hx hb hg in_Md hown hK hP 0 rfl rfl 0 (Nat.le_of_ble_eq_true rfl) (hg _ tw_706) (fun _ h9 => h9) rfl d_Md_put_60 ?_
      refine lv_if_ne (tgt := 82) hx hb d_Md_put_63 (by decide) (fun hc => ?_) (fun hc => False.elim (by revert hc; decide))
      rw [if_neg hc1, if_pos hc2] at hR
      subst hR
      exact W.vret hx hb hr (fun t9 ht hW => ⟨rfl, hS.F ht, by rw [ht]; exact hP⟩) hS.2.2 d_Md_put_82

def f_Mo_put_1 (ed : Nat → Int32) (ct : Nat → Int32) (ti : Nat → Int32) (nm : Nat → Int32) (xa : Nat → Int32) (xb : Nat → Int32) (n : Nat) (j : Nat) (t : Int32) (u : Int32) (x : Int32) (y : Int32) : Int32 × (Nat → Int32) × (Nat → Int32) × (Nat → Int32) × (Nat → Int32) × (Nat → Int32) × (Nat → Int32) := if ¬ (f_Mo_find ti n j t) = -1 then ((2, ed, ct, ti, nm, xa, xb)) else (if n = 32 then ((2, ed, ct, ti, nm, xa, xb)) else (if (f_Mo_fits_1 u x y) = 0 then ((3, ed, ct, ti, nm, xa, xb)) else ((0, (f_Mo_remember ed ct ti nm xa xb j).1, (f_Mo_insert ((f_Mo_remember ed ct ti nm xa xb j).2.1) ((f_Mo_remember ed ct ti nm xa xb j).2.2.1) ((f_Mo_remember ed ct ti nm xa xb j).2.2.2.1) ((f_Mo_remember ed ct ti nm xa xb j).2.2.2.2.1) ((f_Mo_remember ed ct ti nm xa xb j).2.2.2.2.2) n j t u x y).1, (f_Mo_insert ((f_Mo_remember ed ct ti nm xa xb j).2.1) ((f_Mo_remember ed ct ti nm xa xb j).2.2.1) ((f_Mo_remember ed ct ti nm xa xb j).2.2.2.1) ((f_Mo_remember ed ct ti nm xa xb j).2.2.2.2.1) ((f_Mo_remember ed ct ti nm xa xb j).2.2.2.2.2) n j t u x y).2.1, (f_Mo_insert ((f_Mo_remember ed ct ti nm xa xb j).2.1) ((f_Mo_remember ed ct ti nm xa xb j).2.2.1) ((f_Mo_remember ed ct ti nm xa xb j).2.2.2.1) ((f_Mo_remember ed ct ti nm xa xb j).2.2.2.2.1) ((f_Mo_remember ed ct ti nm xa xb j).2.2.2.2.2) n j t u x y).2.2.1, (f_Mo_insert ((f_Mo_remember ed ct ti nm xa xb j).2.1) ((f_Mo_remember ed ct ti nm xa xb j).2.2.1) ((f_Mo_remember ed ct ti nm xa xb j).2.2.2.1) ((f_Mo_remember ed ct ti nm xa xb j).2.2.2.2.1) ((f_Mo_remember ed ct ti nm xa xb j).2.2.2.2.2) n j t u x y).2.2.2.1, (f_Mo_insert ((f_Mo_remember ed ct ti nm xa xb j).2.1) ((f_Mo_remember ed ct ti nm xa xb j).2.2.1) ((f_Mo_remember ed ct ti nm xa xb j).2.2.2.1) ((f_Mo_remember ed ct ti nm xa xb j).2.2.2.2.1) ((f_Mo_remember ed ct ti nm xa xb j).2.2.2.2.2) n j t u x y).2.2.2.2))))
set_option maxHeartbeats 4000000 in
set_option maxRecDepth 100000 in
theorem m_Mo_put_1 (l : Launch) (D : va_G) (cI cJ cZ cO : ClassId) (a : Nat) (code : Int32) (kn : Nat → Int32) (ed : Nat → Int32) (ct : Nat → Int32) (ti : Nat → Int32) (nm : Nat → Int32) (xa : Nat → Int32) (xb : Nat → Int32) (ma : Int32) (it : Nat → Int32) (vs : Nat → Int32) (se : Nat → Int32) (sm : Int64) (rs : Nat → Int64) (wk : Nat → Int32) (ors : Nat → Int64) (owk : Nat → Int32) (n : Nat) (j : Nat) (t : Int32) (u : Int32) (x : Int32) (y : Int32) (hj : j < 4) (hlk : (f_Mo_lacks kn j t).1 = 0) (hk : kn j = 2) (hct : ct j = nI n) (hn : n ≤ 32) (R : Int32 × (Nat → Int32) × (Nat → Int32) × (Nat → Int32) × (Nat → Int32) × (Nat → Int32) × (Nat → Int32)) (hR : f_Mo_put_1 ed ct ti nm xa xb n j t u x y = R) : Met l y_Md_put (k_Md_put :: gt) rm_Md_put (Pc0 D cI cJ cZ cO [.ref a, .int (nI j), .int t, .int u, .int x, .int y] (fun H => va_P D cls (wMo cI cJ cZ a code kn ed ct ti nm xa xb ma it vs se sm rs wk ors owk) H)) (Qd (blk a 15) none (fun H => va_P D cls (wMo cI cJ cZ a R.1 kn R.2.1 R.2.2.1 R.2.2.2.1 R.2.2.2.2.1 R.2.2.2.2.2.1 R.2.2.2.2.2.2 ma it vs se sm rs wk ors owk) H)) 0 0 (blk a 15) := by
  refine Met.ofW (cc := c_Md_put) (maxL := 6) (ret := none) (by decide) rfl ?_
  intro p e s m args below meth c s₁ B hml hv
  obtain ⟨rfl, hKn, hP⟩ := hv
  have hx := B.exec
  have hb := B.bytes
  have hr := B.returns
  have hts := atoms_spec (ws := k_Md_put :: gt) B.pre
  have hg : ∀ w ∈ gt, w.before _ s = true := fun w h => hts w (List.mem_cons_of_mem _ h)
  have hown : s.vm.findClass R_Md = some m.cls := findClass_of_methodNamed B.named
  have hlocks := B.notSynchronized
  have hK := hKn.1
  have hl := lv_entry ([.ref a, .int (nI j), .int t, .int u, .int x, .int y]) (n := 6) (Nat.le_of_ble_eq_true rfl)
  rw [lg_entry_eq]
  generalize (lg_sl ([.ref a, .int (nI j), .int t, .int u, .int x, .int y]) ++ List.replicate (6 - (lg_sl ([.ref a, .int (nI j), .int t, .int u, .int x, .int y])).length) Slot.unset).toArray = ls at hl ⊢
  have hl : lv_has ls 6 [(0, .ref a), (1, .int (nI j)), (2, .int t), (3, .int u), (4, .int x), (5, .int y)] := hl
  have hS : va_S (blk a 15) s.heap s.heap [] := va_S.rf
  have hD : va_D (blk a 15) (wMo cI cJ cZ a code kn ed ct ti nm xa xb ma it vs se sm rs wk ors owk) := (blk_D (wMo_in))
  have hR : (if ¬ (f_Mo_find ti n j t) = -1 then ((2, ed, ct, ti, nm, xa, xb)) else (if n = 32 then ((2, ed, ct, ti, nm, xa, xb)) else (if (f_Mo_fits_1 u x y) = 0 then ((3, ed, ct, ti, nm, xa, xb)) else ((0, (f_Mo_remember ed ct ti nm xa xb j).1, (f_Mo_insert ((f_Mo_remember ed ct ti nm xa xb j).2.1) ((f_Mo_remember ed ct ti nm xa xb j).2.2.1) ((f_Mo_remember ed ct ti nm xa xb j).2.2.2.1) ((f_Mo_remember ed ct ti nm xa xb j).2.2.2.2.1) ((f_Mo_remember ed ct ti nm xa xb j).2.2.2.2.2) n j t u x y).1, (f_Mo_insert ((f_Mo_remember ed ct ti nm xa xb j).2.1) ((f_Mo_remember ed ct ti nm xa xb j).2.2.1) ((f_Mo_remember ed ct ti nm xa xb j).2.2.2.1) ((f_Mo_remember ed ct ti nm xa xb j).2.2.2.2.1) ((f_Mo_remember ed ct ti nm xa xb j).2.2.2.2.2) n j t u x y).2.1, (f_Mo_insert ((f_Mo_remember ed ct ti nm xa xb j).2.1) ((f_Mo_remember ed ct ti nm xa xb j).2.2.1) ((f_Mo_remember ed ct ti nm xa xb j).2.2.2.1) ((f_Mo_remember ed ct ti nm xa xb j).2.2.2.2.1) ((f_Mo_remember ed ct ti nm xa xb j).2.2.2.2.2) n j t u x y).2.2.1, (f_Mo_insert ((f_Mo_remember ed ct ti nm xa xb j).2.1) ((f_Mo_remember ed ct ti nm xa xb j).2.2.1) ((f_Mo_remember ed ct ti nm xa xb j).2.2.2.1) ((f_Mo_remember ed ct ti nm xa xb j).2.2.2.2.1) ((f_Mo_remember ed ct ti nm xa xb j).2.2.2.2.2) n j t u x y).2.2.2.1, (f_Mo_insert ((f_Mo_remember ed ct ti nm xa xb j).2.1) ((f_Mo_remember ed ct ti nm xa xb j).2.2.1) ((f_Mo_remember ed ct ti nm xa xb j).2.2.2.1) ((f_Mo_remember ed ct ti nm xa xb j).2.2.2.2.1) ((f_Mo_remember ed ct ti nm xa xb j).2.2.2.2.2) n j t u x y).2.2.2.2))))) = R := hR
  refine lv_aload_n hx hb d_Md_put_0 rfl (lv_at hl 0 rfl) ?_
  refine lv_iload_n hx hb d_Md_put_1 rfl (lv_at hl 1 rfl) ?_
  refine lv_iload_n hx hb d_Md_put_2 rfl (lv_at hl 2 rfl) ?_
  refine ep_callH (W.runV (As := [.int (nI j), .int t]) (rest := []) ⟨hx, hb, hml, hown, hg⟩ (m_Mo_lacks l D cI cJ cZ cO a code kn ed ct ti nm xa xb ma it vs se sm rs wk ors owk j t (by omega) _ rfl) (ep_cwV 2 hg tw_773 tw_775 ts_9 tw_12 tk_Md_lacks rfl rfl (by decide +kernel) ⟨(Nat.le_of_ble_eq_true rfl), (Nat.le_of_ble_eq_true rfl)⟩) ⟨ep_blind, va_recv (q0 := 0) (ci := 9) hK hP rfl rfl, ep_pre hKn (hP)⟩ rfl rfl hl.1 rfl (lv_room (Nat.le_of_ble_eq_true rfl)) d_Md_put_3 ⟨Nat.zero_le _, Nat.zero_le _⟩) hS (fun q h => h) (fun H locs hsz9 hk1 hP1 hS => ?_)
  refine W.eq (g2 := F0 m 6 ls [.int ((f_Mo_lacks kn j t).1)]) rfl ?_
  have hP : va_P D cls (wMo cI cJ cZ a ((f_Mo_lacks kn j t).2) kn ed ct ti nm xa xb ma it vs se sm rs wk ors owk) H := hP1
  have hD : va_D (blk a 15) (wMo cI cJ cZ a ((f_Mo_lacks kn j t).2) kn ed ct ti nm xa xb ma it vs se sm rs wk ors owk) := (blk_D (wMo_in))
  refine lv_if_eq (tgt := 10) hx hb d_Md_put_6 (by decide) (fun hc => ?_) (fun hc => absurd hlk hc)
  refine lv_aload_n hx hb d_Md_put_10 rfl (lv_at hl 0 rfl) ?_
  refine lv_aload_n hx hb d_Md_put_11 rfl (lv_at hl 0 rfl) ?_
  refine lv_iload_n hx hb d_Md_put_12 rfl (lv_at hl 1 rfl) ?_
  refine lv_iload_n hx hb d_Md_put_13 rfl (lv_at hl 2 rfl) ?_
  refine ep_callP (W.runV (As := [.int (nI j), .int t]) (rest := [.ref a]) ⟨hx, hb, hml, hown, hg⟩ (m_Mo_find l D cI cJ cZ cO a ((f_Mo_lacks kn j t).2) kn ed ct ti nm xa xb ma it vs se sm rs wk ors owk n j t (by omega) hct (by omega) _ rfl) (ep_cwV 2 hg tw_785 tw_787 ts_10 tw_12 tk_Md_find rfl rfl (by decide +kernel) ⟨(Nat.le_of_ble_eq_true rfl), (Nat.le_of_ble_eq_true rfl)⟩) ⟨ep_blind, va_recv (q0 := 0) (ci := 9) hK hP rfl rfl, ep_pre hKn (hP)⟩ rfl rfl hl.1 rfl (lv_room (Nat.le_of_ble_eq_true rfl)) d_Md_put_14 ⟨Nat.zero_le _, Nat.zero_le _⟩) ?_
  refine W.eq (g2 := F0 m 17 ls [.int (f_Mo_find ti n j t), .ref a]) rfl ?_
  refine lv_topi (fun z8 e_z8 => ?_)
  obtain rfl : z8 = oI (¬ (f_Mo_find ti n j t) = -1) ((f_Mo_find ti n j t).toNatClampNeg) := by rw [e_z8]; exact (oI_of (fi_at _ _ _ _ (by omega)))
  by_cases hc1 : ¬ (f_Mo_find ti n j t) = -1
  · rw [show oI (¬ (f_Mo_find ti n j t) = -1) ((f_Mo_find ti n j t).toNatClampNeg) = nI ((f_Mo_find ti n j t).toNatClampNeg) from if_pos hc1]
    have hp9 : ((f_Mo_find ti n j t)).toNatClampNeg < n := fi_lt _ _ _ _ (by omega) hc1
    refine lv_if_ge (tgt := 31) hx hb d_Md_put_17 (by decide) (fun hc => ?_) (fun hc => False.elim (by have hc : ¬ (0 ≤ (f_Mo_find ti n j t).toNatClampNeg) := fun h => hc (by exact (nI_leI (a := 0) (b := (f_Mo_find ti n j t).toNatClampNeg) (by omega) (by omega)).mpr h); omega))
    refine lv_iconst (v := 2) hx hb d_Md_put_31 (by decide) ?_
    refine lv_goto (tgt := 56) hx hb d_Md_put_32 (by decide) ?_
    refine va_put (D := D) (ci := 9) (v := .int 2) (ty := .int) (C := R_Md) (T := F_Md) (N := 17) hx hb hg in_Md t_Md t_Md_ok n_Md hown hK hP hD hS 0 rfl rfl 0 (Nat.le_of_ble_eq_true rfl) (hg _ tw_706) (fun _ h9 => h9) rfl (by decide +kernel) rfl rfl (Nat.le_of_ble_eq_true rfl) d_Md_put_56 (fun H locs hP hD hS => ?_)
    have hP : va_P D cls (wMo cI cJ cZ a 2 kn ed ct ti nm xa xb ma it vs se sm rs wk ors owk) H := hP
    have hD : va_D (blk a 15) (wMo cI cJ cZ a 2 kn ed ct ti nm xa xb ma it vs se sm rs wk ors owk) := hD
    refine lv_aload_n hx hb d_Md_put_59 rfl (lv_at hl 0 rfl) ?_
    refine va_get (D := D) (ci := 9) (v := .int 2) (C := R_Md) (T := F_Md) (N := 17) hx hb hg in_Md hown hK hP 0 rfl rfl 0 (Nat.le_of_ble_eq_true rfl) (hg _ tw_706) (fun _ h9 => h9) rfl d_Md_put_60 ?_
    refine lv_if_ne (tgt := 82) hx hb d_Md_put_63 (by decide) (fun hc => ?_) (fun hc => False.elim (by revert hc; decide))
    rw [if_pos hc1] at hR
    subst hR
    exact W.vret hx hb hr (fun t9 ht hW => ⟨rfl, hS.F ht, by rw [ht]; exact hP⟩) hS.2.2 d_Md_put_82
  · rw [show oI (¬ (f_Mo_find ti n j t) = -1) ((f_Mo_find ti n j t).toNatClampNeg) = -1 from if_neg hc1]
    refine lv_if_ge (tgt := 31) hx hb d_Md_put_17 (by decide) (fun hc => False.elim (by revert hc; decide)) (fun hc => ?_)
    refine lv_aload_n hx hb d_Md_put_20 rfl (lv_at hl 0 rfl) ?_
    refine va_get (D := D) (ci := 9) (v := .ref (a + 3)) (C := R_Md) (T := F_Md) (N := 17) hx hb hg in_Md hown hK hP 0 rfl rfl 3 (Nat.le_of_ble_eq_true rfl) (hg _ tw_709) (fun _ h9 => h9) rfl d_Md_put_21 ?_
    refine lv_iload_n hx hb d_Md_put_24 rfl (lv_at hl 1 rfl) ?_
    refine ep_iald hx hb hK hP 3 0 rfl rfl (i := j) (by omega) (by decide) d_Md_put_25 ?_
    refine lv_topi (fun z9 e_z9 => ?_)
    obtain rfl : z9 = nI n := by rw [e_z9]; exact hct
    refine lv_bipush (v := 32) hx hb d_Md_put_26 (by decide) ?_
    refine lv_icmp_ne (tgt := 35) hx hb d_Md_put_28 (by decide) (fun hc2 => ?_) (fun hc2 => ?_)
    · have hc2 : ¬ (n = 32) := fun h9 => hc2 ((nI_eq (a := n) (b := 32) (by omega) (by omega)).mpr h9)
      refine lv_aload_n hx hb d_Md_put_35 rfl (lv_at hl 0 rfl) ?_
      refine lv_iload_n hx hb d_Md_put_36 rfl (lv_at hl 1 rfl) ?_
      refine ep_callP (W.runV (As := [.int (nI j)]) (rest := [.ref a]) ⟨hx, hb, hml, hown, hg⟩ (m_Mo_kindOf l D cI cJ cZ cO a ((f_Mo_lacks kn j t).2) kn ed ct ti nm xa xb ma it vs se sm rs wk ors owk j (by omega) _ rfl) (ep_cwV 1 hg tw_789 tw_791 ts_11 tw_12 tk_Md_kindOf rfl rfl (by decide +kernel) ⟨(Nat.le_of_ble_eq_true rfl), (Nat.le_of_ble_eq_true rfl)⟩) ⟨ep_blind, va_recv (q0 := 0) (ci := 9) hK hP rfl rfl, ep_pre hKn (hP)⟩ rfl rfl hl.1 rfl (lv_room (Nat.le_of_ble_eq_true rfl)) d_Md_put_37 ⟨Nat.zero_le _, Nat.zero_le _⟩) ?_
      refine W.eq (g2 := F0 m 40 ls [.int (f_Mo_kindOf kn j), .ref a]) rfl ?_
      refine lv_topi (fun z9 e_z9 => ?_)
      obtain rfl : z9 = 1 := by rw [e_z9]; exact (by rw [show f_Mo_kindOf kn j = kn j - 1 from rfl, hk]; decide)
      refine lv_iload_n hx hb d_Md_put_40 rfl (lv_at hl 3 rfl) ?_
      refine lv_iload hx hb d_Md_put_41 (lv_at hl 4 rfl) ?_
      refine lv_iload hx hb d_Md_put_43 (lv_at hl 5 rfl) ?_
      refine ep_callP (W.runS (As := [.int 1, .int u, .int x, .int y]) (rest := [.ref a]) ⟨hx, hb, hml, hown, hg⟩ (m_Mo_fits_1 l D cI cJ cZ cO u x y _ rfl) (ep_cwS 4 hg tw_793 tw_794 tw_12 tk_Md_fits rfl rfl (by decide +kernel) ⟨(Nat.le_of_ble_eq_true rfl), (Nat.le_of_ble_eq_true rfl)⟩) ⟨ep_blind, ep_pre hKn (trivial)⟩ rfl rfl hl.1 rfl (lv_room (Nat.le_of_ble_eq_true rfl)) d_Md_put_45 ⟨Nat.zero_le _, Nat.zero_le _⟩) ?_
      refine W.eq (g2 := F0 m 48 ls [.int (f_Mo_fits_1 u x y), .ref a]) rfl ?_
      refine lv_if_ne (tgt := 55) hx hb d_Md_put_48 (by decide) (fun hc3 => ?_) (fun hc3 => ?_)
      · have hc3 : ¬ ((f_Mo_fits_1 u x y) = 0) := hc3
        refine lv_iconst (v := 0) hx hb d_Md_put_55 (by decide) ?_
        refine va_put (D := D) (ci := 9) (v := .int 0) (ty := .int) (C := R_Md) (T := F_Md) (N := 17) hx hb hg in_Md t_Md t_Md_ok n_Md hown hK hP hD hS 0 rfl rfl 0 (Nat.le_of_ble_eq_true rfl) (hg _ tw_706) (fun _ h9 => h9) rfl (by decide +kernel) rfl rfl (Nat.le_of_ble_eq_true rfl) d_Md_put_56 (fun H locs hP hD hS => ?_)
        have hP : va_P D cls (wMo cI cJ cZ a 0 kn ed ct ti nm xa xb ma it vs se sm rs wk ors owk) H := hP
        have hD : va_D (blk a 15) (wMo cI cJ cZ a 0 kn ed ct ti nm xa xb ma it vs se sm rs wk ors owk) := hD
        refine lv_aload_n hx hb d_Md_put_59 rfl (lv_at hl 0 rfl) ?_
        refine va_get (D := D) (ci := 9) (v := .int 0) (C := R_Md) (T := F_Md) (N := 17) hx hb hg in_Md hown hK hP 0 rfl rfl 0 (Nat.le_of_ble_eq_true rfl) (hg _ tw_706) (fun _ h9 => h9) rfl d_Md_put_60 ?_
        refine lv_if_ne (tgt := 82) hx hb d_Md_put_63 (by decide) (fun hc => False.elim (by revert hc; decide)) (fun hc => ?_)
        refine lv_aload_n hx hb d_Md_put_66 rfl (lv_at hl 0 rfl) ?_
        refine lv_iload_n hx hb d_Md_put_67 rfl (lv_at hl 1 rfl) ?_
        refine ep_callH (W.runV (As := [.int (nI j)]) (rest := []) ⟨hx, hb, hml, hown, hg⟩ (m_Mo_remember l D cI cJ cZ cO a 0 kn ed ct ti nm xa xb ma it vs se sm rs wk ors owk j (by omega) _ rfl) (ep_cwV 1 hg tw_800 tw_802 ts_12 tw_12 tk_Md_remember rfl rfl (by decide +kernel) ⟨(Nat.le_of_ble_eq_true rfl), (Nat.le_of_ble_eq_true rfl)⟩) ⟨ep_blind, va_recv (q0 := 0) (ci := 9) hK hP rfl rfl, ep_pre hKn (hP)⟩ rfl rfl hl.1 rfl (lv_room (Nat.le_of_ble_eq_true rfl)) d_Md_put_68 ⟨Nat.zero_le _, Nat.zero_le _⟩) hS (fun q h => h) (fun H locs hsz9 hk1 hP1 hS => ?_)
        refine W.eq (g2 := F0 m 71 ls []) rfl ?_
        have hP : va_P D cls (wMo cI cJ cZ a 0 kn ((f_Mo_remember ed ct ti nm xa xb j).1) ((f_Mo_remember ed ct ti nm xa xb j).2.1) ((f_Mo_remember ed ct ti nm xa xb j).2.2.1) ((f_Mo_remember ed ct ti nm xa xb j).2.2.2.1) ((f_Mo_remember ed ct ti nm xa xb j).2.2.2.2.1) ((f_Mo_remember ed ct ti nm xa xb j).2.2.2.2.2) ma it vs se sm rs wk ors owk) H := hP1
        have hD : va_D (blk a 15) (wMo cI cJ cZ a 0 kn ((f_Mo_remember ed ct ti nm xa xb j).1) ((f_Mo_remember ed ct ti nm xa xb j).2.1) ((f_Mo_remember ed ct ti nm xa xb j).2.2.1) ((f_Mo_remember ed ct ti nm xa xb j).2.2.2.1) ((f_Mo_remember ed ct ti nm xa xb j).2.2.2.2.1) ((f_Mo_remember ed ct ti nm xa xb j).2.2.2.2.2) ma it vs se sm rs wk ors owk) := (blk_D (wMo_in))
        refine lv_aload_n hx hb d_Md_put_71 rfl (lv_at hl 0 rfl) ?_
        refine lv_iload_n hx hb d_Md_put_72 rfl (lv_at hl 1 rfl) ?_
        refine lv_iload_n hx hb d_Md_put_73 rfl (lv_at hl 2 rfl) ?_
        refine lv_iload_n hx hb d_Md_put_74 rfl (lv_at hl 3 rfl) ?_
        refine lv_iload hx hb d_Md_put_75 (lv_at hl 4 rfl) ?_
        refine lv_iload hx hb d_Md_put_77 (lv_at hl 5 rfl) ?_
        refine ep_callH (W.runV (As := [.int (nI j), .int t, .int u, .int x, .int y]) (rest := []) ⟨hx, hb, hml, hown, hg⟩ (m_Mo_insert l D cI cJ cZ cO a 0 kn ((f_Mo_remember ed ct ti nm xa xb j).1) ((f_Mo_remember ed ct ti nm xa xb j).2.1) ((f_Mo_remember ed ct ti nm xa xb j).2.2.1) ((f_Mo_remember ed ct ti nm xa xb j).2.2.2.1) ((f_Mo_remember ed ct ti nm xa xb j).2.2.2.2.1) ((f_Mo_remember ed ct ti nm xa xb j).2.2.2.2.2) ma it vs se sm rs wk ors owk n j t u x y (by omega) (rem_ct _ _ _ _ _ _ _ _ hct) (by omega) _ rfl) (ep_cwV 5 hg tw_808 tw_810 ts_14 tw_12 tk_Md_insert rfl rfl (by decide +kernel) ⟨(Nat.le_of_ble_eq_true rfl), (Nat.le_of_ble_eq_true rfl)⟩) ⟨ep_blind, va_recv (q0 := 0) (ci := 9) hK hP rfl rfl, ep_pre hKn (hP)⟩ rfl rfl hl.1 rfl (lv_room (Nat.le_of_ble_eq_true rfl)) d_Md_put_79 ⟨Nat.zero_le _, Nat.zero_le _⟩) hS (fun q h => h) (fun H locs hsz9 hk1 hP1 hS => ?_)
        refine W.eq (g2 := F0 m 82 ls []) rfl ?_
        have hP : va_P D cls (wMo cI cJ cZ a 0 kn ((f_Mo_remember ed ct ti nm xa xb j).1) ((f_Mo_insert ((f_Mo_remember ed ct ti nm xa xb j).2.1) ((f_Mo_remember ed ct ti nm xa xb j).2.2.1) ((f_Mo_remember ed ct ti nm xa xb j).2.2.2.1) ((f_Mo_remember ed ct ti nm xa xb j).2.2.2.2.1) ((f_Mo_remember ed ct ti nm xa xb j).2.2.2.2.2) n j t u x y).1) ((f_Mo_insert ((f_Mo_remember ed ct ti nm xa xb j).2.1) ((f_Mo_remember ed ct ti nm xa xb j).2.2.1) ((f_Mo_remember ed ct ti nm xa xb j).2.2.2.1) ((f_Mo_remember ed ct ti nm xa xb j).2.2.2.2.1) ((f_Mo_remember ed ct ti nm xa xb j).2.2.2.2.2) n j t u x y).2.1) ((f_Mo_insert ((f_Mo_remember ed ct ti nm xa xb j).2.1) ((f_Mo_remember ed ct ti nm xa xb j).2.2.1) ((f_Mo_remember ed ct ti nm xa xb j).2.2.2.1) ((f_Mo_remember ed ct ti nm xa xb j).2.2.2.2.1) ((f_Mo_remember ed ct ti nm xa xb j).2.2.2.2.2) n j t u x y).2.2.1) ((f_Mo_insert ((f_Mo_remember ed ct ti nm xa xb j).2.1) ((f_Mo_remember ed ct ti nm xa xb j).2.2.1) ((f_Mo_remember ed ct ti nm xa xb j).2.2.2.1) ((f_Mo_remember ed ct ti nm xa xb j).2.2.2.2.1) ((f_Mo_remember ed ct ti nm xa xb j).2.2.2.2.2) n j t u x y).2.2.2.1) ((f_Mo_insert ((f_Mo_remember ed ct ti nm xa xb j).2.1) ((f_Mo_remember ed ct ti nm xa xb j).2.2.1) ((f_Mo_remember ed ct ti nm xa xb j).2.2.2.1) ((f_Mo_remember ed ct ti nm xa xb j).2.2.2.2.1) ((f_Mo_remember ed ct ti nm xa xb j).2.2.2.2.2) n j t u x y).2.2.2.2) ma it vs se sm rs wk ors owk) H := hP1
        have hD : va_D (blk a 15) (wMo cI cJ cZ a 0 kn ((f_Mo_remember ed ct ti nm xa xb j).1) ((f_Mo_insert ((f_Mo_remember ed ct ti nm xa xb j).2.1) ((f_Mo_remember ed ct ti nm xa xb j).2.2.1) ((f_Mo_remember ed ct ti nm xa xb j).2.2.2.1) ((f_Mo_remember ed ct ti nm xa xb j).2.2.2.2.1) ((f_Mo_remember ed ct ti nm xa xb j).2.2.2.2.2) n j t u x y).1) ((f_Mo_insert ((f_Mo_remember ed ct ti nm xa xb j).2.1) ((f_Mo_remember ed ct ti nm xa xb j).2.2.1) ((f_Mo_remember ed ct ti nm xa xb j).2.2.2.1) ((f_Mo_remember ed ct ti nm xa xb j).2.2.2.2.1) ((f_Mo_remember ed ct ti nm xa xb j).2.2.2.2.2) n j t u x y).2.1) ((f_Mo_insert ((f_Mo_remember ed ct ti nm xa xb j).2.1) ((f_Mo_remember ed ct ti nm xa xb j).2.2.1) ((f_Mo_remember ed ct ti nm xa xb j).2.2.2.1) ((f_Mo_remember ed ct ti nm xa xb j).2.2.2.2.1) ((f_Mo_remember ed ct ti nm xa xb j).2.2.2.2.2) n j t u x y).2.2.1) ((f_Mo_insert ((f_Mo_remember ed ct ti nm xa xb j).2.1) ((f_Mo_remember ed ct ti nm xa xb j).2.2.1) ((f_Mo_remember ed ct ti nm xa xb j).2.2.2.1) ((f_Mo_remember ed ct ti nm xa xb j).2.2.2.2.1) ((f_Mo_remember ed ct ti nm xa xb j).2.2.2.2.2) n j t u x y).2.2.2.1) ((f_Mo_insert ((f_Mo_remember ed ct ti nm xa xb j).2.1) ((f_Mo_remember ed ct ti nm xa xb j).2.2.1) ((f_Mo_remember ed ct ti nm xa xb j).2.2.2.1) ((f_Mo_remember ed ct ti nm xa xb j).2.2.2.2.1) ((f_Mo_remember ed ct ti nm xa xb j).2.2.2.2.2) n j t u x y).2.2.2.2) ma it vs se sm rs wk ors owk) := (blk_D (wMo_in))
        rw [if_neg hc1, if_neg hc2, if_neg hc3] at hR
        subst hR
        exact W.vret hx hb hr (fun t9 ht hW => ⟨rfl, hS.F ht, by rw [ht]; exact hP⟩) hS.2.2 d_Md_put_82
      · have hc3 : (f_Mo_fits_1 u x y) = 0 := hc3
        refine lv_iconst (v := 3) hx hb d_Md_put_51 (by decide) ?_
        refine lv_goto (tgt := 56) hx hb d_Md_put_52 (by decide) ?_
        refine va_put (D := D) (ci := 9) (v := .int 3) (ty := .int) (C := R_Md) (T := F_Md) (N := 17) hx hb hg in_Md t_Md t_Md_ok n_Md hown hK hP hD hS 0 rfl rfl 0 (Nat.le_of_ble_eq_true rfl) (hg _ tw_706) (fun _ h9 => h9) rfl (by decide +kernel) rfl rfl (Nat.le_of_ble_eq_true rfl) d_Md_put_56 (fun H locs hP hD hS => ?_)
        have hP : va_P D cls (wMo cI cJ cZ a 3 kn ed ct ti nm xa xb ma it vs se sm rs wk ors owk) H := hP
        have hD : va_D (blk a 15) (wMo cI cJ cZ a 3 kn ed ct ti nm xa xb ma it vs se sm rs wk ors owk) := hD
        refine lv_aload_n hx hb d_Md_put_59 rfl (lv_at hl 0 rfl) ?_
        refine va_get (D := D) (ci := 9) (v := .int 3) (C := R_Md) (T := F_Md) (N := 17) hx hb hg in_Md hown hK hP 0 rfl rfl 0 (Nat.le_of_ble_eq_true rfl) (hg _ tw_706) (fun _ h9 => h9) rfl d_Md_put_60 ?_
        refine lv_if_ne (tgt := 82) hx hb d_Md_put_63 (by decide) (fun hc => ?_) (fun hc => False.elim (by revert hc; decide))
        rw [if_neg hc1, if_neg hc2, if_pos hc3] at hR
        subst hR
        exact W.vret hx hb hr (fun t9 ht hW => ⟨rfl, hS.F ht, by rw [ht]; exact hP⟩) hS.2.2 d_Md_put_82
    · have hc2 : n = 32 := (nI_eq (a := n) (b := 32) (by omega) (by omega)).mp hc2
      refine lv_iconst (v := 2) hx hb d_Md_put_31 (by decide) ?_
      refine lv_goto (tgt := 56) hx hb d_Md_put_32 (by decide) ?_
      refine va_put (D := D) (ci := 9) (v := .int 2) (ty := .int) (C := R_Md) (T := F_Md) (N := 17) hx hb hg in_Md t_Md t_Md_ok n_Md hown hK hP hD hS 0 rfl rfl 0 (Nat.le_of_ble_eq_true rfl) (hg _ tw_706) (fun _ h9 => h9) rfl (by decide +kernel) rfl rfl (Nat.le_of_ble_eq_true rfl) d_Md_put_56 (fun H locs hP hD hS => ?_)
      have hP : va_P D cls (wMo cI cJ cZ a 2 kn ed ct ti nm xa xb ma it vs se sm rs wk ors owk) H := hP
      have hD : va_D (blk a 15) (wMo cI cJ cZ a 2 kn ed ct ti nm xa xb ma it vs se sm rs wk ors owk) := hD
      refine lv_aload_n hx hb d_Md_put_59 rfl (lv_at hl 0 rfl) ?_
      refine va_get (D := D) (ci := 9) (v := .int 2) (C := R_Md) (T := F_Md) (N := 17) hx hb hg in_Md hown hK hP 0 rfl rfl 0 (Nat.le_of_ble_eq_true rfl) (hg _ tw_706) (fun _ h9 => h9) rfl d_Md_put_60 ?_
      refine lv_if_ne (tgt := 82) hx hb d_Md_put_63 (by decide) (fun hc => ?_) (fun hc => False.elim (by revert hc; decide))
      rw [if_neg hc1, if_pos hc2] at hR
      subst hR
      exact W.vret hx hb hr (fun t9 ht hW => ⟨rfl, hS.F ht, by rw [ht]; exact hP⟩) hS.2.2 d_Md_put_82

def f_Mo_put_2 (ed : Nat → Int32) (ct : Nat → Int32) (ti : Nat → Int32) (nm : Nat → Int32) (xa : Nat → Int32) (xb : Nat → Int32) (n : Nat) (j : Nat) (t : Int32) (u : Int32) (x : Int32) (y : Int32) : Int32 × (Nat → Int32) × (Nat → Int32) × (Nat → Int32) × (Nat → Int32) × (Nat → Int32) × (Nat → Int32) := if ¬ (f_Mo_find ti n j t) = -1 then ((2, ed, ct, ti, nm, xa, xb)) else (if n = 32 then ((2, ed, ct, ti, nm, xa, xb)) else (if (f_Mo_fits_2 u x y) = 0 then ((3, ed, ct, ti, nm, xa, xb)) else ((0, (f_Mo_remember ed ct ti nm xa xb j).1, (f_Mo_insert ((f_Mo_remember ed ct ti nm xa xb j).2.1) ((f_Mo_remember ed ct ti nm xa xb j).2.2.1) ((f_Mo_remember ed ct ti nm xa xb j).2.2.2.1) ((f_Mo_remember ed ct ti nm xa xb j).2.2.2.2.1) ((f_Mo_remember ed ct ti nm xa xb j).2.2.2.2.2) n j t u x y).1, (f_Mo_insert ((f_Mo_remember ed ct ti nm xa xb j).2.1) ((f_Mo_remember ed ct ti nm xa xb j).2.2.1) ((f_Mo_remember ed ct ti nm xa xb j).2.2.2.1) ((f_Mo_remember ed ct ti nm xa xb j).2.2.2.2.1) ((f_Mo_remember ed ct ti nm xa xb j).2.2.2.2.2) n j t u x y).2.1, (f_Mo_insert ((f_Mo_remember ed ct ti nm xa xb j).2.1) ((f_Mo_remember ed ct ti nm xa xb j).2.2.1) ((f_Mo_remember ed ct ti nm xa xb j).2.2.2.1) ((f_Mo_remember ed ct ti nm xa xb j).2.2.2.2.1) ((f_Mo_remember ed ct ti nm xa xb j).2.2.2.2.2) n j t u x y).2.2.1, (f_Mo_insert ((f_Mo_remember ed ct ti nm xa xb j).2.1) ((f_Mo_remember ed ct ti nm xa xb j).2.2.1) ((f_Mo_remember ed ct ti nm xa xb j).2.2.2.1) ((f_Mo_remember ed ct ti nm xa xb j).2.2.2.2.1) ((f_Mo_remember ed ct ti nm xa xb j).2.2.2.2.2) n j t u x y).2.2.2.1, (f_Mo_insert ((f_Mo_remember ed ct ti nm xa xb j).2.1) ((f_Mo_remember ed ct ti nm xa xb j).2.2.1) ((f_Mo_remember ed ct ti nm xa xb j).2.2.2.1) ((f_Mo_remember ed ct ti nm xa xb j).2.2.2.2.1) ((f_Mo_remember ed ct ti nm xa xb j).2.2.2.2.2) n j t u x y).2.2.2.2))))
set_option maxHeartbeats 4000000 in
set_option maxRecDepth 100000 in
theorem m_Mo_put_2 (l : Launch) (D : va_G) (cI cJ cZ cO : ClassId) (a : Nat) (code : Int32) (kn : Nat → Int32) (ed : Nat → Int32) (ct : Nat → Int32) (ti : Nat → Int32) (nm : Nat → Int32) (xa : Nat → Int32) (xb : Nat → Int32) (ma : Int32) (it : Nat → Int32) (vs : Nat → Int32) (se : Nat → Int32) (sm : Int64) (rs : Nat → Int64) (wk : Nat → Int32) (ors : Nat → Int64) (owk : Nat → Int32) (n : Nat) (j : Nat) (t : Int32) (u : Int32) (x : Int32) (y : Int32) (hj : j < 4) (hlk : (f_Mo_lacks kn j t).1 = 0) (hk : kn j = 3) (hct : ct j = nI n) (hn : n ≤ 32) (R : Int32 × (Nat → Int32) × (Nat → Int32) × (Nat → Int32) × (Nat → Int32) × (Nat → Int32) × (Nat → Int32)) (hR : f_Mo_put_2 ed ct ti nm xa xb n j t u x y = R) : Met l y_Md_put (k_Md_put :: gt) rm_Md_put (Pc0 D cI cJ cZ cO [.ref a, .int (nI j), .int t, .int u, .int x, .int y] (fun H => va_P D cls (wMo cI cJ cZ a code kn ed ct ti nm xa xb ma it vs se sm rs wk ors owk) H)) (Qd (blk a 15) none (fun H => va_P D cls (wMo cI cJ cZ a R.1 kn R.2.1 R.2.2.1 R.2.2.2.1 R.2.2.2.2.1 R.2.2.2.2.2.1 R.2.2.2.2.2.2 ma it vs se sm rs wk ors owk) H)) 0 0 (blk a 15) := by
  refine Met.ofW (cc := c_Md_put) (maxL := 6) (ret := none) (by decide) rfl ?_
  intro p e s m args below meth c s₁ B hml hv
  obtain ⟨rfl, hKn, hP⟩ := hv
  have hx := B.exec
  have hb := B.bytes
  have hr := B.returns
  have hts := atoms_spec (ws := k_Md_put :: gt) B.pre
  have hg : ∀ w ∈ gt, w.before _ s = true := fun w h => hts w (List.mem_cons_of_mem _ h)
  have hown : s.vm.findClass R_Md = some m.cls := findClass_of_methodNamed B.named
  have hlocks := B.notSynchronized
  have hK := hKn.1
  have hl := lv_entry ([.ref a, .int (nI j), .int t, .int u, .int x, .int y]) (n := 6) (Nat.le_of_ble_eq_true rfl)
  rw [lg_entry_eq]
  generalize (lg_sl ([.ref a, .int (nI j), .int t, .int u, .int x, .int y]) ++ List.replicate (6 - (lg_sl ([.ref a, .int (nI j), .int t, .int u, .int x, .int y])).length) Slot.unset).toArray = ls at hl ⊢
  have hl : lv_has ls 6 [(0, .ref a), (1, .int (nI j)), (2, .int t), (3, .int u), (4, .int x), (5, .int y)] := hl
  have hS : va_S (blk a 15) s.heap s.heap [] := va_S.rf
  have hD : va_D (blk a 15) (wMo cI cJ cZ a code kn ed ct ti nm xa xb ma it vs se sm rs wk ors owk) := (blk_D (wMo_in))
  have hR : (if ¬ (f_Mo_find ti n j t) = -1 then ((2, ed, ct, ti, nm, xa, xb)) else (if n = 32 then ((2, ed, ct, ti, nm, xa, xb)) else (if (f_Mo_fits_2 u x y) = 0 then ((3, ed, ct, ti, nm, xa, xb)) else ((0, (f_Mo_remember ed ct ti nm xa xb j).1, (f_Mo_insert ((f_Mo_remember ed ct ti nm xa xb j).2.1) ((f_Mo_remember ed ct ti nm xa xb j).2.2.1) ((f_Mo_remember ed ct ti nm xa xb j).2.2.2.1) ((f_Mo_remember ed ct ti nm xa xb j).2.2.2.2.1) ((f_Mo_remember ed ct ti nm xa xb j).2.2.2.2.2) n j t u x y).1, (f_Mo_insert ((f_Mo_remember ed ct ti nm xa xb j).2.1) ((f_Mo_remember ed ct ti nm xa xb j).2.2.1) ((f_Mo_remember ed ct ti nm xa xb j).2.2.2.1) ((f_Mo_remember ed ct ti nm xa xb j).2.2.2.2.1) ((f_Mo_remember ed ct ti nm xa xb j).2.2.2.2.2) n j t u x y).2.1, (f_Mo_insert ((f_Mo_remember ed ct ti nm xa xb j).2.1) ((f_Mo_remember ed ct ti nm xa xb j).2.2.1) ((f_Mo_remember ed ct ti nm xa xb j).2.2.2.1) ((f_Mo_remember ed ct ti nm xa xb j).2.2.2.2.1) ((f_Mo_remember ed ct ti nm xa xb j).2.2.2.2.2) n j t u x y).2.2.1, (f_Mo_insert ((f_Mo_remember ed ct ti nm xa xb j).2.1) ((f_Mo_remember ed ct ti nm xa xb j).2.2.1) ((f_Mo_remember ed ct ti nm xa xb j).2.2.2.1) ((f_Mo_remember ed ct ti nm xa xb j).2.2.2.2.1) ((f_Mo_remember ed ct ti nm xa xb j).2.2.2.2.2) n j t u x y).2.2.2.1, (f_Mo_insert ((f_Mo_remember ed ct ti nm xa xb j).2.1) ((f_Mo_remember ed ct ti nm xa xb j).2.2.1) ((f_Mo_remember ed ct ti nm xa xb j).2.2.2.1) ((f_Mo_remember ed ct ti nm xa xb j).2.2.2.2.1) ((f_Mo_remember ed ct ti nm xa xb j).2.2.2.2.2) n j t u x y).2.2.2.2))))) = R := hR
  refine lv_aload_n hx hb d_Md_put_0 rfl (lv_at hl 0 rfl) ?_
  refine lv_iload_n hx hb d_Md_put_1 rfl (lv_at hl 1 rfl) ?_
  refine lv_iload_n hx hb d_Md_put_2 rfl (lv_at hl 2 rfl) ?_
  refine ep_callH (W.runV (As := [.int (nI j), .int t]) (rest := []) ⟨hx, hb, hml, hown, hg⟩ (m_Mo_lacks l D cI cJ cZ cO a code kn ed ct ti nm xa xb ma it vs se sm rs wk ors owk j t (by omega) _ rfl) (ep_cwV 2 hg tw_773 tw_775 ts_9 tw_12 tk_Md_lacks rfl rfl (by decide +kernel) ⟨(Nat.le_of_ble_eq_true rfl), (Nat.le_of_ble_eq_true rfl)⟩) ⟨ep_blind, va_recv (q0 := 0) (ci := 9) hK hP rfl rfl, ep_pre hKn (hP)⟩ rfl rfl hl.1 rfl (lv_room (Nat.le_of_ble_eq_true rfl)) d_Md_put_3 ⟨Nat.zero_le _, Nat.zero_le _⟩) hS (fun q h => h) (fun H locs hsz9 hk1 hP1 hS => ?_)
  refine W.eq (g2 := F0 m 6 ls [.int ((f_Mo_lacks kn j t).1)]) rfl ?_
  have hP : va_P D cls (wMo cI cJ cZ a ((f_Mo_lacks kn j t).2) kn ed ct ti nm xa xb ma it vs se sm rs wk ors owk) H := hP1
  have hD : va_D (blk a 15) (wMo cI cJ cZ a ((f_Mo_lacks kn j t).2) kn ed ct ti nm xa xb ma it vs se sm rs wk ors owk) := (blk_D (wMo_in))
  refine lv_if_eq (tgt := 10) hx hb d_Md_put_6 (by decide) (fun hc => ?_) (fun hc => absurd hlk hc)
  refine lv_aload_n hx hb d_Md_put_10 rfl (lv_at hl 0 rfl) ?_
  refine lv_aload_n hx hb d_Md_put_11 rfl (lv_at hl 0 rfl) ?_
  refine lv_iload_n hx hb d_Md_put_12 rfl (lv_at hl 1 rfl) ?_
  refine lv_iload_n hx hb d_Md_put_13 rfl (lv_at hl 2 rfl) ?_
  refine ep_callP (W.runV (As := [.int (nI j), .int t]) (rest := [.ref a]) ⟨hx, hb, hml, hown, hg⟩ (m_Mo_find l D cI cJ cZ cO a ((f_Mo_lacks kn j t).2) kn ed ct ti nm xa xb ma it vs se sm rs wk ors owk n j t (by omega) hct (by omega) _ rfl) (ep_cwV 2 hg tw_785 tw_787 ts_10 tw_12 tk_Md_find rfl rfl (by decide +kernel) ⟨(Nat.le_of_ble_eq_true rfl), (Nat.le_of_ble_eq_true rfl)⟩) ⟨ep_blind, va_recv (q0 := 0) (ci := 9) hK hP rfl rfl, ep_pre hKn (hP)⟩ rfl rfl hl.1 rfl (lv_room (Nat.le_of_ble_eq_true rfl)) d_Md_put_14 ⟨Nat.zero_le _, Nat.zero_le _⟩) ?_
  refine W.eq (g2 := F0 m 17 ls [.int (f_Mo_find ti n j t), .ref a]) rfl ?_
  refine lv_topi (fun z8 e_z8 => ?_)
  obtain rfl : z8 = oI (¬ (f_Mo_find ti n j t) = -1) ((f_Mo_find ti n j t).toNatClampNeg) := by rw [e_z8]; exact (oI_of (fi_at _ _ _ _ (by omega)))
  by_cases hc1 : ¬ (f_Mo_find ti n j t) = -1
  · rw [show oI (¬ (f_Mo_find ti n j t) = -1) ((f_Mo_find ti n j t).toNatClampNeg) = nI ((f_Mo_find ti n j t).toNatClampNeg) from if_pos hc1]
    have hp9 : ((f_Mo_find ti n j t)).toNatClampNeg < n := fi_lt _ _ _ _ (by omega) hc1
    refine lv_if_ge (tgt := 31) hx hb d_Md_put_17 (by decide) (fun hc => ?_) (fun hc => False.elim (by have hc : ¬ (0 ≤ (f_Mo_find ti n j t).toNatClampNeg) := fun h => hc (by exact (nI_leI (a := 0) (b := (f_Mo_find ti n j t).toNatClampNeg) (by omega) (by omega)).mpr h); omega))
    refine lv_iconst (v := 2) hx hb d_Md_put_31 (by decide) ?_
    refine lv_goto (tgt := 56) hx hb d_Md_put_32 (by decide) ?_
    refine va_put (D := D) (ci := 9) (v := .int 2) (ty := .int) (C := R_Md) (T := F_Md) (N := 17) hx hb hg in_Md t_Md t_Md_ok n_Md hown hK hP hD hS 0 rfl rfl 0 (Nat.le_of_ble_eq_true rfl) (hg _ tw_706) (fun _ h9 => h9) rfl (by decide +kernel) rfl rfl (Nat.le_of_ble_eq_true rfl) d_Md_put_56 (fun H locs hP hD hS => ?_)
    have hP : va_P D cls (wMo cI cJ cZ a 2 kn ed ct ti nm xa xb ma it vs se sm rs wk ors owk) H := hP
    have hD : va_D (blk a 15) (wMo cI cJ cZ a 2 kn ed ct ti nm xa xb ma it vs se sm rs wk ors owk) := hD
    refine lv_aload_n hx hb d_Md_put_59 rfl (lv_at hl 0 rfl) ?_
    refine va_get (D := D) (ci := 9) (v := .int 2) (C := R_Md) (T := F_Md) (N := 17) hx hb hg in_Md hown hK hP 0 rfl rfl 0 (Nat.le_of_ble_eq_true rfl) (hg _ tw_706) (fun _ h9 => h9) rfl d_Md_put_60 ?_
    refine lv_if_ne (tgt := 82) hx hb d_Md_put_63 (by decide) (fun hc => ?_) (fun hc => False.elim (by revert hc; decide))
    rw [if_pos hc1] at hR
    subst hR
    exact W.vret hx hb hr (fun t9 ht hW => ⟨rfl, hS.F ht, by rw [ht]; exact hP⟩) hS.2.2 d_Md_put_82
  · rw [show oI (¬ (f_Mo_find ti n j t) = -1) ((f_Mo_find ti n j t).toNatClampNeg) = -1 from if_neg hc1]
    refine lv_if_ge (tgt := 31) hx hb d_Md_put_17 (by decide) (fun hc => False.elim (by revert hc; decide)) (fun hc => ?_)
    refine lv_aload_n hx hb d_Md_put_20 rfl (lv_at hl 0 rfl) ?_
    refine va_get (D := D) (ci := 9) (v := .ref (a + 3)) (C := R_Md) (T := F_Md) (N := 17) hx hb hg in_Md hown hK hP 0 rfl rfl 3 (Nat.le_of_ble_eq_true rfl) (hg _ tw_709) (fun _ h9 => h9) rfl d_Md_put_21 ?_
    refine lv_iload_n hx hb d_Md_put_24 rfl (lv_at hl 1 rfl) ?_
    refine ep_iald hx hb hK hP 3 0 rfl rfl (i := j) (by omega) (by decide) d_Md_put_25 ?_
    refine lv_topi (fun z9 e_z9 => ?_)
    obtain rfl : z9 = nI n := by rw [e_z9]; exact hct
    refine lv_bipush (v := 32) hx hb d_Md_put_26 (by decide) ?_
    refine lv_icmp_ne (tgt := 35) hx hb d_Md_put_28 (by decide) (fun hc2 => ?_) (fun hc2 => ?_)
    · have hc2 : ¬ (n = 32) := fun h9 => hc2 ((nI_eq (a := n) (b := 32) (by omega) (by omega)).mpr h9)
      refine lv_aload_n hx hb d_Md_put_35 rfl (lv_at hl 0 rfl) ?_
      refine lv_iload_n hx hb d_Md_put_36 rfl (lv_at hl 1 rfl) ?_
      refine ep_callP (W.runV (As := [.int (nI j)]) (rest := [.ref a]) ⟨hx, hb, hml, hown, hg⟩ (m_Mo_kindOf l D cI cJ cZ cO a ((f_Mo_lacks kn j t).2) kn ed ct ti nm xa xb ma it vs se sm rs wk ors owk j (by omega) _ rfl) (ep_cwV 1 hg tw_789 tw_791 ts_11 tw_12 tk_Md_kindOf rfl rfl (by decide +kernel) ⟨(Nat.le_of_ble_eq_true rfl), (Nat.le_of_ble_eq_true rfl)⟩) ⟨ep_blind, va_recv (q0 := 0) (ci := 9) hK hP rfl rfl, ep_pre hKn (hP)⟩ rfl rfl hl.1 rfl (lv_room (Nat.le_of_ble_eq_true rfl)) d_Md_put_37 ⟨Nat.zero_le _, Nat.zero_le _⟩) ?_
      refine W.eq (g2 := F0 m 40 ls [.int (f_Mo_kindOf kn j), .ref a]) rfl ?_
      refine lv_topi (fun z9 e_z9 => ?_)
      obtain rfl : z9 = 2 := by rw [e_z9]; exact (by rw [show f_Mo_kindOf kn j = kn j - 1 from rfl, hk]; decide)
      refine lv_iload_n hx hb d_Md_put_40 rfl (lv_at hl 3 rfl) ?_
      refine lv_iload hx hb d_Md_put_41 (lv_at hl 4 rfl) ?_
      refine lv_iload hx hb d_Md_put_43 (lv_at hl 5 rfl) ?_
      refine ep_callP (W.runS (As := [.int 2, .int u, .int x, .int y]) (rest := [.ref a]) ⟨hx, hb, hml, hown, hg⟩ (m_Mo_fits_2 l D cI cJ cZ cO u x y _ rfl) (ep_cwS 4 hg tw_793 tw_794 tw_12 tk_Md_fits rfl rfl (by decide +kernel) ⟨(Nat.le_of_ble_eq_true rfl), (Nat.le_of_ble_eq_true rfl)⟩) ⟨ep_blind, ep_pre hKn (trivial)⟩ rfl rfl hl.1 rfl (lv_room (Nat.le_of_ble_eq_true rfl)) d_Md_put_45 ⟨Nat.zero_le _, Nat.zero_le _⟩) ?_
      refine W.eq (g2 := F0 m 48 ls [.int (f_Mo_fits_2 u x y), .ref a]) rfl ?_
      refine lv_if_ne (tgt := 55) hx hb d_Md_put_48 (by decide) (fun hc3 => ?_) (fun hc3 => ?_)
      · have hc3 : ¬ ((f_Mo_fits_2 u x y) = 0) := hc3
        refine lv_iconst (v := 0) hx hb d_Md_put_55 (by decide) ?_
        refine va_put (D := D) (ci := 9) (v := .int 0) (ty := .int) (C := R_Md) (T := F_Md) (N := 17) hx hb hg in_Md t_Md t_Md_ok n_Md hown hK hP hD hS 0 rfl rfl 0 (Nat.le_of_ble_eq_true rfl) (hg _ tw_706) (fun _ h9 => h9) rfl (by decide +kernel) rfl rfl (Nat.le_of_ble_eq_true rfl) d_Md_put_56 (fun H locs hP hD hS => ?_)
        have hP : va_P D cls (wMo cI cJ cZ a 0 kn ed ct ti nm xa xb ma it vs se sm rs wk ors owk) H := hP
        have hD : va_D (blk a 15) (wMo cI cJ cZ a 0 kn ed ct ti nm xa xb ma it vs se sm rs wk ors owk) := hD
        refine lv_aload_n hx hb d_Md_put_59 rfl (lv_at hl 0 rfl) ?_
        refine va_get (D := D) (ci := 9) (v := .int 0) (C := R_Md) (T := F_Md) (N := 17) hx hb hg in_Md hown hK hP 0 rfl rfl 0 (Nat.le_of_ble_eq_true rfl) (hg _ tw_706) (fun _ h9 => h9) rfl d_Md_put_60 ?_
        refine lv_if_ne (tgt := 82) hx hb d_Md_put_63 (by decide) (fun hc => False.elim (by revert hc; decide)) (fun hc => ?_)
        refine lv_aload_n hx hb d_Md_put_66 rfl (lv_at hl 0 rfl) ?_
        refine lv_iload_n hx hb d_Md_put_67 rfl (lv_at hl 1 rfl) ?_
        refine ep_callH (W.runV (As := [.int (nI j)]) (rest := []) ⟨hx, hb, hml, hown, hg⟩ (m_Mo_remember l D cI cJ cZ cO a 0 kn ed ct ti nm xa xb ma it vs se sm rs wk ors owk j (by omega) _ rfl) (ep_cwV 1 hg tw_800 tw_802 ts_12 tw_12 tk_Md_remember rfl rfl (by decide +kernel) ⟨(Nat.le_of_ble_eq_true rfl), (Nat.le_of_ble_eq_true rfl)⟩) ⟨ep_blind, va_recv (q0 := 0) (ci := 9) hK hP rfl rfl, ep_pre hKn (hP)⟩ rfl rfl hl.1 rfl (lv_room (Nat.le_of_ble_eq_true rfl)) d_Md_put_68 ⟨Nat.zero_le _, Nat.zero_le _⟩) hS (fun q h => h) (fun H locs hsz9 hk1 hP1 hS => ?_)
        refine W.eq (g2 := F0 m 71 ls []) rfl ?_
        have hP : va_P D cls (wMo cI cJ cZ a 0 kn ((f_Mo_remember ed ct ti nm xa xb j).1) ((f_Mo_remember ed ct ti nm xa xb j).2.1) ((f_Mo_remember ed ct ti nm xa xb j).2.2.1) ((f_Mo_remember ed ct ti nm xa xb j).2.2.2.1) ((f_Mo_remember ed ct ti nm xa xb j).2.2.2.2.1) ((f_Mo_remember ed ct ti nm xa xb j).2.2.2.2.2) ma it vs se sm rs wk ors owk) H := hP1
        have hD : va_D (blk a 15) (wMo cI cJ cZ a 0 kn ((f_Mo_remember ed ct ti nm xa xb j).1) ((f_Mo_remember ed ct ti nm xa xb j).2.1) ((f_Mo_remember ed ct ti nm xa xb j).2.2.1) ((f_Mo_remember ed ct ti nm xa xb j).2.2.2.1) ((f_Mo_remember ed ct ti nm xa xb j).2.2.2.2.1) ((f_Mo_remember ed ct ti nm xa xb j).2.2.2.2.2) ma it vs se sm rs wk ors owk) := (blk_D (wMo_in))
        refine lv_aload_n hx hb d_Md_put_71 rfl (lv_at hl 0 rfl) ?_
        refine lv_iload_n hx hb d_Md_put_72 rfl (lv_at hl 1 rfl) ?_
        refine lv_iload_n hx hb d_Md_put_73 rfl (lv_at hl 2 rfl) ?_
        refine lv_iload_n hx hb d_Md_put_74 rfl (lv_at hl 3 rfl) ?_
        refine lv_iload hx hb d_Md_put_75 (lv_at hl 4 rfl) ?_
        refine lv_iload hx hb d_Md_put_77 (lv_at hl 5 rfl) ?_
        refine ep_callH (W.runV (As := [.int (nI j), .int t, .int u, .int x, .int y]) (rest := []) ⟨hx, hb, hml, hown, hg⟩ (m_Mo_insert l D cI cJ cZ cO a 0 kn ((f_Mo_remember ed ct ti nm xa xb j).1) ((f_Mo_remember ed ct ti nm xa xb j).2.1) ((f_Mo_remember ed ct ti nm xa xb j).2.2.1) ((f_Mo_remember ed ct ti nm xa xb j).2.2.2.1) ((f_Mo_remember ed ct ti nm xa xb j).2.2.2.2.1) ((f_Mo_remember ed ct ti nm xa xb j).2.2.2.2.2) ma it vs se sm rs wk ors owk n j t u x y (by omega) (rem_ct _ _ _ _ _ _ _ _ hct) (by omega) _ rfl) (ep_cwV 5 hg tw_808 tw_810 ts_14 tw_12 tk_Md_insert rfl rfl (by decide +kernel) ⟨(Nat.le_of_ble_eq_true rfl), (Nat.le_of_ble_eq_true rfl)⟩) ⟨ep_blind, va_recv (q0 := 0) (ci := 9) hK hP rfl rfl, ep_pre hKn (hP)⟩ rfl rfl hl.1 rfl (lv_room (Nat.le_of_ble_eq_true rfl)) d_Md_put_79 ⟨Nat.zero_le _, Nat.zero_le _⟩) hS (fun q h => h) (fun H locs hsz9 hk1 hP1 hS => ?_)
        refine W.eq (g2 := F0 m 82 ls []) rfl ?_
        have hP : va_P D cls (wMo cI cJ cZ a 0 kn ((f_Mo_remember ed ct ti nm xa xb j).1) ((f_Mo_insert ((f_Mo_remember ed ct ti nm xa xb j).2.1) ((f_Mo_remember ed ct ti nm xa xb j).2.2.1) ((f_Mo_remember ed ct ti nm xa xb j).2.2.2.1) ((f_Mo_remember ed ct ti nm xa xb j).2.2.2.2.1) ((f_Mo_remember ed ct ti nm xa xb j).2.2.2.2.2) n j t u x y).1) ((f_Mo_insert ((f_Mo_remember ed ct ti nm xa xb j).2.1) ((f_Mo_remember ed ct ti nm xa xb j).2.2.1) ((f_Mo_remember ed ct ti nm xa xb j).2.2.2.1) ((f_Mo_remember ed ct ti nm xa xb j).2.2.2.2.1) ((f_Mo_remember ed ct ti nm xa xb j).2.2.2.2.2) n j t u x y).2.1) ((f_Mo_insert ((f_Mo_remember ed ct ti nm xa xb j).2.1) ((f_Mo_remember ed ct ti nm xa xb j).2.2.1) ((f_Mo_remember ed ct ti nm xa xb j).2.2.2.1) ((f_Mo_remember ed ct ti nm xa xb j).2.2.2.2.1) ((f_Mo_remember ed ct ti nm xa xb j).2.2.2.2.2) n j t u x y).2.2.1) ((f_Mo_insert ((f_Mo_remember ed ct ti nm xa xb j).2.1) ((f_Mo_remember ed ct ti nm xa xb j).2.2.1) ((f_Mo_remember ed ct ti nm xa xb j).2.2.2.1) ((f_Mo_remember ed ct ti nm xa xb j).2.2.2.2.1) ((f_Mo_remember ed ct ti nm xa xb j).2.2.2.2.2) n j t u x y).2.2.2.1) ((f_Mo_insert ((f_Mo_remember ed ct ti nm xa xb j).2.1) ((f_Mo_remember ed ct ti nm xa xb j).2.2.1) ((f_Mo_remember ed ct ti nm xa xb j).2.2.2.1) ((f_Mo_remember ed ct ti nm xa xb j).2.2.2.2.1) ((f_Mo_remember ed ct ti nm xa xb j).2.2.2.2.2) n j t u x y).2.2.2.2) ma it vs se sm rs wk ors owk) H := hP1
        have hD : va_D (blk a 15) (wMo cI cJ cZ a 0 kn ((f_Mo_remember ed ct ti nm xa xb j).1) ((f_Mo_insert ((f_Mo_remember ed ct ti nm xa xb j).2.1) ((f_Mo_remember ed ct ti nm xa xb j).2.2.1) ((f_Mo_remember ed ct ti nm xa xb j).2.2.2.1) ((f_Mo_remember ed ct ti nm xa xb j).2.2.2.2.1) ((f_Mo_remember ed ct ti nm xa xb j).2.2.2.2.2) n j t u x y).1) ((f_Mo_insert ((f_Mo_remember ed ct ti nm xa xb j).2.1) ((f_Mo_remember ed ct ti nm xa xb j).2.2.1) ((f_Mo_remember ed ct ti nm xa xb j).2.2.2.1) ((f_Mo_remember ed ct ti nm xa xb j).2.2.2.2.1) ((f_Mo_remember ed ct ti nm xa xb j).2.2.2.2.2) n j t u x y).2.1) ((f_Mo_insert ((f_Mo_remember ed ct ti nm xa xb j).2.1) ((f_Mo_remember ed ct ti nm xa xb j).2.2.1) ((f_Mo_remember ed ct ti nm xa xb j).2.2.2.1) ((f_Mo_remember ed ct ti nm xa xb j).2.2.2.2.1) ((f_Mo_remember ed ct ti nm xa xb j).2.2.2.2.2) n j t u x y).2.2.1) ((f_Mo_insert ((f_Mo_remember ed ct ti nm xa xb j).2.1) ((f_Mo_remember ed ct ti nm xa xb j).2.2.1) ((f_Mo_remember ed ct ti nm xa xb j).2.2.2.1) ((f_Mo_remember ed ct ti nm xa xb j).2.2.2.2.1) ((f_Mo_remember ed ct ti nm xa xb j).2.2.2.2.2) n j t u x y).2.2.2.1) ((f_Mo_insert ((f_Mo_remember ed ct ti nm xa xb j).2.1) ((f_Mo_remember ed ct ti nm xa xb j).2.2.1) ((f_Mo_remember ed ct ti nm xa xb j).2.2.2.1) ((f_Mo_remember ed ct ti nm xa xb j).2.2.2.2.1) ((f_Mo_remember ed ct ti nm xa xb j).2.2.2.2.2) n j t u x y).2.2.2.2) ma it vs se sm rs wk ors owk) := (blk_D (wMo_in))
        rw [if_neg hc1, if_neg hc2, if_neg hc3] at hR
        subst hR
        exact W.vret hx hb hr (fun t9 ht hW => ⟨rfl, hS.F ht, by rw [ht]; exact hP⟩) hS.2.2 d_Md_put_82
      · have hc3 : (f_Mo_fits_2 u x y) = 0 := hc3
        refine lv_iconst (v := 3) hx hb d_Md_put_51 (by decide) ?_
        refine lv_goto (tgt := 56) hx hb d_Md_put_52 (by decide) ?_
        refine va_put (D := D) (ci := 9) (v := .int 3) (ty := .int) (C := R_Md) (T := F_Md) (N := 17) hx hb hg in_Md t_Md t_Md_ok n_Md hown hK hP hD hS 0 rfl rfl 0 (Nat.le_of_ble_eq_true rfl) (hg _ tw_706) (fun _ h9 => h9) rfl (by decide +kernel) rfl rfl (Nat.le_of_ble_eq_true rfl) d_Md_put_56 (fun H locs hP hD hS => ?_)
        have hP : va_P D cls (wMo cI cJ cZ a 3 kn ed ct ti nm xa xb ma it vs se sm rs wk ors owk) H := hP
        have hD : va_D (blk a 15) (wMo cI cJ cZ a 3 kn ed ct ti nm xa xb ma it vs se sm rs wk ors owk) := hD
        refine lv_aload_n hx hb d_Md_put_59 rfl (lv_at hl 0 rfl) ?_
        refine va_get (D := D) (ci := 9) (v := .int 3) (C := R_Md) (T := F_Md) (N := 17) hx hb hg in_Md hown hK hP 0 rfl rfl 0 (Nat.le_of_ble_eq_true rfl) (hg _ tw_706) (fun _ h9 => h9) rfl d_Md_put_60 ?_
        refine lv_if_ne (tgt := 82) hx hb d_Md_put_63 (by decide) (fun hc => ?_) (fun hc => False.elim (by revert hc; decide))
        rw [if_neg hc1, if_neg hc2, if_pos hc3] at hR
        subst hR
        exact W.vret hx hb hr (fun t9 ht hW => ⟨rfl, hS.F ht, by rw [ht]; exact hP⟩) hS.2.2 d_Md_put_82
    · have hc2 : n = 32 := (nI_eq (a := n) (b := 32) (by omega) (by omega)).mp hc2
      refine lv_iconst (v := 2) hx hb d_Md_put_31 (by decide) ?_
      refine lv_goto (tgt := 56) hx hb d_Md_put_32 (by decide) ?_
      refine va_put (D := D) (ci := 9) (v := .int 2) (ty := .int) (C := R_Md) (T := F_Md) (N := 17) hx hb hg in_Md t_Md t_Md_ok n_Md hown hK hP hD hS 0 rfl rfl 0 (Nat.le_of_ble_eq_true rfl) (hg _ tw_706) (fun _ h9 => h9) rfl (by decide +kernel) rfl rfl (Nat.le_of_ble_eq_true rfl) d_Md_put_56 (fun H locs hP hD hS => ?_)
      have hP : va_P D cls (wMo cI cJ cZ a 2 kn ed ct ti nm xa xb ma it vs se sm rs wk ors owk) H := hP
      have hD : va_D (blk a 15) (wMo cI cJ cZ a 2 kn ed ct ti nm xa xb ma it vs se sm rs wk ors owk) := hD
      refine lv_aload_n hx hb d_Md_put_59 rfl (lv_at hl 0 rfl) ?_
      refine va_get (D := D) (ci := 9) (v := .int 2) (C := R_Md) (T := F_Md) (N := 17) hx hb hg in_Md hown hK hP 0 rfl rfl 0 (Nat.le_of_ble_eq_true rfl) (hg _ tw_706) (fun _ h9 => h9) rfl d_Md_put_60 ?_
      refine lv_if_ne (tgt := 82) hx hb d_Md_put_63 (by decide) (fun hc => ?_) (fun hc => False.elim (by revert hc; decide))
      rw [if_neg hc1, if_pos hc2] at hR
      subst hR
      exact W.vret hx hb hr (fun t9 ht hW => ⟨rfl, hS.F ht, by rw [ht]; exact hP⟩) hS.2.2 d_Md_put_82

def f_Mo_put_3 (ed : Nat → Int32) (ct : Nat → Int32) (ti : Nat → Int32) (nm : Nat → Int32) (xa : Nat → Int32) (xb : Nat → Int32) (n : Nat) (j : Nat) (t : Int32) (u : Int32) (x : Int32) (y : Int32) : Int32 × (Nat → Int32) × (Nat → Int32) × (Nat → Int32) × (Nat → Int32) × (Nat → Int32) × (Nat → Int32) := if ¬ (f_Mo_find ti n j t) = -1 then ((2, ed, ct, ti, nm, xa, xb)) else (if n = 32 then ((2, ed, ct, ti, nm, xa, xb)) else (if (f_Mo_fits_3 u x y) = 0 then ((3, ed, ct, ti, nm, xa, xb)) else ((0, (f_Mo_remember ed ct ti nm xa xb j).1, (f_Mo_insert ((f_Mo_remember ed ct ti nm xa xb j).2.1) ((f_Mo_remember ed ct ti nm xa xb j).2.2.1) ((f_Mo_remember ed ct ti nm xa xb j).2.2.2.1) ((f_Mo_remember ed ct ti nm xa xb j).2.2.2.2.1) ((f_Mo_remember ed ct ti nm xa xb j).2.2.2.2.2) n j t u x y).1, (f_Mo_insert ((f_Mo_remember ed ct ti nm xa xb j).2.1) ((f_Mo_remember ed ct ti nm xa xb j).2.2.1) ((f_Mo_remember ed ct ti nm xa xb j).2.2.2.1) ((f_Mo_remember ed ct ti nm xa xb j).2.2.2.2.1) ((f_Mo_remember ed ct ti nm xa xb j).2.2.2.2.2) n j t u x y).2.1, (f_Mo_insert ((f_Mo_remember ed ct ti nm xa xb j).2.1) ((f_Mo_remember ed ct ti nm xa xb j).2.2.1) ((f_Mo_remember ed ct ti nm xa xb j).2.2.2.1) ((f_Mo_remember ed ct ti nm xa xb j).2.2.2.2.1) ((f_Mo_remember ed ct ti nm xa xb j).2.2.2.2.2) n j t u x y).2.2.1, (f_Mo_insert ((f_Mo_remember ed ct ti nm xa xb j).2.1) ((f_Mo_remember ed ct ti nm xa xb j).2.2.1) ((f_Mo_remember ed ct ti nm xa xb j).2.2.2.1) ((f_Mo_remember ed ct ti nm xa xb j).2.2.2.2.1) ((f_Mo_remember ed ct ti nm xa xb j).2.2.2.2.2) n j t u x y).2.2.2.1, (f_Mo_insert ((f_Mo_remember ed ct ti nm xa xb j).2.1) ((f_Mo_remember ed ct ti nm xa xb j).2.2.1) ((f_Mo_remember ed ct ti nm xa xb j).2.2.2.1) ((f_Mo_remember ed ct ti nm xa xb j).2.2.2.2.1) ((f_Mo_remember ed ct ti nm xa xb j).2.2.2.2.2) n j t u x y).2.2.2.2))))
set_option maxHeartbeats 4000000 in
set_option maxRecDepth 100000 in
theorem m_Mo_put_3 (l : Launch) (D : va_G) (cI cJ cZ cO : ClassId) (a : Nat) (code : Int32) (kn : Nat → Int32) (ed : Nat → Int32) (ct : Nat → Int32) (ti : Nat → Int32) (nm : Nat → Int32) (xa : Nat → Int32) (xb : Nat → Int32) (ma : Int32) (it : Nat → Int32) (vs : Nat → Int32) (se : Nat → Int32) (sm : Int64) (rs : Nat → Int64) (wk : Nat → Int32) (ors : Nat → Int64) (owk : Nat → Int32) (n : Nat) (j : Nat) (t : Int32) (u : Int32) (x : Int32) (y : Int32) (hj : j < 4) (hlk : (f_Mo_lacks kn j t).1 = 0) (hk : kn j = 4) (hct : ct j = nI n) (hn : n ≤ 32) (R : Int32 × (Nat → Int32) × (Nat → Int32) × (Nat → Int32) × (Nat → Int32) × (Nat → Int32) × (Nat → Int32)) (hR : f_Mo_put_3 ed ct ti nm xa xb n j t u x y = R) : Met l y_Md_put (k_Md_put :: gt) rm_Md_put (Pc0 D cI cJ cZ cO [.ref a, .int (nI j), .int t, .int u, .int x, .int y] (fun H => va_P D cls (wMo cI cJ cZ a code kn ed ct ti nm xa xb ma it vs se sm rs wk ors owk) H)) (Qd (blk a 15) none (fun H => va_P D cls (wMo cI cJ cZ a R.1 kn R.2.1 R.2.2.1 R.2.2.2.1 R.2.2.2.2.1 R.2.2.2.2.2.1 R.2.2.2.2.2.2 ma it vs se sm rs wk ors owk) H)) 0 0 (blk a 15) := by
  refine Met.ofW (cc := c_Md_put) (maxL := 6) (ret := none) (by decide) rfl ?_
  intro p e s m args below meth c s₁ B hml hv
  obtain ⟨rfl, hKn, hP⟩ := hv
  have hx := B.exec
  have hb := B.bytes
  have hr := B.returns
  have hts := atoms_spec (ws := k_Md_put :: gt) B.pre
  have hg : ∀ w ∈ gt, w.before _ s = true := fun w h => hts w (List.mem_cons_of_mem _ h)
  have hown : s.vm.findClass R_Md = some m.cls := findClass_of_methodNamed B.named
  have hlocks := B.notSynchronized
  have hK := hKn.1
  have hl := lv_entry ([.ref a, .int (nI j), .int t, .int u, .int x, .int y]) (n := 6) (Nat.le_of_ble_eq_true rfl)
  rw [lg_entry_eq]
  generalize (lg_sl ([.ref a, .int (nI j), .int t, .int u, .int x, .int y]) ++ List.replicate (6 - (lg_sl ([.ref a, .int (nI j), .int t, .int u, .int x, .int y])).length) Slot.unset).toArray = ls at hl ⊢
  have hl : lv_has ls 6 [(0, .ref a), (1, .int (nI j)), (2, .int t), (3, .int u), (4, .int x), (5, .int y)] := hl
  have hS : va_S (blk a 15) s.heap s.heap [] := va_S.rf
  have hD : va_D (blk a 15) (wMo cI cJ cZ a code kn ed ct ti nm xa xb ma it vs se sm rs wk ors owk) := (blk_D (wMo_in))
  have hR : (if ¬ (f_Mo_find ti n j t) = -1 then ((2, ed, ct, ti, nm, xa, xb)) else (if n = 32 then ((2, ed, ct, ti, nm, xa, xb)) else (if (f_Mo_fits_3 u x y) = 0 then ((3, ed, ct, ti, nm, xa, xb)) else ((0, (f_Mo_remember ed ct ti nm xa xb j).1, (f_Mo_insert ((f_Mo_remember ed ct ti nm xa xb j).2.1) ((f_Mo_remember ed ct ti nm xa xb j).2.2.1) ((f_Mo_remember ed ct ti nm xa xb j).2.2.2.1) ((f_Mo_remember ed ct ti nm xa xb j).2.2.2.2.1) ((f_Mo_remember ed ct ti nm xa xb j).2.2.2.2.2) n j t u x y).1, (f_Mo_insert ((f_Mo_remember ed ct ti nm xa xb j).2.1) ((f_Mo_remember ed ct ti nm xa xb j).2.2.1) ((f_Mo_remember ed ct ti nm xa xb j).2.2.2.1) ((f_Mo_remember ed ct ti nm xa xb j).2.2.2.2.1) ((f_Mo_remember ed ct ti nm xa xb j).2.2.2.2.2) n j t u x y).2.1, (f_Mo_insert ((f_Mo_remember ed ct ti nm xa xb j).2.1) ((f_Mo_remember ed ct ti nm xa xb j).2.2.1) ((f_Mo_remember ed ct ti nm xa xb j).2.2.2.1) ((f_Mo_remember ed ct ti nm xa xb j).2.2.2.2.1) ((f_Mo_remember ed ct ti nm xa xb j).2.2.2.2.2) n j t u x y).2.2.1, (f_Mo_insert ((f_Mo_remember ed ct ti nm xa xb j).2.1) ((f_Mo_remember ed ct ti nm xa xb j).2.2.1) ((f_Mo_remember ed ct ti nm xa xb j).2.2.2.1) ((f_Mo_remember ed ct ti nm xa xb j).2.2.2.2.1) ((f_Mo_remember ed ct ti nm xa xb j).2.2.2.2.2) n j t u x y).2.2.2.1, (f_Mo_insert ((f_Mo_remember ed ct ti nm xa xb j).2.1) ((f_Mo_remember ed ct ti nm xa xb j).2.2.1) ((f_Mo_remember ed ct ti nm xa xb j).2.2.2.1) ((f_Mo_remember ed ct ti nm xa xb j).2.2.2.2.1) ((f_Mo_remember ed ct ti nm xa xb j).2.2.2.2.2) n j t u x y).2.2.2.2))))) = R := hR
  refine lv_aload_n hx hb d_Md_put_0 rfl (lv_at hl 0 rfl) ?_
  refine lv_iload_n hx hb d_Md_put_1 rfl (lv_at hl 1 rfl) ?_
  refine lv_iload_n hx hb d_Md_put_2 rfl (lv_at hl 2 rfl) ?_
  refine ep_callH (W.runV (As := [.int (nI j), .int t]) (rest := []) ⟨hx, hb, hml, hown, hg⟩ (m_Mo_lacks l D cI cJ cZ cO a code kn ed ct ti nm xa xb ma it vs se sm rs wk ors owk j t (by omega) _ rfl) (ep_cwV 2 hg tw_773 tw_775 ts_9 tw_12 tk_Md_lacks rfl rfl (by decide +kernel) ⟨(Nat.le_of_ble_eq_true rfl), (Nat.le_of_ble_eq_true rfl)⟩) ⟨ep_blind, va_recv (q0 := 0) (ci := 9) hK hP rfl rfl, ep_pre hKn (hP)⟩ rfl rfl hl.1 rfl (lv_room (Nat.le_of_ble_eq_true rfl)) d_Md_put_3 ⟨Nat.zero_le _, Nat.zero_le _⟩) hS (fun q h => h) (fun H locs hsz9 hk1 hP1 hS => ?_)
  refine W.eq (g2 := F0 m 6 ls [.int ((f_Mo_lacks kn j t).1)]) rfl ?_
  have hP : va_P D cls (wMo cI cJ cZ a ((f_Mo_lacks kn j t).2) kn ed ct ti nm xa xb ma it vs se sm rs wk ors owk) H := hP1
  have hD : va_D (blk a 15) (wMo cI cJ cZ a ((f_Mo_lacks kn j t).2) kn ed ct ti nm xa xb ma it vs se sm rs wk ors owk) := (blk_D (wMo_in))
  refine lv_if_eq (tgt := 10) hx hb d_Md_put_6 (by decide) (fun hc => ?_) (fun hc => absurd hlk hc)
  refine lv_aload_n hx hb d_Md_put_10 rfl (lv_at hl 0 rfl) ?_
  refine lv_aload_n hx hb d_Md_put_11 rfl (lv_at hl 0 rfl) ?_
  refine lv_iload_n hx hb d_Md_put_12 rfl (lv_at hl 1 rfl) ?_
  refine lv_iload_n hx hb d_Md_put_13 rfl (lv_at hl 2 rfl) ?_
  refine ep_callP (W.runV (As := [.int (nI j), .int t]) (rest := [.ref a]) ⟨hx, hb, hml, hown, hg⟩ (m_Mo_find l D cI cJ cZ cO a ((f_Mo_lacks kn j t).2) kn ed ct ti nm xa xb ma it vs se sm rs wk ors owk n j t (by omega) hct (by omega) _ rfl) (ep_cwV 2 hg tw_785 tw_787 ts_10 tw_12 tk_Md_find rfl rfl (by decide +kernel) ⟨(Nat.le_of_ble_eq_true rfl), (Nat.le_of_ble_eq_true rfl)⟩) ⟨ep_blind, va_recv (q0 := 0) (ci := 9) hK hP rfl rfl, ep_pre hKn (hP)⟩ rfl rfl hl.1 rfl (lv_room (Nat.le_of_ble_eq_true rfl)) d_Md_put_14 ⟨Nat.zero_le _, Nat.zero_le _⟩) ?_
  refine W.eq (g2 := F0 m 17 ls [.int (f_Mo_find ti n j t), .ref a]) rfl ?_
  refine lv_topi (fun z8 e_z8 => ?_)
  obtain rfl : z8 = oI (¬ (f_Mo_find ti n j t) = -1) ((f_Mo_find ti n j t).toNatClampNeg) := by rw [e_z8]; exact (oI_of (fi_at _ _ _ _ (by omega)))
  by_cases hc1 : ¬ (f_Mo_find ti n j t) = -1
  · rw [show oI (¬ (f_Mo_find ti n j t) = -1) ((f_Mo_find ti n j t).toNatClampNeg) = nI ((f_Mo_find ti n j t).toNatClampNeg) from if_pos hc1]
    have hp9 : ((f_Mo_find ti n j t)).toNatClampNeg < n := fi_lt _ _ _ _ (by omega) hc1
    refine lv_if_ge (tgt := 31) hx hb d_Md_put_17 (by decide) (fun hc => ?_) (fun hc => False.elim (by have hc : ¬ (0 ≤ (f_Mo_find ti n j t).toNatClampNeg) := fun h => hc (by exact (nI_leI (a := 0) (b := (f_Mo_find ti n j t).toNatClampNeg) (by omega) (by omega)).mpr h); omega))
    refine lv_iconst (v := 2) hx hb d_Md_put_31 (by decide) ?_
    refine lv_goto (tgt := 56) hx hb d_Md_put_32 (by decide) ?_
    refine va_put (D := D) (ci := 9) (v := .int 2) (ty := .int) (C := R_Md) (T := F_Md) (N := 17) hx hb hg in_Md t_Md t_Md_ok n_Md hown hK hP hD hS 0 rfl rfl 0 (Nat.le_of_ble_eq_true rfl) (hg _ tw_706) (fun _ h9 => h9) rfl (by decide +kernel) rfl rfl (Nat.le_of_ble_eq_true rfl) d_Md_put_56 (fun H locs hP hD hS => ?_)
    have hP : va_P D cls (wMo cI cJ cZ a 2 kn ed ct ti nm xa xb ma it vs se sm rs wk ors owk) H := hP
    have hD : va_D (blk a 15) (wMo cI cJ cZ a 2 kn ed ct ti nm xa xb ma it vs se sm rs wk ors owk) := hD
    refine lv_aload_n hx hb d_Md_put_59 rfl (lv_at hl 0 rfl) ?_
    refine va_get (D := D) (ci := 9) (v := .int 2) (C := R_Md) (T := F_Md) (N := 17) hx hb hg in_Md hown hK hP 0 rfl rfl 0 (Nat.le_of_ble_eq_true rfl) (hg _ tw_706) (fun _ h9 => h9) rfl d_Md_put_60 ?_
    refine lv_if_ne (tgt := 82) hx hb d_Md_put_63 (by decide) (fun hc => ?_) (fun hc => False.elim (by revert hc; decide))
    rw [if_pos hc1] at hR
    subst hR
    exact W.vret hx hb hr (fun t9 ht hW => ⟨rfl, hS.F ht, by rw [ht]; exact hP⟩) hS.2.2 d_Md_put_82
  · rw [show oI (¬ (f_Mo_find ti n j t) = -1) ((f_Mo_find ti n j t).toNatClampNeg) = -1 from if_neg hc1]
    refine lv_if_ge (tgt := 31) hx hb d_Md_put_17 (by decide) (fun hc => False.elim (by revert hc; decide)) (fun hc => ?_)
    refine lv_aload_n hx hb d_Md_put_20 rfl (lv_at hl 0 rfl) ?_
    refine va_get (D := D) (ci := 9) (v := .ref (a + 3)) (C := R_Md) (T := F_Md) (N := 17) hx hb hg in_Md hown hK hP 0 rfl rfl 3 (Nat.le_of_ble_eq_true rfl) (hg _ tw_709) (fun _ h9 => h9) rfl d_Md_put_21 ?_
    refine lv_iload_n hx hb d_Md_put_24 rfl (lv_at hl 1 rfl) ?_
    refine ep_iald hx hb hK hP 3 0 rfl rfl (i := j) (by omega) (by decide) d_Md_put_25 ?_
    refine lv_topi (fun z9 e_z9 => ?_)
    obtain rfl : z9 = nI n := by rw [e_z9]; exact hct
    refine lv_bipush (v := 32) hx hb d_Md_put_26 (by decide) ?_
    refine lv_icmp_ne (tgt := 35) hx hb d_Md_put_28 (by decide) (fun hc2 => ?_) (fun hc2 => ?_)
    · have hc2 : ¬ (n = 32) := fun h9 => hc2 ((nI_eq (a := n) (b := 32) (by omega) (by omega)).mpr h9)
      refine lv_aload_n hx hb d_Md_put_35 rfl (lv_at hl 0 rfl) ?_
      refine lv_iload_n hx hb d_Md_put_36 rfl (lv_at hl 1 rfl) ?_
      refine ep_callP (W.runV (As := [.int (nI j)]) (rest := [.ref a]) ⟨hx, hb, hml, hown, hg⟩ (m_Mo_kindOf l D cI cJ cZ cO a ((f_Mo_lacks kn j t).2) kn ed ct ti nm xa xb ma it vs se sm rs wk ors owk j (by omega) _ rfl) (ep_cwV 1 hg tw_789 tw_791 ts_11 tw_12 tk_Md_kindOf rfl rfl (by decide +kernel) ⟨(Nat.le_of_ble_eq_true rfl), (Nat.le_of_ble_eq_true rfl)⟩) ⟨ep_blind, va_recv (q0 := 0) (ci := 9) hK hP rfl rfl, ep_pre hKn (hP)⟩ rfl rfl hl.1 rfl (lv_room (Nat.le_of_ble_eq_true rfl)) d_Md_put_37 ⟨Nat.zero_le _, Nat.zero_le _⟩) ?_
      refine W.eq (g2 := F0 m 40 ls [.int (f_Mo_kindOf kn j), .ref a]) rfl ?_
      refine lv_topi (fun z9 e_z9 => ?_)
      obtain rfl : z9 = 3 := by rw [e_z9]; exact (by rw [show f_Mo_kindOf kn j = kn j - 1 from rfl, hk]; decide)
      refine lv_iload_n hx hb d_Md_put_40 rfl (lv_at hl 3 rfl) ?_
      refine lv_iload hx hb d_Md_put_41 (lv_at hl 4 rfl) ?_
      refine lv_iload hx hb d_Md_put_43 (lv_at hl 5 rfl) ?_
      refine ep_callP (W.runS (As := [.int 3, .int u, .int x, .int y]) (rest := [.ref a]) ⟨hx, hb, hml, hown, hg⟩ (m_Mo_fits_3 l D cI cJ cZ cO u x y _ rfl) (ep_cwS 4 hg tw_793 tw_794 tw_12 tk_Md_fits rfl rfl (by decide +kernel) ⟨(Nat.le_of_ble_eq_true rfl), (Nat.le_of_ble_eq_true rfl)⟩) ⟨ep_blind, ep_pre hKn (trivial)⟩ rfl rfl hl.1 rfl (lv_room (Nat.le_of_ble_eq_true rfl)) d_Md_put_45 ⟨Nat.zero_le _, Nat.zero_le _⟩) ?_
      refine W.eq (g2 := F0 m 48 ls [.int (f_Mo_fits_3 u x y), .ref a]) rfl ?_
      refine lv_if_ne (tgt := 55) hx hb d_Md_put_48 (by decide) (fun hc3 => ?_) (fun hc3 => ?_)
      · have hc3 : ¬ ((f_Mo_fits_3 u x y) = 0) := hc3
        refine lv_iconst (v := 0) hx hb d_Md_put_55 (by decide) ?_
        refine va_put (D := D) (ci := 9) (v := .int 0) (ty := .int) (C := R_Md) (T := F_Md) (N := 17) hx hb hg in_Md t_Md t_Md_ok n_Md hown hK hP hD hS 0 rfl rfl 0 (Nat.le_of_ble_eq_true rfl) (hg _ tw_706) (fun _ h9 => h9) rfl (by decide +kernel) rfl rfl (Nat.le_of_ble_eq_true rfl) d_Md_put_56 (fun H locs hP hD hS => ?_)
        have hP : va_P D cls (wMo cI cJ cZ a 0 kn ed ct ti nm xa xb ma it vs se sm rs wk ors owk) H := hP
        have hD : va_D (blk a 15) (wMo cI cJ cZ a 0 kn ed ct ti nm xa xb ma it vs se sm rs wk ors owk) := hD
        refine lv_aload_n hx hb d_Md_put_59 rfl (lv_at hl 0 rfl) ?_
        refine va_get (D := D) (ci := 9) (v := .int 0) (C := R_Md) (T := F_Md) (N := 17) hx hb hg in_Md hown hK hP 0 rfl rfl 0 (Nat.le_of_ble_eq_true rfl) (hg _ tw_706) (fun _ h9 => h9) rfl d_Md_put_60 ?_
        refine lv_if_ne (tgt := 82) hx hb d_Md_put_63 (by decide) (fun hc => False.elim (by revert hc; decide)) (fun hc => ?_)
        refine lv_aload_n hx hb d_Md_put_66 rfl (lv_at hl 0 rfl) ?_
        refine lv_iload_n hx hb d_Md_put_67 rfl (lv_at hl 1 rfl) ?_
        refine ep_callH (W.runV (As := [.int (nI j)]) (rest := []) ⟨hx, hb, hml, hown, hg⟩ (m_Mo_remember l D cI cJ cZ cO a 0 kn ed ct ti nm xa xb ma it vs se sm rs wk ors owk j (by omega) _ rfl) (ep_cwV 1 hg tw_800 tw_802 ts_12 tw_12 tk_Md_remember rfl rfl (by decide +kernel) ⟨(Nat.le_of_ble_eq_true rfl), (Nat.le_of_ble_eq_true rfl)⟩) ⟨ep_blind, va_recv (q0 := 0) (ci := 9) hK hP rfl rfl, ep_pre hKn (hP)⟩ rfl rfl hl.1 rfl (lv_room (Nat.le_of_ble_eq_true rfl)) d_Md_put_68 ⟨Nat.zero_le _, Nat.zero_le _⟩) hS (fun q h => h) (fun H locs hsz9 hk1 hP1 hS => ?_)
        refine W.eq (g2 := F0 m 71 ls []) rfl ?_
        have hP : va_P D cls (wMo cI cJ cZ a 0 kn ((f_Mo_remember ed ct ti nm xa xb j).1) ((f_Mo_remember ed ct ti nm xa xb j).2.1) ((f_Mo_remember ed ct ti nm xa xb j).2.2.1) ((f_Mo_remember ed ct ti nm xa xb j).2.2.2.1) ((f_Mo_remember ed ct ti nm xa xb j).2.2.2.2.1) ((f_Mo_remember ed ct ti nm xa xb j).2.2.2.2.2) ma it vs se sm rs wk ors owk) H := hP1
        have hD : va_D (blk a 15) (wMo cI cJ cZ a 0 kn ((f_Mo_remember ed ct ti nm xa xb j).1) ((f_Mo_remember ed ct ti nm xa xb j).2.1) ((f_Mo_remember ed ct ti nm xa xb j).2.2.1) ((f_Mo_remember ed ct ti nm xa xb j).2.2.2.1) ((f_Mo_remember ed ct ti nm xa xb j).2.2.2.2.1) ((f_Mo_remember ed ct ti nm xa xb j).2.2.2.2.2) ma it vs se sm rs wk ors owk) := (blk_D (wMo_in))
        refine lv_aload_n hx hb d_Md_put_71 rfl (lv_at hl 0 rfl) ?_
        refine lv_iload_n hx hb d_Md_put_72 rfl (lv_at hl 1 rfl) ?_
        refine lv_iload_n hx hb d_Md_put_73 rfl (lv_at hl 2 rfl) ?_
        refine lv_iload_n hx hb d_Md_put_74 rfl (lv_at hl 3 rfl) ?_
        refine lv_iload hx hb d_Md_put_75 (lv_at hl 4 rfl) ?_
        refine lv_iload hx hb d_Md_put_77 (lv_at hl 5 rfl) ?_
        refine ep_callH (W.runV (As := [.int (nI j), .int t, .int u, .int x, .int y]) (rest := []) ⟨hx, hb, hml, hown, hg⟩ (m_Mo_insert l D cI cJ cZ cO a 0 kn ((f_Mo_remember ed ct ti nm xa xb j).1) ((f_Mo_remember ed ct ti nm xa xb j).2.1) ((f_Mo_remember ed ct ti nm xa xb j).2.2.1) ((f_Mo_remember ed ct ti nm xa xb j).2.2.2.1) ((f_Mo_remember ed ct ti nm xa xb j).2.2.2.2.1) ((f_Mo_remember ed ct ti nm xa xb j).2.2.2.2.2) ma it vs se sm rs wk ors owk n j t u x y (by omega) (rem_ct _ _ _ _ _ _ _ _ hct) (by omega) _ rfl) (ep_cwV 5 hg tw_808 tw_810 ts_14 tw_12 tk_Md_insert rfl rfl (by decide +kernel) ⟨(Nat.le_of_ble_eq_true rfl), (Nat.le_of_ble_eq_true rfl)⟩) ⟨ep_blind, va_recv (q0 := 0) (ci := 9) hK hP rfl rfl, ep_pre hKn (hP)⟩ rfl rfl hl.1 rfl (lv_room (Nat.le_of_ble_eq_true rfl)) d_Md_put_79 ⟨Nat.zero_le _, Nat.zero_le _⟩) hS (fun q h => h) (fun H locs hsz9 hk1 hP1 hS => ?_)
        refine W.eq (g2 := F0 m 82 ls []) rfl ?_
        have hP : va_P D cls (wMo cI cJ cZ a 0 kn ((f_Mo_remember ed ct ti nm xa xb j).1) ((f_Mo_insert ((f_Mo_remember ed ct ti nm xa xb j).2.1) ((f_Mo_remember ed ct ti nm xa xb j).2.2.1) ((f_Mo_remember ed ct ti nm xa xb j).2.2.2.1) ((f_Mo_remember ed ct ti nm xa xb j).2.2.2.2.1) ((f_Mo_remember ed ct ti nm xa xb j).2.2.2.2.2) n j t u x y).1) ((f_Mo_insert ((f_Mo_remember ed ct ti nm xa xb j).2.1) ((f_Mo_remember ed ct ti nm xa xb j).2.2.1) ((f_Mo_remember ed ct ti nm xa xb j).2.2.2.1) ((f_Mo_remember ed ct ti nm xa xb j).2.2.2.2.1) ((f_Mo_remember ed ct ti nm xa xb j).2.2.2.2.2) n j t u x y).2.1) ((f_Mo_insert ((f_Mo_remember ed ct ti nm xa xb j).2.1) ((f_Mo_remember ed ct ti nm xa xb j).2.2.1) ((f_Mo_remember ed ct ti nm xa xb j).2.2.2.1) ((f_Mo_remember ed ct ti nm xa xb j).2.2.2.2.1) ((f_Mo_remember ed ct ti nm xa xb j).2.2.2.2.2) n j t u x y).2.2.1) ((f_Mo_insert ((f_Mo_remember ed ct ti nm xa xb j).2.1) ((f_Mo_remember ed ct ti nm xa xb j).2.2.1) ((f_Mo_remember ed ct ti nm xa xb j).2.2.2.1) ((f_Mo_remember ed ct ti nm xa xb j).2.2.2.2.1) ((f_Mo_remember ed ct ti nm xa xb j).2.2.2.2.2) n j t u x y).2.2.2.1) ((f_Mo_insert ((f_Mo_remember ed ct ti nm xa xb j).2.1) ((f_Mo_remember ed ct ti nm xa xb j).2.2.1) ((f_Mo_remember ed ct ti nm xa xb j).2.2.2.1) ((f_Mo_remember ed ct ti nm xa xb j).2.2.2.2.1) ((f_Mo_remember ed ct ti nm xa xb j).2.2.2.2.2) n j t u x y).2.2.2.2) ma it vs se sm rs wk ors owk) H := hP1
        have hD : va_D (blk a 15) (wMo cI cJ cZ a 0 kn ((f_Mo_remember ed ct ti nm xa xb j).1) ((f_Mo_insert ((f_Mo_remember ed ct ti nm xa xb j).2.1) ((f_Mo_remember ed ct ti nm xa xb j).2.2.1) ((f_Mo_remember ed ct ti nm xa xb j).2.2.2.1) ((f_Mo_remember ed ct ti nm xa xb j).2.2.2.2.1) ((f_Mo_remember ed ct ti nm xa xb j).2.2.2.2.2) n j t u x y).1) ((f_Mo_insert ((f_Mo_remember ed ct ti nm xa xb j).2.1) ((f_Mo_remember ed ct ti nm xa xb j).2.2.1) ((f_Mo_remember ed ct ti nm xa xb j).2.2.2.1) ((f_Mo_remember ed ct ti nm xa xb j).2.2.2.2.1) ((f_Mo_remember ed ct ti nm xa xb j).2.2.2.2.2) n j t u x y).2.1) ((f_Mo_insert ((f_Mo_remember ed ct ti nm xa xb j).2.1) ((f_Mo_remember ed ct ti nm xa xb j).2.2.1) ((f_Mo_remember ed ct ti nm xa xb j).2.2.2.1) ((f_Mo_remember ed ct ti nm xa xb j).2.2.2.2.1) ((f_Mo_remember ed ct ti nm xa xb j).2.2.2.2.2) n j t u x y).2.2.1) ((f_Mo_insert ((f_Mo_remember ed ct ti nm xa xb j).2.1) ((f_Mo_remember ed ct ti nm xa xb j).2.2.1) ((f_Mo_remember ed ct ti nm xa xb j).2.2.2.1) ((f_Mo_remember ed ct ti nm xa xb j).2.2.2.2.1) ((f_Mo_remember ed ct ti nm xa xb j).2.2.2.2.2) n j t u x y).2.2.2.1) ((f_Mo_insert ((f_Mo_remember ed ct ti nm xa xb j).2.1) ((f_Mo_remember ed ct ti nm xa xb j).2.2.1) ((f_Mo_remember ed ct ti nm xa xb j).2.2.2.1) ((f_Mo_remember ed ct ti nm xa xb j).2.2.2.2.1) ((f_Mo_remember ed ct ti nm xa xb j).2.2.2.2.2) n j t u x y).2.2.2.2) ma it vs se sm rs wk ors owk) := (blk_D (wMo_in))
        rw [if_neg hc1, if_neg hc2, if_neg hc3] at hR
        subst hR
        exact W.vret hx hb hr (fun t9 ht hW => ⟨rfl, hS.F ht, by rw [ht]; exact hP⟩) hS.2.2 d_Md_put_82
      · have hc3 : (f_Mo_fits_3 u x y) = 0 := hc3
        refine lv_iconst (v := 3) hx hb d_Md_put_51 (by decide) ?_
        refine lv_goto (tgt := 56) hx hb d_Md_put_52 (by decide) ?_
        refine va_put (D := D) (ci := 9) (v := .int 3) (ty := .int) (C := R_Md) (T := F_Md) (N := 17) hx hb hg in_Md t_Md t_Md_ok n_Md hown hK hP hD hS 0 rfl rfl 0 (Nat.le_of_ble_eq_true rfl) (hg _ tw_706) (fun _ h9 => h9) rfl (by decide +kernel) rfl rfl (Nat.le_of_ble_eq_true rfl) d_Md_put_56 (fun H locs hP hD hS => ?_)
        have hP : va_P D cls (wMo cI cJ cZ a 3 kn ed ct ti nm xa xb ma it vs se sm rs wk ors owk) H := hP
        have hD : va_D (blk a 15) (wMo cI cJ cZ a 3 kn ed ct ti nm xa xb ma it vs se sm rs wk ors owk) := hD
        refine lv_aload_n hx hb d_Md_put_59 rfl (lv_at hl 0 rfl) ?_
        refine va_get (D := D) (ci := 9) (v := .int 3) (C := R_Md) (T := F_Md) (N := 17) hx hb hg in_Md hown hK hP 0 rfl rfl 0 (Nat.le_of_ble_eq_true rfl) (hg _ tw_706) (fun _ h9 => h9) rfl d_Md_put_60 ?_
        refine lv_if_ne (tgt := 82) hx hb d_Md_put_63 (by decide) (fun hc => ?_) (fun hc => False.elim (by revert hc; decide))
        rw [if_neg hc1, if_neg hc2, if_pos hc3] at hR
        subst hR
        exact W.vret hx hb hr (fun t9 ht hW => ⟨rfl, hS.F ht, by rw [ht]; exact hP⟩) hS.2.2 d_Md_put_82
    · have hc2 : n = 32 := (nI_eq (a := n) (b := 32) (by omega) (by omega)).mp hc2
      refine lv_iconst (v := 2) hx hb d_Md_put_31 (by decide) ?_
      refine lv_goto (tgt := 56) hx hb d_Md_put_32 (by decide) ?_
      refine va_put (D := D) (ci := 9) (v := .int 2) (ty := .int) (C := R_Md) (T := F_Md) (N := 17) hx hb hg in_Md t_Md t_Md_ok n_Md hown hK hP hD hS 0 rfl rfl 0 (Nat.le_of_ble_eq_true rfl) (hg _ tw_706) (fun _ h9 => h9) rfl (by decide +kernel) rfl rfl (Nat.le_of_ble_eq_true rfl) d_Md_put_56 (fun H locs hP hD hS => ?_)
      have hP : va_P D cls (wMo cI cJ cZ a 2 kn ed ct ti nm xa xb ma it vs se sm rs wk ors owk) H := hP
      have hD : va_D (blk a 15) (wMo cI cJ cZ a 2 kn ed ct ti nm xa xb ma it vs se sm rs wk ors owk) := hD
      refine lv_aload_n hx hb d_Md_put_59 rfl (lv_at hl 0 rfl) ?_
      refine va_get (D := D) (ci := 9) (v := .int 2) (C := R_Md) (T := F_Md) (N := 17) hx hb hg in_Md hown hK hP 0 rfl rfl 0 (Nat.le_of_ble_eq_true rfl) (hg _ tw_706) (fun _ h9 => h9) rfl d_Md_put_60 ?_
      refine lv_if_ne (tgt := 82) hx hb d_Md_put_63 (by decide) (fun hc => ?_) (fun hc => False.elim (by revert hc; decide))
      rw [if_neg hc1, if_pos hc2] at hR
      subst hR
      exact W.vret hx hb hr (fun t9 ht hW => ⟨rfl, hS.F ht, by rw [ht]; exact hP⟩) hS.2.2 d_Md_put_82

def f_Mo_put_4 (ed : Nat → Int32) (ct : Nat → Int32) (ti : Nat → Int32) (nm : Nat → Int32) (xa : Nat → Int32) (xb : Nat → Int32) (n : Nat) (j : Nat) (t : Int32) (u : Int32) (x : Int32) (y : Int32) : Int32 × (Nat → Int32) × (Nat → Int32) × (Nat → Int32) × (Nat → Int32) × (Nat → Int32) × (Nat → Int32) := if ¬ (f_Mo_find ti n j t) = -1 then ((2, ed, ct, ti, nm, xa, xb)) else (if n = 32 then ((2, ed, ct, ti, nm, xa, xb)) else (if (f_Mo_fits_4 u x y) = 0 then ((3, ed, ct, ti, nm, xa, xb)) else ((0, (f_Mo_remember ed ct ti nm xa xb j).1, (f_Mo_insert ((f_Mo_remember ed ct ti nm xa xb j).2.1) ((f_Mo_remember ed ct ti nm xa xb j).2.2.1) ((f_Mo_remember ed ct ti nm xa xb j).2.2.2.1) ((f_Mo_remember ed ct ti nm xa xb j).2.2.2.2.1) ((f_Mo_remember ed ct ti nm xa xb j).2.2.2.2.2) n j t u x y).1, (f_Mo_insert ((f_Mo_remember ed ct ti nm xa xb j).2.1) ((f_Mo_remember ed ct ti nm xa xb j).2.2.1) ((f_Mo_remember ed ct ti nm xa xb j).2.2.2.1) ((f_Mo_remember ed ct ti nm xa xb j).2.2.2.2.1) ((f_Mo_remember ed ct ti nm xa xb j).2.2.2.2.2) n j t u x y).2.1, (f_Mo_insert ((f_Mo_remember ed ct ti nm xa xb j).2.1) ((f_Mo_remember ed ct ti nm xa xb j).2.2.1) ((f_Mo_remember ed ct ti nm xa xb j).2.2.2.1) ((f_Mo_remember ed ct ti nm xa xb j).2.2.2.2.1) ((f_Mo_remember ed ct ti nm xa xb j).2.2.2.2.2) n j t u x y).2.2.1, (f_Mo_insert ((f_Mo_remember ed ct ti nm xa xb j).2.1) ((f_Mo_remember ed ct ti nm xa xb j).2.2.1) ((f_Mo_remember ed ct ti nm xa xb j).2.2.2.1) ((f_Mo_remember ed ct ti nm xa xb j).2.2.2.2.1) ((f_Mo_remember ed ct ti nm xa xb j).2.2.2.2.2) n j t u x y).2.2.2.1, (f_Mo_insert ((f_Mo_remember ed ct ti nm xa xb j).2.1) ((f_Mo_remember ed ct ti nm xa xb j).2.2.1) ((f_Mo_remember ed ct ti nm xa xb j).2.2.2.1) ((f_Mo_remember ed ct ti nm xa xb j).2.2.2.2.1) ((f_Mo_remember ed ct ti nm xa xb j).2.2.2.2.2) n j t u x y).2.2.2.2))))
set_option maxHeartbeats 4000000 in
set_option maxRecDepth 100000 in
theorem m_Mo_put_4 (l : Launch) (D : va_G) (cI cJ cZ cO : ClassId) (a : Nat) (code : Int32) (kn : Nat → Int32) (ed : Nat → Int32) (ct : Nat → Int32) (ti : Nat → Int32) (nm : Nat → Int32) (xa : Nat → Int32) (xb : Nat → Int32) (ma : Int32) (it : Nat → Int32) (vs : Nat → Int32) (se : Nat → Int32) (sm : Int64) (rs : Nat → Int64) (wk : Nat → Int32) (ors : Nat → Int64) (owk : Nat → Int32) (n : Nat) (j : Nat) (t : Int32) (u : Int32) (x : Int32) (y : Int32) (hj : j < 4) (hlk : (f_Mo_lacks kn j t).1 = 0) (hk : kn j = 5) (hct : ct j = nI n) (hn : n ≤ 32) (R : Int32 × (Nat → Int32) × (Nat → Int32) × (Nat → Int32) × (Nat → Int32) × (Nat → Int32) × (Nat → Int32)) (hR : f_Mo_put_4 ed ct ti nm xa xb n j t u x y = R) : Met l y_Md_put (k_Md_put :: gt) rm_Md_put (Pc0 D cI cJ cZ cO [.ref a, .int (nI j), .int t, .int u, .int x, .int y] (fun H => va_P D cls (wMo cI cJ cZ a code kn ed ct ti nm xa xb ma it vs se sm rs wk ors owk) H)) (Qd (blk a 15) none (fun H => va_P D cls (wMo cI cJ cZ a R.1 kn R.2.1 R.2.2.1 R.2.2.2.1 R.2.2.2.2.1 R.2.2.2.2.2.1 R.2.2.2.2.2.2 ma it vs se sm rs wk ors owk) H)) 0 0 (blk a 15) := by
  refine Met.ofW (cc := c_Md_put) (maxL := 6) (ret := none) (by decide) rfl ?_
  intro p e s m args below meth c s₁ B hml hv
  obtain ⟨rfl, hKn, hP⟩ := hv
  have hx := B.exec
  have hb := B.bytes
  have hr := B.returns
  have hts := atoms_spec (ws := k_Md_put :: gt) B.pre
  have hg : ∀ w ∈ gt, w.before _ s = true := fun w h => hts w (List.mem_cons_of_mem _ h)
  have hown : s.vm.findClass R_Md = some m.cls := findClass_of_methodNamed B.named
  have hlocks := B.notSynchronized
  have hK := hKn.1
  have hl := lv_entry ([.ref a, .int (nI j), .int t, .int u, .int x, .int y]) (n := 6) (Nat.le_of_ble_eq_true rfl)
  rw [lg_entry_eq]
  generalize (lg_sl ([.ref a, .int (nI j), .int t, .int u, .int x, .int y]) ++ List.replicate (6 - (lg_sl ([.ref a, .int (nI j), .int t, .int u, .int x, .int y])).length) Slot.unset).toArray = ls at hl ⊢
  have hl : lv_has ls 6 [(0, .ref a), (1, .int (nI j)), (2, .int t), (3, .int u), (4, .int x), (5, .int y)] := hl
  have hS : va_S (blk a 15) s.heap s.heap [] := va_S.rf
  have hD : va_D (blk a 15) (wMo cI cJ cZ a code kn ed ct ti nm xa xb ma it vs se sm rs wk ors owk) := (blk_D (wMo_in))
  have hR : (if ¬ (f_Mo_find ti n j t) = -1 then ((2, ed, ct, ti, nm, xa, xb)) else (if n = 32 then ((2, ed, ct, ti, nm, xa, xb)) else (if (f_Mo_fits_4 u x y) = 0 then ((3, ed, ct, ti, nm, xa, xb)) else ((0, (f_Mo_remember ed ct ti nm xa xb j).1, (f_Mo_insert ((f_Mo_remember ed ct ti nm xa xb j).2.1) ((f_Mo_remember ed ct ti nm xa xb j).2.2.1) ((f_Mo_remember ed ct ti nm xa xb j).2.2.2.1) ((f_Mo_remember ed ct ti nm xa xb j).2.2.2.2.1) ((f_Mo_remember ed ct ti nm xa xb j).2.2.2.2.2) n j t u x y).1, (f_Mo_insert ((f_Mo_remember ed ct ti nm xa xb j).2.1) ((f_Mo_remember ed ct ti nm xa xb j).2.2.1) ((f_Mo_remember ed ct ti nm xa xb j).2.2.2.1) ((f_Mo_remember ed ct ti nm xa xb j).2.2.2.2.1) ((f_Mo_remember ed ct ti nm xa xb j).2.2.2.2.2) n j t u x y).2.1, (f_Mo_insert ((f_Mo_remember ed ct ti nm xa xb j).2.1) ((f_Mo_remember ed ct ti nm xa xb j).2.2.1) ((f_Mo_remember ed ct ti nm xa xb j).2.2.2.1) ((f_Mo_remember ed ct ti nm xa xb j).2.2.2.2.1) ((f_Mo_remember ed ct ti nm xa xb j).2.2.2.2.2) n j t u x y).2.2.1, (f_Mo_insert ((f_Mo_remember ed ct ti nm xa xb j).2.1) ((f_Mo_remember ed ct ti nm xa xb j).2.2.1) ((f_Mo_remember ed ct ti nm xa xb j).2.2.2.1) ((f_Mo_remember ed ct ti nm xa xb j).2.2.2.2.1) ((f_Mo_remember ed ct ti nm xa xb j).2.2.2.2.2) n j t u x y).2.2.2.1, (f_Mo_insert ((f_Mo_remember ed ct ti nm xa xb j).2.1) ((f_Mo_remember ed ct ti nm xa xb j).2.2.1) ((f_Mo_remember ed ct ti nm xa xb j).2.2.2.1) ((f_Mo_remember ed ct ti nm xa xb j).2.2.2.2.1) ((f_Mo_remember ed ct ti nm xa xb j).2.2.2.2.2) n j t u x y).2.2.2.2))))) = R := hR
  refine lv_aload_n hx hb d_Md_put_0 rfl (lv_at hl 0 rfl) ?_
  refine lv_iload_n hx hb d_Md_put_1 rfl (lv_at hl 1 rfl) ?_
  refine lv_iload_n hx hb d_Md_put_2 rfl (lv_at hl 2 rfl) ?_
  refine ep_callH (W.runV (As := [.int (nI j), .int t]) (rest := []) ⟨hx, hb, hml, hown, hg⟩ (m_Mo_lacks l D cI cJ cZ cO a code kn ed ct ti nm xa xb ma it vs se sm rs wk ors owk j t (by omega) _ rfl) (ep_cwV 2 hg tw_773 tw_775 ts_9 tw_12 tk_Md_lacks rfl rfl (by decide +kernel) ⟨(Nat.le_of_ble_eq_true rfl), (Nat.le_of_ble_eq_true rfl)⟩) ⟨ep_blind, va_recv (q0 := 0) (ci := 9) hK hP rfl rfl, ep_pre hKn (hP)⟩ rfl rfl hl.1 rfl (lv_room (Nat.le_of_ble_eq_true rfl)) d_Md_put_3 ⟨Nat.zero_le _, Nat.zero_le _⟩) hS (fun q h => h) (fun H locs hsz9 hk1 hP1 hS => ?_)
  refine W.eq (g2 := F0 m 6 ls [.int ((f_Mo_lacks kn j t).1)]) rfl ?_
  have hP : va_P D cls (wMo cI cJ cZ a ((f_Mo_lacks kn j t).2) kn ed ct ti nm xa xb ma it vs se sm rs wk ors owk) H := hP1
  have hD : va_D (blk a 15) (wMo cI cJ cZ a ((f_Mo_lacks kn j t).2) kn ed ct ti nm xa xb ma it vs se sm rs wk ors owk) := (blk_D (wMo_in))
  refine lv_if_eq (tgt := 10) hx hb d_Md_put_6 (by decide) (fun hc => ?_) (fun hc => absurd hlk hc)
  refine lv_aload_n hx hb d_Md_put_10 rfl (lv_at hl 0 rfl) ?_
  refine lv_aload_n hx hb d_Md_put_11 rfl (lv_at hl 0 rfl) ?_
  refine lv_iload_n hx hb d_Md_put_12 rfl (lv_at hl 1 rfl) ?_
  refine lv_iload_n hx hb d_Md_put_13 rfl (lv_at hl 2 rfl) ?_
  refine ep_callP (W.runV (As := [.int (nI j), .int t]) (rest := [.ref a]) ⟨hx, hb, hml, hown, hg⟩ (m_Mo_find l D cI cJ cZ cO a ((f_Mo_lacks kn j t).2) kn ed ct ti nm xa xb ma it vs se sm rs wk ors owk n j t (by omega) hct (by omega) _ rfl) (ep_cwV 2 hg tw_785 tw_787 ts_10 tw_12 tk_Md_find rfl rfl (by decide +kernel) ⟨(Nat.le_of_ble_eq_true rfl), (Nat.le_of_ble_eq_true rfl)⟩) ⟨ep_blind, va_recv (q0 := 0) (ci := 9) hK hP rfl rfl, ep_pre hKn (hP)⟩ rfl rfl hl.1 rfl (lv_room (Nat.le_of_ble_eq_true rfl)) d_Md_put_14 ⟨Nat.zero_le _, Nat.zero_le _⟩) ?_
  refine W.eq (g2 := F0 m 17 ls [.int (f_Mo_find ti n j t), .ref a]) rfl ?_
  refine lv_topi (fun z8 e_z8 => ?_)
  obtain rfl : z8 = oI (¬ (f_Mo_find ti n j t) = -1) ((f_Mo_find ti n j t).toNatClampNeg) := by rw [e_z8]; exact (oI_of (fi_at _ _ _ _ (by omega)))
  by_cases hc1 : ¬ (f_Mo_find ti n j t) = -1
  · rw [show oI (¬ (f_Mo_find ti n j t) = -1) ((f_Mo_find ti n j t).toNatClampNeg) = nI ((f_Mo_find ti n j t).toNatClampNeg) from if_pos hc1]
    have hp9 : ((f_Mo_find ti n j t)).toNatClampNeg < n := fi_lt _ _ _ _ (by omega) hc1
    refine lv_if_ge (tgt := 31) hx hb d_Md_put_17 (by decide) (fun hc => ?_) (fun hc => False.elim (by have hc : ¬ (0 ≤ (f_Mo_find ti n j t).toNatClampNeg) := fun h => hc (by exact (nI_leI (a := 0) (b := (f_Mo_find ti n j t).toNatClampNeg) (by omega) (by omega)).mpr h); omega))
    refine lv_iconst (v := 2) hx hb d_Md_put_31 (by decide) ?_
    refine lv_goto (tgt := 56) hx hb d_Md_put_32 (by decide) ?_
    refine va_put (D := D) (ci := 9) (v := .int 2) (ty := .int) (C := R_Md) (T := F_Md) (N := 17) hx hb hg in_Md t_Md t_Md_ok n_Md hown hK hP hD hS 0 rfl rfl 0 (Nat.le_of_ble_eq_true rfl) (hg _ tw_706) (fun _ h9 => h9) rfl (by decide +kernel) rfl rfl (Nat.le_of_ble_eq_true rfl) d_Md_put_56 (fun H locs hP hD hS => ?_)
    have hP : va_P D cls (wMo cI cJ cZ a 2 kn ed ct ti nm xa xb ma it vs se sm rs wk ors owk) H := hP
    have hD : va_D (blk a 15) (wMo cI cJ cZ a 2 kn ed ct ti nm xa xb ma it vs se sm rs wk ors owk) := hD
    refine lv_aload_n hx hb d_Md_put_59 rfl (lv_at hl 0 rfl) ?_
    refine va_get (D := D) (ci := 9) (v := .int 2) (C := R_Md) (T := F_Md) (N := 17) hx hb hg in_Md hown hK hP 0 rfl rfl 0 (Nat.le_of_ble_eq_true rfl) (hg _ tw_706) (fun _ h9 => h9) rfl d_Md_put_60 ?_
    refine lv_if_ne (tgt := 82) hx hb d_Md_put_63 (by decide) (fun hc => ?_) (fun hc => False.elim (by revert hc; decide))
    rw [if_pos hc1] at hR
    subst hR
    exact W.vret hx hb hr (fun t9 ht hW => ⟨rfl, hS.F ht, by rw [ht]; exact hP⟩) hS.2.2 d_Md_put_82
  · rw [show oI (¬ (f_Mo_find ti n j t) = -1) ((f_Mo_find ti n j t).toNatClampNeg) = -1 from if_neg hc1]
    refine lv_if_ge (tgt := 31) hx hb d_Md_put_17 (by decide) (fun hc => False.elim (by revert hc; decide)) (fun hc => ?_)
    refine lv_aload_n hx hb d_Md_put_20 rfl (lv_at hl 0 rfl) ?_
    refine va_get (D := D) (ci := 9) (v := .ref (a + 3)) (C := R_Md) (T := F_Md) (N := 17) hx hb hg in_Md hown hK hP 0 rfl rfl 3 (Nat.le_of_ble_eq_true rfl) (hg _ tw_709) (fun _ h9 => h9) rfl d_Md_put_21 ?_
    refine lv_iload_n hx hb d_Md_put_24 rfl (lv_at hl 1 rfl) ?_
    refine ep_iald hx hb hK hP 3 0 rfl rfl (i := j) (by omega) (by decide) d_Md_put_25 ?_
    refine lv_topi (fun z9 e_z9 => ?_)
    obtain rfl : z9 = nI n := by rw [e_z9]; exact hct
    refine lv_bipush (v := 32) hx hb d_Md_put_26 (by decide) ?_
    refine lv_icmp_ne (tgt := 35) hx hb d_Md_put_28 (by decide) (fun hc2 => ?_) (fun hc2 => ?_)
    · have hc2 : ¬ (n = 32) := fun h9 => hc2 ((nI_eq (a := n) (b := 32) (by omega) (by omega)).mpr h9)
      refine lv_aload_n hx hb d_Md_put_35 rfl (lv_at hl 0 rfl) ?_
      refine lv_iload_n hx hb d_Md_put_36 rfl (lv_at hl 1 rfl) ?_
      refine ep_callP (W.runV (As := [.int (nI j)]) (rest := [.ref a]) ⟨hx, hb, hml, hown, hg⟩ (m_Mo_kindOf l D cI cJ cZ cO a ((f_Mo_lacks kn j t).2) kn ed ct ti nm xa xb ma it vs se sm rs wk ors owk j (by omega) _ rfl) (ep_cwV 1 hg tw_789 tw_791 ts_11 tw_12 tk_Md_kindOf rfl rfl (by decide +kernel) ⟨(Nat.le_of_ble_eq_true rfl), (Nat.le_of_ble_eq_true rfl)⟩) ⟨ep_blind, va_recv (q0 := 0) (ci := 9) hK hP rfl rfl, ep_pre hKn (hP)⟩ rfl rfl hl.1 rfl (lv_room (Nat.le_of_ble_eq_true rfl)) d_Md_put_37 ⟨Nat.zero_le _, Nat.zero_le _⟩) ?_
      refine W.eq (g2 := F0 m 40 ls [.int (f_Mo_kindOf kn j), .ref a]) rfl ?_
      refine lv_topi (fun z9 e_z9 => ?_)
      obtain rfl : z9 = 4 := by rw [e_z9]; exact (by rw [show f_Mo_kindOf kn j = kn j - 1 from rfl, hk]; decide)
      refine lv_iload_n hx hb d_Md_put_40 rfl (lv_at hl 3 rfl) ?_
      refine lv_iload hx hb d_Md_put_41 (lv_at hl 4 rfl) ?_
      refine lv_iload hx hb d_Md_put_43 (lv_at hl 5 rfl) ?_
      refine ep_callP (W.runS (As := [.int 4, .int u, .int x, .int y]) (rest := [.ref a]) ⟨hx, hb, hml, hown, hg⟩ (m_Mo_fits_4 l D cI cJ cZ cO u x y _ rfl) (ep_cwS 4 hg tw_793 tw_794 tw_12 tk_Md_fits rfl rfl (by decide +kernel) ⟨(Nat.le_of_ble_eq_true rfl), (Nat.le_of_ble_eq_true rfl)⟩) ⟨ep_blind, ep_pre hKn (trivial)⟩ rfl rfl hl.1 rfl (lv_room (Nat.le_of_ble_eq_true rfl)) d_Md_put_45 ⟨Nat.zero_le _, Nat.zero_le _⟩) ?_
      refine W.eq (g2 := F0 m 48 ls [.int (f_Mo_fits_4 u x y), .ref a]) rfl ?_
      refine lv_if_ne (tgt := 55) hx hb d_Md_put_48 (by decide) (fun hc3 => ?_) (fun hc3 => ?_)
      · have hc3 : ¬ ((f_Mo_fits_4 u x y) = 0) := hc3
        refine lv_iconst (v := 0) hx hb d_Md_put_55 (by decide) ?_
        refine va_put (D := D) (ci := 9) (v := .int 0) (ty := .int) (C := R_Md) (T := F_Md) (N := 17) hx hb hg in_Md t_Md t_Md_ok n_Md hown hK hP hD hS 0 rfl rfl 0 (Nat.le_of_ble_eq_true rfl) (hg _ tw_706) (fun _ h9 => h9) rfl (by decide +kernel) rfl rfl (Nat.le_of_ble_eq_true rfl) d_Md_put_56 (fun H locs hP hD hS => ?_)
        have hP : va_P D cls (wMo cI cJ cZ a 0 kn ed ct ti nm xa xb ma it vs se sm rs wk ors owk) H := hP
        have hD : va_D (blk a 15) (wMo cI cJ cZ a 0 kn ed ct ti nm xa xb ma it vs se sm rs wk ors owk) := hD
        refine lv_aload_n hx hb d_Md_put_59 rfl (lv_at hl 0 rfl) ?_
        refine va_get (D := D) (ci := 9) (v := .int 0) (C := R_Md) (T := F_Md) (N := 17) hx hb hg in_Md hown hK hP 0 rfl rfl 0 (Nat.le_of_ble_eq_true rfl) (hg _ tw_706) (fun _ h9 => h9) rfl d_Md_put_60 ?_
        refine lv_if_ne (tgt := 82) hx hb d_Md_put_63 (by decide) (fun hc => False.elim (by revert hc; decide)) (fun hc => ?_)
        refine lv_aload_n hx hb d_Md_put_66 rfl (lv_at hl 0 rfl) ?_
        refine lv_iload_n hx hb d_Md_put_67 rfl (lv_at hl 1 rfl) ?_
        refine ep_callH (W.runV (As := [.int (nI j)]) (rest := []) ⟨hx, hb, hml, hown, hg⟩ (m_Mo_remember l D cI cJ cZ cO a 0 kn ed ct ti nm xa xb ma it vs se sm rs wk ors owk j (by omega) _ rfl) (ep_cwV 1 hg tw_800 tw_802 ts_12 tw_12 tk_Md_remember rfl rfl (by decide +kernel) ⟨(Nat.le_of_ble_eq_true rfl), (Nat.le_of_ble_eq_true rfl)⟩) ⟨ep_blind, va_recv (q0 := 0) (ci := 9) hK hP rfl rfl, ep_pre hKn (hP)⟩ rfl rfl hl.1 rfl (lv_room (Nat.le_of_ble_eq_true rfl)) d_Md_put_68 ⟨Nat.zero_le _, Nat.zero_le _⟩) hS (fun q h => h) (fun H locs hsz9 hk1 hP1 hS => ?_)
        refine W.eq (g2 := F0 m 71 ls []) rfl ?_
        have hP : va_P D cls (wMo cI cJ cZ a 0 kn ((f_Mo_remember ed ct ti nm xa xb j).1) ((f_Mo_remember ed ct ti nm xa xb j).2.1) ((f_Mo_remember ed ct ti nm xa xb j).2.2.1) ((f_Mo_remember ed ct ti nm xa xb j).2.2.2.1) ((f_Mo_remember ed ct ti nm xa xb j).2.2.2.2.1) ((f_Mo_remember ed ct ti nm xa xb j).2.2.2.2.2) ma it vs se sm rs wk ors owk) H := hP1
        have hD : va_D (blk a 15) (wMo cI cJ cZ a 0 kn ((f_Mo_remember ed ct ti nm xa xb j).1) ((f_Mo_remember ed ct ti nm xa xb j).2.1) ((f_Mo_remember ed ct ti nm xa xb j).2.2.1) ((f_Mo_remember ed ct ti nm xa xb j).2.2.2.1) ((f_Mo_remember ed ct ti nm xa xb j).2.2.2.2.1) ((f_Mo_remember ed ct ti nm xa xb j).2.2.2.2.2) ma it vs se sm rs wk ors owk) := (blk_D (wMo_in))
        refine lv_aload_n hx hb d_Md_put_71 rfl (lv_at hl 0 rfl) ?_
        refine lv_iload_n hx hb d_Md_put_72 rfl (lv_at hl 1 rfl) ?_
        refine lv_iload_n hx hb d_Md_put_73 rfl (lv_at hl 2 rfl) ?_
        refine lv_iload_n hx hb d_Md_put_74 rfl (lv_at hl 3 rfl) ?_
        refine lv_iload hx hb d_Md_put_75 (lv_at hl 4 rfl) ?_
        refine lv_iload hx hb d_Md_put_77 (lv_at hl 5 rfl) ?_
        refine ep_callH (W.runV (As := [.int (nI j), .int t, .int u, .int x, .int y]) (rest := []) ⟨hx, hb, hml, hown, hg⟩ (m_Mo_insert l D cI cJ cZ cO a 0 kn ((f_Mo_remember ed ct ti nm xa xb j).1) ((f_Mo_remember ed ct ti nm xa xb j).2.1) ((f_Mo_remember ed ct ti nm xa xb j).2.2.1) ((f_Mo_remember ed ct ti nm xa xb j).2.2.2.1) ((f_Mo_remember ed ct ti nm xa xb j).2.2.2.2.1) ((f_Mo_remember ed ct ti nm xa xb j).2.2.2.2.2) ma it vs se sm rs wk ors owk n j t u x y (by omega) (rem_ct _ _ _ _ _ _ _ _ hct) (by omega) _ rfl) (ep_cwV 5 hg tw_808 tw_810 ts_14 tw_12 tk_Md_insert rfl rfl (by decide +kernel) ⟨(Nat.le_of_ble_eq_true rfl), (Nat.le_of_ble_eq_true rfl)⟩) ⟨ep_blind, va_recv (q0 := 0) (ci := 9) hK hP rfl rfl, ep_pre hKn (hP)⟩ rfl rfl hl.1 rfl (lv_room (Nat.le_of_ble_eq_true rfl)) d_Md_put_79 ⟨Nat.zero_le _, Nat.zero_le _⟩) hS (fun q h => h) (fun H locs hsz9 hk1 hP1 hS => ?_)
        refine W.eq (g2 := F0 m 82 ls []) rfl ?_
        have hP : va_P D cls (wMo cI cJ cZ a 0 kn ((f_Mo_remember ed ct ti nm xa xb j).1) ((f_Mo_insert ((f_Mo_remember ed ct ti nm xa xb j).2.1) ((f_Mo_remember ed ct ti nm xa xb j).2.2.1) ((f_Mo_remember ed ct ti nm xa xb j).2.2.2.1) ((f_Mo_remember ed ct ti nm xa xb j).2.2.2.2.1) ((f_Mo_remember ed ct ti nm xa xb j).2.2.2.2.2) n j t u x y).1) ((f_Mo_insert ((f_Mo_remember ed ct ti nm xa xb j).2.1) ((f_Mo_remember ed ct ti nm xa xb j).2.2.1) ((f_Mo_remember ed ct ti nm xa xb j).2.2.2.1) ((f_Mo_remember ed ct ti nm xa xb j).2.2.2.2.1) ((f_Mo_remember ed ct ti nm xa xb j).2.2.2.2.2) n j t u x y).2.1) ((f_Mo_insert ((f_Mo_remember ed ct ti nm xa xb j).2.1) ((f_Mo_remember ed ct ti nm xa xb j).2.2.1) ((f_Mo_remember ed ct ti nm xa xb j).2.2.2.1) ((f_Mo_remember ed ct ti nm xa xb j).2.2.2.2.1) ((f_Mo_remember ed ct ti nm xa xb j).2.2.2.2.2) n j t u x y).2.2.1) ((f_Mo_insert ((f_Mo_remember ed ct ti nm xa xb j).2.1) ((f_Mo_remember ed ct ti nm xa xb j).2.2.1) ((f_Mo_remember ed ct ti nm xa xb j).2.2.2.1) ((f_Mo_remember ed ct ti nm xa xb j).2.2.2.2.1) ((f_Mo_remember ed ct ti nm xa xb j).2.2.2.2.2) n j t u x y).2.2.2.1) ((f_Mo_insert ((f_Mo_remember ed ct ti nm xa xb j).2.1) ((f_Mo_remember ed ct ti nm xa xb j).2.2.1) ((f_Mo_remember ed ct ti nm xa xb j).2.2.2.1) ((f_Mo_remember ed ct ti nm xa xb j).2.2.2.2.1) ((f_Mo_remember ed ct ti nm xa xb j).2.2.2.2.2) n j t u x y).2.2.2.2) ma it vs se sm rs wk ors owk) H := hP1
        have hD : va_D (blk a 15) (wMo cI cJ cZ a 0 kn ((f_Mo_remember ed ct ti nm xa xb j).1) ((f_Mo_insert ((f_Mo_remember ed ct ti nm xa xb j).2.1) ((f_Mo_remember ed ct ti nm xa xb j).2.2.1) ((f_Mo_remember ed ct ti nm xa xb j).2.2.2.1) ((f_Mo_remember ed ct ti nm xa xb j).2.2.2.2.1) ((f_Mo_remember ed ct ti nm xa xb j).2.2.2.2.2) n j t u x y).1) ((f_Mo_insert ((f_Mo_remember ed ct ti nm xa xb j).2.1) ((f_Mo_remember ed ct ti nm xa xb j).2.2.1) ((f_Mo_remember ed ct ti nm xa xb j).2.2.2.1) ((f_Mo_remember ed ct ti nm xa xb j).2.2.2.2.1) ((f_Mo_remember ed ct ti nm xa xb j).2.2.2.2.2) n j t u x y).2.1) ((f_Mo_insert ((f_Mo_remember ed ct ti nm xa xb j).2.1) ((f_Mo_remember ed ct ti nm xa xb j).2.2.1) ((f_Mo_remember ed ct ti nm xa xb j).2.2.2.1) ((f_Mo_remember ed ct ti nm xa xb j).2.2.2.2.1) ((f_Mo_remember ed ct ti nm xa xb j).2.2.2.2.2) n j t u x y).2.2.1) ((f_Mo_insert ((f_Mo_remember ed ct ti nm xa xb j).2.1) ((f_Mo_remember ed ct ti nm xa xb j).2.2.1) ((f_Mo_remember ed ct ti nm xa xb j).2.2.2.1) ((f_Mo_remember ed ct ti nm xa xb j).2.2.2.2.1) ((f_Mo_remember ed ct ti nm xa xb j).2.2.2.2.2) n j t u x y).2.2.2.1) ((f_Mo_insert ((f_Mo_remember ed ct ti nm xa xb j).2.1) ((f_Mo_remember ed ct ti nm xa xb j).2.2.1) ((f_Mo_remember ed ct ti nm xa xb j).2.2.2.1) ((f_Mo_remember ed ct ti nm xa xb j).2.2.2.2.1) ((f_Mo_remember ed ct ti nm xa xb j).2.2.2.2.2) n j t u x y).2.2.2.2) ma it vs se sm rs wk ors owk) := (blk_D (wMo_in))
        rw [if_neg hc1, if_neg hc2, if_neg hc3] at hR
        subst hR
        exact W.vret hx hb hr (fun t9 ht hW => ⟨rfl, hS.F ht, by rw [ht]; exact hP⟩) hS.2.2 d_Md_put_82
      · have hc3 : (f_Mo_fits_4 u x y) = 0 := hc3
        refine lv_iconst (v := 3) hx hb d_Md_put_51 (by decide) ?_
        refine lv_goto (tgt := 56) hx hb d_Md_put_52 (by decide) ?_
        refine va_put (D := D) (ci := 9) (v := .int 3) (ty := .int) (C := R_Md) (T := F_Md) (N := 17) hx hb hg in_Md t_Md t_Md_ok n_Md hown hK hP hD hS 0 rfl rfl 0 (Nat.le_of_ble_eq_true rfl) (hg _ tw_706) (fun _ h9 => h9) rfl (by decide +kernel) rfl rfl (Nat.le_of_ble_eq_true rfl) d_Md_put_56 (fun H locs hP hD hS => ?_)
        have hP : va_P D cls (wMo cI cJ cZ a 3 kn ed ct ti nm xa xb ma it vs se sm rs wk ors owk) H := hP
        have hD : va_D (blk a 15) (wMo cI cJ cZ a 3 kn ed ct ti nm xa xb ma it vs se sm rs wk ors owk) := hD
        refine lv_aload_n hx hb d_Md_put_59 rfl (lv_at hl 0 rfl) ?_
        refine va_get (D := D) (ci := 9) (v := .int 3) (C := R_Md) (T := F_Md) (N := 17) hx hb hg in_Md hown hK hP 0 rfl rfl 0 (Nat.le_of_ble_eq_true rfl) (hg _ tw_706) (fun _ h9 => h9) rfl d_Md_put_60 ?_
        refine lv_if_ne (tgt := 82) hx hb d_Md_put_63 (by decide) (fun hc => ?_) (fun hc => False.elim (by revert hc; decide))
        rw [if_neg hc1, if_neg hc2, if_pos hc3] at hR
        subst hR
        exact W.vret hx hb hr (fun t9 ht hW => ⟨rfl, hS.F ht, by rw [ht]; exact hP⟩) hS.2.2 d_Md_put_82
    · have hc2 : n = 32 := (nI_eq (a := n) (b := 32) (by omega) (by omega)).mp hc2
      refine lv_iconst (v := 2) hx hb d_Md_put_31 (by decide) ?_
      refine lv_goto (tgt := 56) hx hb d_Md_put_32 (by decide) ?_
      refine va_put (D := D) (ci := 9) (v := .int 2) (ty := .int) (C := R_Md) (T := F_Md) (N := 17) hx hb hg in_Md t_Md t_Md_ok n_Md hown hK hP hD hS 0 rfl rfl 0 (Nat.le_of_ble_eq_true rfl) (hg _ tw_706) (fun _ h9 => h9) rfl (by decide +kernel) rfl rfl (Nat.le_of_ble_eq_true rfl) d_Md_put_56 (fun H locs hP hD hS => ?_)
      have hP : va_P D cls (wMo cI cJ cZ a 2 kn ed ct ti nm xa xb ma it vs se sm rs wk ors owk) H := hP
      have hD : va_D (blk a 15) (wMo cI cJ cZ a 2 kn ed ct ti nm xa xb ma it vs se sm rs wk ors owk) := hD
      refine lv_aload_n hx hb d_Md_put_59 rfl (lv_at hl 0 rfl) ?_
      refine va_get (D := D) (ci := 9) (v := .int 2) (C := R_Md) (T := F_Md) (N := 17) hx hb hg in_Md hown hK hP 0 rfl rfl 0 (Nat.le_of_ble_eq_true rfl) (hg _ tw_706) (fun _ h9 => h9) rfl d_Md_put_60 ?_
      refine lv_if_ne (tgt := 82) hx hb d_Md_put_63 (by decide) (fun hc => ?_) (fun hc => False.elim (by revert hc; decide))
      rw [if_neg hc1, if_pos hc2] at hR
      subst hR
      exact W.vret hx hb hr (fun t9 ht hW => ⟨rfl, hS.F ht, by rw [ht]; exact hP⟩) hS.2.2 d_Md_put_82

def f_Mo_put_5 (ed : Nat → Int32) (ct : Nat → Int32) (ti : Nat → Int32) (nm : Nat → Int32) (xa : Nat → Int32) (xb : Nat → Int32) (n : Nat) (j : Nat) (t : Int32) (u : Int32) (x : Int32) (y : Int32) : Int32 × (Nat → Int32) × (Nat → Int32) × (Nat → Int32) × (Nat → Int32) × (Nat → Int32) × (Nat → Int32) := if ¬ (f_Mo_find ti n j t) = -1 then ((2, ed, ct, ti, nm, xa, xb)) else (if n = 32 then ((2, ed, ct, ti, nm, xa, xb)) else (if (f_Mo_fits_5 u x y) = 0 then ((3, ed, ct, ti, nm, xa, xb)) else ((0, (f_Mo_remember ed ct ti nm xa xb j).1, (f_Mo_insert ((f_Mo_remember ed ct ti nm xa xb j).2.1) ((f_Mo_remember ed ct ti nm xa xb j).2.2.1) ((f_Mo_remember ed ct ti nm xa xb j).2.2.2.1) ((f_Mo_remember ed ct ti nm xa xb j).2.2.2.2.1) ((f_Mo_remember ed ct ti nm xa xb j).2.2.2.2.2) n j t u x y).1, (f_Mo_insert ((f_Mo_remember ed ct ti nm xa xb j).2.1) ((f_Mo_remember ed ct ti nm xa xb j).2.2.1) ((f_Mo_remember ed ct ti nm xa xb j).2.2.2.1) ((f_Mo_remember ed ct ti nm xa xb j).2.2.2.2.1) ((f_Mo_remember ed ct ti nm xa xb j).2.2.2.2.2) n j t u x y).2.1, (f_Mo_insert ((f_Mo_remember ed ct ti nm xa xb j).2.1) ((f_Mo_remember ed ct ti nm xa xb j).2.2.1) ((f_Mo_remember ed ct ti nm xa xb j).2.2.2.1) ((f_Mo_remember ed ct ti nm xa xb j).2.2.2.2.1) ((f_Mo_remember ed ct ti nm xa xb j).2.2.2.2.2) n j t u x y).2.2.1, (f_Mo_insert ((f_Mo_remember ed ct ti nm xa xb j).2.1) ((f_Mo_remember ed ct ti nm xa xb j).2.2.1) ((f_Mo_remember ed ct ti nm xa xb j).2.2.2.1) ((f_Mo_remember ed ct ti nm xa xb j).2.2.2.2.1) ((f_Mo_remember ed ct ti nm xa xb j).2.2.2.2.2) n j t u x y).2.2.2.1, (f_Mo_insert ((f_Mo_remember ed ct ti nm xa xb j).2.1) ((f_Mo_remember ed ct ti nm xa xb j).2.2.1) ((f_Mo_remember ed ct ti nm xa xb j).2.2.2.1) ((f_Mo_remember ed ct ti nm xa xb j).2.2.2.2.1) ((f_Mo_remember ed ct ti nm xa xb j).2.2.2.2.2) n j t u x y).2.2.2.2))))
set_option maxHeartbeats 4000000 in
set_option maxRecDepth 100000 in
theorem m_Mo_put_5 (l : Launch) (D : va_G) (cI cJ cZ cO : ClassId) (a : Nat) (code : Int32) (kn : Nat → Int32) (ed : Nat → Int32) (ct : Nat → Int32) (ti : Nat → Int32) (nm : Nat → Int32) (xa : Nat → Int32) (xb : Nat → Int32) (ma : Int32) (it : Nat → Int32) (vs : Nat → Int32) (se : Nat → Int32) (sm : Int64) (rs : Nat → Int64) (wk : Nat → Int32) (ors : Nat → Int64) (owk : Nat → Int32) (n : Nat) (j : Nat) (t : Int32) (u : Int32) (x : Int32) (y : Int32) (hj : j < 4) (hlk : (f_Mo_lacks kn j t).1 = 0) (hk : kn j = 6) (hct : ct j = nI n) (hn : n ≤ 32) (R : Int32 × (Nat → Int32) × (Nat → Int32) × (Nat → Int32) × (Nat → Int32) × (Nat → Int32) × (Nat → Int32)) (hR : f_Mo_put_5 ed ct ti nm xa xb n j t u x y = R) : Met l y_Md_put (k_Md_put :: gt) rm_Md_put (Pc0 D cI cJ cZ cO [.ref a, .int (nI j), .int t, .int u, .int x, .int y] (fun H => va_P D cls (wMo cI cJ cZ a code kn ed ct ti nm xa xb ma it vs se sm rs wk ors owk) H)) (Qd (blk a 15) none (fun H => va_P D cls (wMo cI cJ cZ a R.1 kn R.2.1 R.2.2.1 R.2.2.2.1 R.2.2.2.2.1 R.2.2.2.2.2.1 R.2.2.2.2.2.2 ma it vs se sm rs wk ors owk) H)) 0 0 (blk a 15) := by
  refine Met.ofW (cc := c_Md_put) (maxL := 6) (ret := none) (by decide) rfl ?_
  intro p e s m args below meth c s₁ B hml hv
  obtain ⟨rfl, hKn, hP⟩ := hv
  have hx := B.exec
  have hb := B.bytes
  have hr := B.returns
  have hts := atoms_spec (ws := k_Md_put :: gt) B.pre
  have hg : ∀ w ∈ gt, w.before _ s = true := fun w h => hts w (List.mem_cons_of_mem _ h)
  have hown : s.vm.findClass R_Md = some m.cls := findClass_of_methodNamed B.named
  have hlocks := B.notSynchronized
  have hK := hKn.1
  have hl := lv_entry ([.ref a, .int (nI j), .int t, .int u, .int x, .int y]) (n := 6) (Nat.le_of_ble_eq_true rfl)
  rw [lg_entry_eq]
  generalize (lg_sl ([.ref a, .int (nI j), .int t, .int u, .int x, .int y]) ++ List.replicate (6 - (lg_sl ([.ref a, .int (nI j), .int t, .int u, .int x, .int y])).length) Slot.unset).toArray = ls at hl ⊢
  have hl : lv_has ls 6 [(0, .ref a), (1, .int (nI j)), (2, .int t), (3, .int u), (4, .int x), (5, .int y)] := hl
  have hS : va_S (blk a 15) s.heap s.heap [] := va_S.rf
  have hD : va_D (blk a 15) (wMo cI cJ cZ a code kn ed ct ti nm xa xb ma it vs se sm rs wk ors owk) := (blk_D (wMo_in))
  have hR : (if ¬ (f_Mo_find ti n j t) = -1 then ((2, ed, ct, ti, nm, xa, xb)) else (if n = 32 then ((2, ed, ct, ti, nm, xa, xb)) else (if (f_Mo_fits_5 u x y) = 0 then ((3, ed, ct, ti, nm, xa, xb)) else ((0, (f_Mo_remember ed ct ti nm xa xb j).1, (f_Mo_insert ((f_Mo_remember ed ct ti nm xa xb j).2.1) ((f_Mo_remember ed ct ti nm xa xb j).2.2.1) ((f_Mo_remember ed ct ti nm xa xb j).2.2.2.1) ((f_Mo_remember ed ct ti nm xa xb j).2.2.2.2.1) ((f_Mo_remember ed ct ti nm xa xb j).2.2.2.2.2) n j t u x y).1, (f_Mo_insert ((f_Mo_remember ed ct ti nm xa xb j).2.1) ((f_Mo_remember ed ct ti nm xa xb j).2.2.1) ((f_Mo_remember ed ct ti nm xa xb j).2.2.2.1) ((f_Mo_remember ed ct ti nm xa xb j).2.2.2.2.1) ((f_Mo_remember ed ct ti nm xa xb j).2.2.2.2.2) n j t u x y).2.1, (f_Mo_insert ((f_Mo_remember ed ct ti nm xa xb j).2.1) ((f_Mo_remember ed ct ti nm xa xb j).2.2.1) ((f_Mo_remember ed ct ti nm xa xb j).2.2.2.1) ((f_Mo_remember ed ct ti nm xa xb j).2.2.2.2.1) ((f_Mo_remember ed ct ti nm xa xb j).2.2.2.2.2) n j t u x y).2.2.1, (f_Mo_insert ((f_Mo_remember ed ct ti nm xa xb j).2.1) ((f_Mo_remember ed ct ti nm xa xb j).2.2.1) ((f_Mo_remember ed ct ti nm xa xb j).2.2.2.1) ((f_Mo_remember ed ct ti nm xa xb j).2.2.2.2.1) ((f_Mo_remember ed ct ti nm xa xb j).2.2.2.2.2) n j t u x y).2.2.2.1, (f_Mo_insert ((f_Mo_remember ed ct ti nm xa xb j).2.1) ((f_Mo_remember ed ct ti nm xa xb j).2.2.1) ((f_Mo_remember ed ct ti nm xa xb j).2.2.2.1) ((f_Mo_remember ed ct ti nm xa xb j).2.2.2.2.1) ((f_Mo_remember ed ct ti nm xa xb j).2.2.2.2.2) n j t u x y).2.2.2.2))))) = R := hR
  refine lv_aload_n hx hb d_Md_put_0 rfl (lv_at hl 0 rfl) ?_
  refine lv_iload_n hx hb d_Md_put_1 rfl (lv_at hl 1 rfl) ?_
  refine lv_iload_n hx hb d_Md_put_2 rfl (lv_at hl 2 rfl) ?_
  refine ep_callH (W.runV (As := [.int (nI j), .int t]) (rest := []) ⟨hx, hb, hml, hown, hg⟩ (m_Mo_lacks l D cI cJ cZ cO a code kn ed ct ti nm xa xb ma it vs se sm rs wk ors owk j t (by omega) _ rfl) (ep_cwV 2 hg tw_773 tw_775 ts_9 tw_12 tk_Md_lacks rfl rfl (by decide +kernel) ⟨(Nat.le_of_ble_eq_true rfl), (Nat.le_of_ble_eq_true rfl)⟩) ⟨ep_blind, va_recv (q0 := 0) (ci := 9) hK hP rfl rfl, ep_pre hKn (hP)⟩ rfl rfl hl.1 rfl (lv_room (Nat.le_of_ble_eq_true rfl)) d_Md_put_3 ⟨Nat.zero_le _, Nat.zero_le _⟩) hS (fun q h => h) (fun H locs hsz9 hk1 hP1 hS => ?_)
  refine W.eq (g2 := F0 m 6 ls [.int ((f_Mo_lacks kn j t).1)]) rfl ?_
  have hP : va_P D cls (wMo cI cJ cZ a ((f_Mo_lacks kn j t).2) kn ed ct ti nm xa xb ma it vs se sm rs wk ors owk) H := hP1
  have hD : va_D (blk a 15) (wMo cI cJ cZ a ((f_Mo_lacks kn j t).2) kn ed ct ti nm xa xb ma it vs se sm rs wk ors owk) := (blk_D (wMo_in))
  refine lv_if_eq (tgt := 10) hx hb d_Md_put_6 (by decide) (fun hc => ?_) (fun hc => absurd hlk hc)
  refine lv_aload_n hx hb d_Md_put_10 rfl (lv_at hl 0 rfl) ?_
  refine lv_aload_n hx hb d_Md_put_11 rfl (lv_at hl 0 rfl) ?_
  refine lv_iload_n hx hb d_Md_put_12 rfl (lv_at hl 1 rfl) ?_
  refine lv_iload_n hx hb d_Md_put_13 rfl (lv_at hl 2 rfl) ?_
  refine ep_callP (W.runV (As := [.int (nI j), .int t]) (rest := [.ref a]) ⟨hx, hb, hml, hown, hg⟩ (m_Mo_find l D cI cJ cZ cO a ((f_Mo_lacks kn j t).2) kn ed ct ti nm xa xb ma it vs se sm rs wk ors owk n j t (by omega) hct (by omega) _ rfl) (ep_cwV 2 hg tw_785 tw_787 ts_10 tw_12 tk_Md_find rfl rfl (by decide +kernel) ⟨(Nat.le_of_ble_eq_true rfl), (Nat.le_of_ble_eq_true rfl)⟩) ⟨ep_blind, va_recv (q0 := 0) (ci := 9) hK hP rfl rfl, ep_pre hKn (hP)⟩ rfl rfl hl.1 rfl (lv_room (Nat.le_of_ble_eq_true rfl)) d_Md_put_14 ⟨Nat.zero_le _, Nat.zero_le _⟩) ?_
  refine W.eq (g2 := F0 m 17 ls [.int (f_Mo_find ti n j t), .ref a]) rfl ?_
  refine lv_topi (fun z8 e_z8 => ?_)
  obtain rfl : z8 = oI (¬ (f_Mo_find ti n j t) = -1) ((f_Mo_find ti n j t).toNatClampNeg) := by rw [e_z8]; exact (oI_of (fi_at _ _ _ _ (by omega)))
  by_cases hc1 : ¬ (f_Mo_find ti n j t) = -1
  · rw [show oI (¬ (f_Mo_find ti n j t) = -1) ((f_Mo_find ti n j t).toNatClampNeg) = nI ((f_Mo_find ti n j t).toNatClampNeg) from if_pos hc1]
    have hp9 : ((f_Mo_find ti n j t)).toNatClampNeg < n := fi_lt _ _ _ _ (by omega) hc1
    refine lv_if_ge (tgt := 31) hx hb d_Md_put_17 (by decide) (fun hc => ?_) (fun hc => False.elim (by have hc : ¬ (0 ≤ (f_Mo_find ti n j t).toNatClampNeg) := fun h => hc (by exact (nI_leI (a := 0) (b := (f_Mo_find ti n j t).toNatClampNeg) (by omega) (by omega)).mpr h); omega))
    refine lv_iconst (v := 2) hx hb d_Md_put_31 (by decide) ?_
    refine lv_goto (tgt := 56) hx hb d_Md_put_32 (by decide) ?_
    refine va_put (D := D) (ci := 9) (v := .int 2) (ty := .int) (C := R_Md) (T := F_Md) (N := 17) hx hb hg in_Md t_Md t_Md_ok n_Md hown hK hP hD hS 0 rfl rfl 0 (Nat.le_of_ble_eq_true rfl) (hg _ tw_706) (fun _ h9 => h9) rfl (by decide +kernel) rfl rfl (Nat.le_of_ble_eq_true rfl) d_Md_put_56 (fun H locs hP hD hS => ?_)
    have hP : va_P D cls (wMo cI cJ cZ a 2 kn ed ct ti nm xa xb ma it vs se sm rs wk ors owk) H := hP
    have hD : va_D (blk a 15) (wMo cI cJ cZ a 2 kn ed ct ti nm xa xb ma it vs se sm rs wk ors owk) := hD
    refine lv_aload_n hx hb d_Md_put_59 rfl (lv_at hl 0 rfl) ?_
    refine va_get (D := D) (ci := 9) (v := .int 2) (C := R_Md) (T := F_Md) (N := 17) hx hb hg in_Md hown hK hP 0 rfl rfl 0 (Nat.le_of_ble_eq_true rfl) (hg _ tw_706) (fun _ h9 => h9) rfl d_Md_put_60 ?_
    refine lv_if_ne (tgt := 82) hx hb d_Md_put_63 (by decide) (fun hc => ?_) (fun hc => False.elim (by revert hc; decide))
    rw [if_pos hc1] at hR
    subst hR
    exact W.vret hx hb hr (fun t9 ht hW => ⟨rfl, hS.F ht, by rw [ht]; exact hP⟩) hS.2.2 d_Md_put_82
  · rw [show oI (¬ (f_Mo_find ti n j t) = -1) ((f_Mo_find ti n j t).toNatClampNeg) = -1 from if_neg hc1]
    refine lv_if_ge (tgt := 31) hx hb d_Md_put_17 (by decide) (fun hc => False.elim (by revert hc; decide)) (fun hc => ?_)
    refine lv_aload_n hx hb d_Md_put_20 rfl (lv_at hl 0 rfl) ?_
    refine va_get (D := D) (ci := 9) (v := .ref (a + 3)) (C := R_Md) (T := F_Md) (N := 17) hx hb hg in_Md hown hK hP 0 rfl rfl 3 (Nat.le_of_ble_eq_true rfl) (hg _ tw_709) (fun _ h9 => h9) rfl d_Md_put_21 ?_
    refine lv_iload_n hx hb d_Md_put_24 rfl (lv_at hl 1 rfl) ?_
    refine ep_iald hx hb hK hP 3 0 rfl rfl (i := j) (by omega) (by decide) d_Md_put_25 ?_
    refine lv_topi (fun z9 e_z9 => ?_)
    obtain rfl : z9 = nI n := by rw [e_z9]; exact hct
    refine lv_bipush (v := 32) hx hb d_Md_put_26 (by decide) ?_
    refine lv_icmp_ne (tgt := 35) hx hb d_Md_put_28 (by decide) (fun hc2 => ?_) (fun hc2 => ?_)
    · have hc2 : ¬ (n = 32) := fun h9 => hc2 ((nI_eq (a := n) (b := 32) (by omega) (by omega)).mpr h9)
      refine lv_aload_n hx hb d_Md_put_35 rfl (lv_at hl 0 rfl) ?_
      refine lv_iload_n hx hb d_Md_put_36 rfl (lv_at hl 1 rfl) ?_
      refine ep_callP (W.runV (As := [.int (nI j)]) (rest := [.ref a]) ⟨hx, hb, hml, hown, hg⟩ (m_Mo_kindOf l D cI cJ cZ cO a ((f_Mo_lacks kn j t).2) kn ed ct ti nm xa xb ma it vs se sm rs wk ors owk j (by omega) _ rfl) (ep_cwV 1 hg tw_789 tw_791 ts_11 tw_12 tk_Md_kindOf rfl rfl (by decide +kernel) ⟨(Nat.le_of_ble_eq_true rfl), (Nat.le_of_ble_eq_true rfl)⟩) ⟨ep_blind, va_recv (q0 := 0) (ci := 9) hK hP rfl rfl, ep_pre hKn (hP)⟩ rfl rfl hl.1 rfl (lv_room (Nat.le_of_ble_eq_true rfl)) d_Md_put_37 ⟨Nat.zero_le _, Nat.zero_le _⟩) ?_
      refine W.eq (g2 := F0 m 40 ls [.int (f_Mo_kindOf kn j), .ref a]) rfl ?_
      refine lv_topi (fun z9 e_z9 => ?_)
      obtain rfl : z9 = 5 := by rw [e_z9]; exact (by rw [show f_Mo_kindOf kn j = kn j - 1 from rfl, hk]; decide)
      refine lv_iload_n hx hb d_Md_put_40 rfl (lv_at hl 3 rfl) ?_
      refine lv_iload hx hb d_Md_put_41 (lv_at hl 4 rfl) ?_
      refine lv_iload hx hb d_Md_put_43 (lv_at hl 5 rfl) ?_
      refine ep_callP (W.runS (As := [.int 5, .int u, .int x, .int y]) (rest := [.ref a]) ⟨hx, hb, hml, hown, hg⟩ (m_Mo_fits_5 l D cI cJ cZ cO u x y _ rfl) (ep_cwS 4 hg tw_793 tw_794 tw_12 tk_Md_fits rfl rfl (by decide +kernel) ⟨(Nat.le_of_ble_eq_true rfl), (Nat.le_of_ble_eq_true rfl)⟩) ⟨ep_blind, ep_pre hKn (trivial)⟩ rfl rfl hl.1 rfl (lv_room (Nat.le_of_ble_eq_true rfl)) d_Md_put_45 ⟨Nat.zero_le _, Nat.zero_le _⟩) ?_
      refine W.eq (g2 := F0 m 48 ls [.int (f_Mo_fits_5 u x y), .ref a]) rfl ?_
      refine lv_if_ne (tgt := 55) hx hb d_Md_put_48 (by decide) (fun hc3 => ?_) (fun hc3 => ?_)
      · have hc3 : ¬ ((f_Mo_fits_5 u x y) = 0) := hc3
        refine lv_iconst (v := 0) hx hb d_Md_put_55 (by decide) ?_
        refine va_put (D := D) (ci := 9) (v := .int 0) (ty := .int) (C := R_Md) (T := F_Md) (N := 17) hx hb hg in_Md t_Md t_Md_ok n_Md hown hK hP hD hS 0 rfl rfl 0 (Nat.le_of_ble_eq_true rfl) (hg _ tw_706) (fun _ h9 => h9) rfl (by decide +kernel) rfl rfl (Nat.le_of_ble_eq_true rfl) d_Md_put_56 (fun H locs hP hD hS => ?_)
        have hP : va_P D cls (wMo cI cJ cZ a 0 kn ed ct ti nm xa xb ma it vs se sm rs wk ors owk) H := hP
        have hD : va_D (blk a 15) (wMo cI cJ cZ a 0 kn ed ct ti nm xa xb ma it vs se sm rs wk ors owk) := hD
        refine lv_aload_n hx hb d_Md_put_59 rfl (lv_at hl 0 rfl) ?_
        refine va_get (D := D) (ci := 9) (v := .int 0) (C := R_Md) (T := F_Md) (N := 17) hx hb hg in_Md hown hK hP 0 rfl rfl 0 (Nat.le_of_ble_eq_true rfl) (hg _ tw_706) (fun _ h9 => h9) rfl d_Md_put_60 ?_
        refine lv_if_ne (tgt := 82) hx hb d_Md_put_63 (by decide) (fun hc => False.elim (by revert hc; decide)) (fun hc => ?_)
        refine lv_aload_n hx hb d_Md_put_66 rfl (lv_at hl 0 rfl) ?_
        refine lv_iload_n hx hb d_Md_put_67 rfl (lv_at hl 1 rfl) ?_
        refine ep_callH (W.runV (As := [.int (nI j)]) (rest := []) ⟨hx, hb, hml, hown, hg⟩ (m_Mo_remember l D cI cJ cZ cO a 0 kn ed ct ti nm xa xb ma it vs se sm rs wk ors owk j (by omega) _ rfl) (ep_cwV 1 hg tw_800 tw_802 ts_12 tw_12 tk_Md_remember rfl rfl (by decide +kernel) ⟨(Nat.le_of_ble_eq_true rfl), (Nat.le_of_ble_eq_true rfl)⟩) ⟨ep_blind, va_recv (q0 := 0) (ci := 9) hK hP rfl rfl, ep_pre hKn (hP)⟩ rfl rfl hl.1 rfl (lv_room (Nat.le_of_ble_eq_true rfl)) d_Md_put_68 ⟨Nat.zero_le _, Nat.zero_le _⟩) hS (fun q h => h) (fun H locs hsz9 hk1 hP1 hS => ?_)
        refine W.eq (g2 := F0 m 71 ls []) rfl ?_
        have hP : va_P D cls (wMo cI cJ cZ a 0 kn ((f_Mo_remember ed ct ti nm xa xb j).1) ((f_Mo_remember ed ct ti nm xa xb j).2.1) ((f_Mo_remember ed ct ti nm xa xb j).2.2.1) ((f_Mo_remember ed ct ti nm xa xb j).2.2.2.1) ((f_Mo_remember ed ct ti nm xa xb j).2.2.2.2.1) ((f_Mo_remember ed ct ti nm xa xb j).2.2.2.2.2) ma it vs se sm rs wk ors owk) H := hP1
        have hD : va_D (blk a 15) (wMo cI cJ cZ a 0 kn ((f_Mo_remember ed ct ti nm xa xb j).1) ((f_Mo_remember ed ct ti nm xa xb j).2.1) ((f_Mo_remember ed ct ti nm xa xb j).2.2.1) ((f_Mo_remember ed ct ti nm xa xb j).2.2.2.1) ((f_Mo_remember ed ct ti nm xa xb j).2.2.2.2.1) ((f_Mo_remember ed ct ti nm xa xb j).2.2.2.2.2) ma it vs se sm rs wk ors owk) := (blk_D (wMo_in))
        refine lv_aload_n hx hb d_Md_put_71 rfl (lv_at hl 0 rfl) ?_
        refine lv_iload_n hx hb d_Md_put_72 rfl (lv_at hl 1 rfl) ?_
        refine lv_iload_n hx hb d_Md_put_73 rfl (lv_at hl 2 rfl) ?_
        refine lv_iload_n hx hb d_Md_put_74 rfl (lv_at hl 3 rfl) ?_
        refine lv_iload hx hb d_Md_put_75 (lv_at hl 4 rfl) ?_
        refine lv_iload hx hb d_Md_put_77 (lv_at hl 5 rfl) ?_
        refine ep_callH (W.runV (As := [.int (nI j), .int t, .int u, .int x, .int y]) (rest := []) ⟨hx, hb, hml, hown, hg⟩ (m_Mo_insert l D cI cJ cZ cO a 0 kn ((f_Mo_remember ed ct ti nm xa xb j).1) ((f_Mo_remember ed ct ti nm xa xb j).2.1) ((f_Mo_remember ed ct ti nm xa xb j).2.2.1) ((f_Mo_remember ed ct ti nm xa xb j).2.2.2.1) ((f_Mo_remember ed ct ti nm xa xb j).2.2.2.2.1) ((f_Mo_remember ed ct ti nm xa xb j).2.2.2.2.2) ma it vs se sm rs wk ors owk n j t u x y (by omega) (rem_ct _ _ _ _ _ _ _ _ hct) (by omega) _ rfl) (ep_cwV 5 hg tw_808 tw_810 ts_14 tw_12 tk_Md_insert rfl rfl (by decide +kernel) ⟨(Nat.le_of_ble_eq_true rfl), (Nat.le_of_ble_eq_true rfl)⟩) ⟨ep_blind, va_recv (q0 := 0) (ci := 9) hK hP rfl rfl, ep_pre hKn (hP)⟩ rfl rfl hl.1 rfl (lv_room (Nat.le_of_ble_eq_true rfl)) d_Md_put_79 ⟨Nat.zero_le _, Nat.zero_le _⟩) hS (fun q h => h) (fun H locs hsz9 hk1 hP1 hS => ?_)
        refine W.eq (g2 := F0 m 82 ls []) rfl ?_
        have hP : va_P D cls (wMo cI cJ cZ a 0 kn ((f_Mo_remember ed ct ti nm xa xb j).1) ((f_Mo_insert ((f_Mo_remember ed ct ti nm xa xb j).2.1) ((f_Mo_remember ed ct ti nm xa xb j).2.2.1) ((f_Mo_remember ed ct ti nm xa xb j).2.2.2.1) ((f_Mo_remember ed ct ti nm xa xb j).2.2.2.2.1) ((f_Mo_remember ed ct ti nm xa xb j).2.2.2.2.2) n j t u x y).1) ((f_Mo_insert ((f_Mo_remember ed ct ti nm xa xb j).2.1) ((f_Mo_remember ed ct ti nm xa xb j).2.2.1) ((f_Mo_remember ed ct ti nm xa xb j).2.2.2.1) ((f_Mo_remember ed ct ti nm xa xb j).2.2.2.2.1) ((f_Mo_remember ed ct ti nm xa xb j).2.2.2.2.2) n j t u x y).2.1) ((f_Mo_insert ((f_Mo_remember ed ct ti nm xa xb j).2.1) ((f_Mo_remember ed ct ti nm xa xb j).2.2.1) ((f_Mo_remember ed ct ti nm xa xb j).2.2.2.1) ((f_Mo_remember ed ct ti nm xa xb j).2.2.2.2.1) ((f_Mo_remember ed ct ti nm xa xb j).2.2.2.2.2) n j t u x y).2.2.1) ((f_Mo_insert ((f_Mo_remember ed ct ti nm xa xb j).2.1) ((f_Mo_remember ed ct ti nm xa xb j).2.2.1) ((f_Mo_remember ed ct ti nm xa xb j).2.2.2.1) ((f_Mo_remember ed ct ti nm xa xb j).2.2.2.2.1) ((f_Mo_remember ed ct ti nm xa xb j).2.2.2.2.2) n j t u x y).2.2.2.1) ((f_Mo_insert ((f_Mo_remember ed ct ti nm xa xb j).2.1) ((f_Mo_remember ed ct ti nm xa xb j).2.2.1) ((f_Mo_remember ed ct ti nm xa xb j).2.2.2.1) ((f_Mo_remember ed ct ti nm xa xb j).2.2.2.2.1) ((f_Mo_remember ed ct ti nm xa xb j).2.2.2.2.2) n j t u x y).2.2.2.2) ma it vs se sm rs wk ors owk) H := hP1
        have hD : va_D (blk a 15) (wMo cI cJ cZ a 0 kn ((f_Mo_remember ed ct ti nm xa xb j).1) ((f_Mo_insert ((f_Mo_remember ed ct ti nm xa xb j).2.1) ((f_Mo_remember ed ct ti nm xa xb j).2.2.1) ((f_Mo_remember ed ct ti nm xa xb j).2.2.2.1) ((f_Mo_remember ed ct ti nm xa xb j).2.2.2.2.1) ((f_Mo_remember ed ct ti nm xa xb j).2.2.2.2.2) n j t u x y).1) ((f_Mo_insert ((f_Mo_remember ed ct ti nm xa xb j).2.1) ((f_Mo_remember ed ct ti nm xa xb j).2.2.1) ((f_Mo_remember ed ct ti nm xa xb j).2.2.2.1) ((f_Mo_remember ed ct ti nm xa xb j).2.2.2.2.1) ((f_Mo_remember ed ct ti nm xa xb j).2.2.2.2.2) n j t u x y).2.1) ((f_Mo_insert ((f_Mo_remember ed ct ti nm xa xb j).2.1) ((f_Mo_remember ed ct ti nm xa xb j).2.2.1) ((f_Mo_remember ed ct ti nm xa xb j).2.2.2.1) ((f_Mo_remember ed ct ti nm xa xb j).2.2.2.2.1) ((f_Mo_remember ed ct ti nm xa xb j).2.2.2.2.2) n j t u x y).2.2.1) ((f_Mo_insert ((f_Mo_remember ed ct ti nm xa xb j).2.1) ((f_Mo_remember ed ct ti nm xa xb j).2.2.1) ((f_Mo_remember ed ct ti nm xa xb j).2.2.2.1) ((f_Mo_remember ed ct ti nm xa xb j).2.2.2.2.1) ((f_Mo_remember ed ct ti nm xa xb j).2.2.2.2.2) n j t u x y).2.2.2.1) ((f_Mo_insert ((f_Mo_remember ed ct ti nm xa xb j).2.1) ((f_Mo_remember ed ct ti nm xa xb j).2.2.1) ((f_Mo_remember ed ct ti nm xa xb j).2.2.2.1) ((f_Mo_remember ed ct ti nm xa xb j).2.2.2.2.1) ((f_Mo_remember ed ct ti nm xa xb j).2.2.2.2.2) n j t u x y).2.2.2.2) ma it vs se sm rs wk ors owk) := (blk_D (wMo_in))
        rw [if_neg hc1, if_neg hc2, if_neg hc3] at hR
        subst hR
        exact W.vret hx hb hr (fun t9 ht hW => ⟨rfl, hS.F ht, by rw [ht]; exact hP⟩) hS.2.2 d_Md_put_82
      · have hc3 : (f_Mo_fits_5 u x y) = 0 := hc3
        refine lv_iconst (v := 3) hx hb d_Md_put_51 (by decide) ?_
        refine lv_goto (tgt := 56) hx hb d_Md_put_52 (by decide) ?_
        refine va_put (D := D) (ci := 9) (v := .int 3) (ty := .int) (C := R_Md) (T := F_Md) (N := 17) hx hb hg in_Md t_Md t_Md_ok n_Md hown hK hP hD hS 0 rfl rfl 0 (Nat.le_of_ble_eq_true rfl) (hg _ tw_706) (fun _ h9 => h9) rfl (by decide +kernel) rfl rfl (Nat.le_of_ble_eq_true rfl) d_Md_put_56 (fun H locs hP hD hS => ?_)
        have hP : va_P D cls (wMo cI cJ cZ a 3 kn ed ct ti nm xa xb ma it vs se sm rs wk ors owk) H := hP
        have hD : va_D (blk a 15) (wMo cI cJ cZ a 3 kn ed ct ti nm xa xb ma it vs se sm rs wk ors owk) := hD
        refine lv_aload_n hx hb d_Md_put_59 rfl (lv_at hl 0 rfl) ?_
        refine va_get (D := D) (ci := 9) (v := .int 3) (C := R_Md) (T := F_Md) (N := 17) hx hb hg in_Md hown hK hP 0 rfl rfl 0 (Nat.le_of_ble_eq_true rfl) (hg _ tw_706) (fun _ h9 => h9) rfl d_Md_put_60 ?_
        refine lv_if_ne (tgt := 82) hx hb d_Md_put_63 (by decide) (fun hc => ?_) (fun hc => False.elim (by revert hc; decide))
        rw [if_neg hc1, if_neg hc2, if_pos hc3] at hR
        subst hR
        exact W.vret hx hb hr (fun t9 ht hW => ⟨rfl, hS.F ht, by rw [ht]; exact hP⟩) hS.2.2 d_Md_put_82
    · have hc2 : n = 32 := (nI_eq (a := n) (b := 32) (by omega) (by omega)).mp hc2
      refine lv_iconst (v := 2) hx hb d_Md_put_31 (by decide) ?_
      refine lv_goto (tgt := 56) hx hb d_Md_put_32 (by decide) ?_
      refine va_put (D := D) (ci := 9) (v := .int 2) (ty := .int) (C := R_Md) (T := F_Md) (N := 17) hx hb hg in_Md t_Md t_Md_ok n_Md hown hK hP hD hS 0 rfl rfl 0 (Nat.le_of_ble_eq_true rfl) (hg _ tw_706) (fun _ h9 => h9) rfl (by decide +kernel) rfl rfl (Nat.le_of_ble_eq_true rfl) d_Md_put_56 (fun H locs hP hD hS => ?_)
      have hP : va_P D cls (wMo cI cJ cZ a 2 kn ed ct ti nm xa xb ma it vs se sm rs wk ors owk) H := hP
      have hD : va_D (blk a 15) (wMo cI cJ cZ a 2 kn ed ct ti nm xa xb ma it vs se sm rs wk ors owk) := hD
      refine lv_aload_n hx hb d_Md_put_59 rfl (lv_at hl 0 rfl) ?_
      refine va_get (D := D) (ci := 9) (v := .int 2) (C := R_Md) (T := F_Md) (N := 17) hx hb hg in_Md hown hK hP 0 rfl rfl 0 (Nat.le_of_ble_eq_true rfl) (hg _ tw_706) (fun _ h9 => h9) rfl d_Md_put_60 ?_
      refine lv_if_ne (tgt := 82) hx hb d_Md_put_63 (by decide) (fun hc => ?_) (fun hc => False.elim (by revert hc; decide))
      rw [if_neg hc1, if_pos hc2] at hR
      subst hR
      exact W.vret hx hb hr (fun t9 ht hW => ⟨rfl, hS.F ht, by rw [ht]; exact hP⟩) hS.2.2 d_Md_put_82

def f_Mo_strike_b  : Int32 := f_Mo_lacks_b.2
set_option maxHeartbeats 4000000 in
set_option maxRecDepth 100000 in
theorem m_Mo_strike_b (l : Launch) (D : va_G) (cI cJ cZ cO : ClassId) (a : Nat) (code : Int32) (kn : Nat → Int32) (ed : Nat → Int32) (ct : Nat → Int32) (ti : Nat → Int32) (nm : Nat → Int32) (xa : Nat → Int32) (xb : Nat → Int32) (ma : Int32) (it : Nat → Int32) (vs : Nat → Int32) (se : Nat → Int32) (sm : Int64) (rs : Nat → Int64) (wk : Nat → Int32) (ors : Nat → Int64) (owk : Nat → Int32) (id : Int32) (t : Int32) (hid : ¬ okI id) (R : Int32) (hR : f_Mo_strike_b = R) : Met l y_Md_strike (k_Md_strike :: gt) rm_Md_strike (Pc0 D cI cJ cZ cO [.ref a, .int id, .int t] (fun H => va_P D cls (wMo cI cJ cZ a code kn ed ct ti nm xa xb ma it vs se sm rs wk ors owk) H)) (Qd (blk a 15) (some (.int 0)) (fun H => va_P D cls (wMo cI cJ cZ a R kn ed ct ti nm xa xb ma it vs se sm rs wk ors owk) H)) 0 0 (blk a 15) := by
  refine Met.ofW (cc := c_Md_strike) (maxL := 3) (ret := (Option.some FieldType.boolean)) (by decide) rfl ?_
  intro p e s m args below meth c s₁ B hml hv
  obtain ⟨rfl, hKn, hP⟩ := hv
  have hx := B.exec
  have hb := B.bytes
  have hr := B.returns
  have hts := atoms_spec (ws := k_Md_strike :: gt) B.pre
  have hg : ∀ w ∈ gt, w.before _ s = true := fun w h => hts w (List.mem_cons_of_mem _ h)
  have hown : s.vm.findClass R_Md = some m.cls := findClass_of_methodNamed B.named
  have hlocks := B.notSynchronized
  have hK := hKn.1
  have hl := lv_entry ([.ref a, .int id, .int t]) (n := 3) (Nat.le_of_ble_eq_true rfl)
  rw [lg_entry_eq]
  generalize (lg_sl ([.ref a, .int id, .int t]) ++ List.replicate (3 - (lg_sl ([.ref a, .int id, .int t])).length) Slot.unset).toArray = ls at hl ⊢
  have hl : lv_has ls 3 [(0, .ref a), (1, .int id), (2, .int t)] := hl
  have hS : va_S (blk a 15) s.heap s.heap [] := va_S.rf
  have hD : va_D (blk a 15) (wMo cI cJ cZ a code kn ed ct ti nm xa xb ma it vs se sm rs wk ors owk) := (blk_D (wMo_in))
  have hR : (f_Mo_lacks_b.2) = R := hR
  refine lv_aload_n hx hb d_Md_strike_0 rfl (lv_at hl 0 rfl) ?_
  refine lv_iload_n hx hb d_Md_strike_1 rfl (lv_at hl 1 rfl) ?_
  refine lv_iload_n hx hb d_Md_strike_2 rfl (lv_at hl 2 rfl) ?_
  refine ep_callH (W.runV (As := [.int id, .int t]) (rest := []) ⟨hx, hb, hml, hown, hg⟩ (m_Mo_lacks_b l D cI cJ cZ cO a code kn ed ct ti nm xa xb ma it vs se sm rs wk ors owk id t hid _ rfl) (ep_cwV 2 hg tw_773 tw_775 ts_9 tw_12 tk_Md_lacks rfl rfl (by decide +kernel) ⟨(Nat.le_of_ble_eq_true rfl), (Nat.le_of_ble_eq_true rfl)⟩) ⟨ep_blind, va_recv (q0 := 0) (ci := 9) hK hP rfl rfl, ep_pre hKn (hP)⟩ rfl rfl hl.1 rfl (lv_room (Nat.le_of_ble_eq_true rfl)) d_Md_strike_3 ⟨Nat.zero_le _, Nat.zero_le _⟩) hS (fun q h => h) (fun H locs hsz9 hk1 hP1 hS => ?_)
  refine W.eq (g2 := F0 m 6 ls [.int f_Mo_lacks_b.1]) rfl ?_
  have hP : va_P D cls (wMo cI cJ cZ a f_Mo_lacks_b.2 kn ed ct ti nm xa xb ma it vs se sm rs wk ors owk) H := hP1
  have hD : va_D (blk a 15) (wMo cI cJ cZ a f_Mo_lacks_b.2 kn ed ct ti nm xa xb ma it vs se sm rs wk ors owk) := (blk_D (wMo_in))
  refine lv_topi (fun z9 e_z9 => ?_)
  obtain rfl : z9 = 1 := by rw [e_z9]; exact rfl
  refine lv_if_ne (tgt := 18) hx hb d_Md_strike_6 (by decide) (fun hc => ?_) (fun hc => False.elim (by revert hc; decide))
  refine lv_iconst (v := 0) hx hb d_Md_strike_18 (by decide) ?_
  subst hR
  exact W.zret (v := 0) hx hb hr (by decide) (fun t9 ht hW => ⟨rfl, hS.F ht, by rw [ht]; exact hP⟩) hS.2.2 d_Md_strike_19

def f_Mo_strike_e (kn : Nat → Int32) (j : Nat) (t : Int32) : Int32 := ((f_Mo_lacks kn j t).2)
set_option maxHeartbeats 4000000 in
set_option maxRecDepth 100000 in
theorem m_Mo_strike_e (l : Launch) (D : va_G) (cI cJ cZ cO : ClassId) (a : Nat) (code : Int32) (kn : Nat → Int32) (ed : Nat → Int32) (ct : Nat → Int32) (ti : Nat → Int32) (nm : Nat → Int32) (xa : Nat → Int32) (xb : Nat → Int32) (ma : Int32) (it : Nat → Int32) (vs : Nat → Int32) (se : Nat → Int32) (sm : Int64) (rs : Nat → Int64) (wk : Nat → Int32) (ors : Nat → Int64) (owk : Nat → Int32) (j : Nat) (t : Int32) (hj : j < 4) (hlk : ¬ (f_Mo_lacks kn j t).1 = 0) (R : Int32) (hR : f_Mo_strike_e kn j t = R) : Met l y_Md_strike (k_Md_strike :: gt) rm_Md_strike (Pc0 D cI cJ cZ cO [.ref a, .int (nI j), .int t] (fun H => va_P D cls (wMo cI cJ cZ a code kn ed ct ti nm xa xb ma it vs se sm rs wk ors owk) H)) (Qd (blk a 15) (some (.int 0)) (fun H => va_P D cls (wMo cI cJ cZ a R kn ed ct ti nm xa xb ma it vs se sm rs wk ors owk) H)) 0 0 (blk a 15) := by
  refine Met.ofW (cc := c_Md_strike) (maxL := 3) (ret := (Option.some FieldType.boolean)) (by decide) rfl ?_
  intro p e s m args below meth c s₁ B hml hv
  obtain ⟨rfl, hKn, hP⟩ := hv
  have hx := B.exec
  have hb := B.bytes
  have hr := B.returns
  have hts := atoms_spec (ws := k_Md_strike :: gt) B.pre
  have hg : ∀ w ∈ gt, w.before _ s = true := fun w h => hts w (List.mem_cons_of_mem _ h)
  have hown : s.vm.findClass R_Md = some m.cls := findClass_of_methodNamed B.named
  have hlocks := B.notSynchronized
  have hK := hKn.1
  have hl := lv_entry ([.ref a, .int (nI j), .int t]) (n := 3) (Nat.le_of_ble_eq_true rfl)
  rw [lg_entry_eq]
  generalize (lg_sl ([.ref a, .int (nI j), .int t]) ++ List.replicate (3 - (lg_sl ([.ref a, .int (nI j), .int t])).length) Slot.unset).toArray = ls at hl ⊢
  have hl : lv_has ls 3 [(0, .ref a), (1, .int (nI j)), (2, .int t)] := hl
  have hS : va_S (blk a 15) s.heap s.heap [] := va_S.rf
  have hD : va_D (blk a 15) (wMo cI cJ cZ a code kn ed ct ti nm xa xb ma it vs se sm rs wk ors owk) := (blk_D (wMo_in))
  have hR : (((f_Mo_lacks kn j t).2)) = R := hR
  refine lv_aload_n hx hb d_Md_strike_0 rfl (lv_at hl 0 rfl) ?_
  refine lv_iload_n hx hb d_Md_strike_1 rfl (lv_at hl 1 rfl) ?_
  refine lv_iload_n hx hb d_Md_strike_2 rfl (lv_at hl 2 rfl) ?_
  refine ep_callH (W.runV (As := [.int (nI j), .int t]) (rest := []) ⟨hx, hb, hml, hown, hg⟩ (m_Mo_lacks l D cI cJ cZ cO a code kn ed ct ti nm xa xb ma it vs se sm rs wk ors owk j t (by omega) _ rfl) (ep_cwV 2 hg tw_773 tw_775 ts_9 tw_12 tk_Md_lacks rfl rfl (by decide +kernel) ⟨(Nat.le_of_ble_eq_true rfl), (Nat.le_of_ble_eq_true rfl)⟩) ⟨ep_blind, va_recv (q0 := 0) (ci := 9) hK hP rfl rfl, ep_pre hKn (hP)⟩ rfl rfl hl.1 rfl (lv_room (Nat.le_of_ble_eq_true rfl)) d_Md_strike_3 ⟨Nat.zero_le _, Nat.zero_le _⟩) hS (fun q h => h) (fun H locs hsz9 hk1 hP1 hS => ?_)
  refine W.eq (g2 := F0 m 6 ls [.int ((f_Mo_lacks kn j t).1)]) rfl ?_
  have hP : va_P D cls (wMo cI cJ cZ a ((f_Mo_lacks kn j t).2) kn ed ct ti nm xa xb ma it vs se sm rs wk ors owk) H := hP1
  have hD : va_D (blk a 15) (wMo cI cJ cZ a ((f_Mo_lacks kn j t).2) kn ed ct ti nm xa xb ma it vs se sm rs wk ors owk) := (blk_D (wMo_in))
  refine lv_if_ne (tgt := 18) hx hb d_Md_strike_6 (by decide) (fun hc => ?_) (fun hc => absurd hc hlk)
  refine lv_iconst (v := 0) hx hb d_Md_strike_18 (by decide) ?_
  subst hR
  exact W.zret (v := 0) hx hb hr (by decide) (fun t9 ht hW => ⟨rfl, hS.F ht, by rw [ht]; exact hP⟩) hS.2.2 d_Md_strike_19

def f_Mo_strike (kn : Nat → Int32) (ed : Nat → Int32) (ct : Nat → Int32) (ti : Nat → Int32) (nm : Nat → Int32) (xa : Nat → Int32) (xb : Nat → Int32) (n : Nat) (j : Nat) (t : Int32) : Int32 × Int32 × (Nat → Int32) × (Nat → Int32) × (Nat → Int32) × (Nat → Int32) × (Nat → Int32) × (Nat → Int32) := if ¬ (f_Mo_find ti n j t) = -1 then ((1, (f_Mo_lacks kn j t).2, (f_Mo_remember ed ct ti nm xa xb j).1, (f_Mo_cut ((f_Mo_remember ed ct ti nm xa xb j).2.1) ((f_Mo_remember ed ct ti nm xa xb j).2.2.1) ((f_Mo_remember ed ct ti nm xa xb j).2.2.2.1) ((f_Mo_remember ed ct ti nm xa xb j).2.2.2.2.1) ((f_Mo_remember ed ct ti nm xa xb j).2.2.2.2.2) n j (((f_Mo_find ti n j t)).toNatClampNeg)).1, (f_Mo_cut ((f_Mo_remember ed ct ti nm xa xb j).2.1) ((f_Mo_remember ed ct ti nm xa xb j).2.2.1) ((f_Mo_remember ed ct ti nm xa xb j).2.2.2.1) ((f_Mo_remember ed ct ti nm xa xb j).2.2.2.2.1) ((f_Mo_remember ed ct ti nm xa xb j).2.2.2.2.2) n j (((f_Mo_find ti n j t)).toNatClampNeg)).2.1, (f_Mo_cut ((f_Mo_remember ed ct ti nm xa xb j).2.1) ((f_Mo_remember ed ct ti nm xa xb j).2.2.1) ((f_Mo_remember ed ct ti nm xa xb j).2.2.2.1) ((f_Mo_remember ed ct ti nm xa xb j).2.2.2.2.1) ((f_Mo_remember ed ct ti nm xa xb j).2.2.2.2.2) n j (((f_Mo_find ti n j t)).toNatClampNeg)).2.2.1, (f_Mo_cut ((f_Mo_remember ed ct ti nm xa xb j).2.1) ((f_Mo_remember ed ct ti nm xa xb j).2.2.1) ((f_Mo_remember ed ct ti nm xa xb j).2.2.2.1) ((f_Mo_remember ed ct ti nm xa xb j).2.2.2.2.1) ((f_Mo_remember ed ct ti nm xa xb j).2.2.2.2.2) n j (((f_Mo_find ti n j t)).toNatClampNeg)).2.2.2.1, (f_Mo_cut ((f_Mo_remember ed ct ti nm xa xb j).2.1) ((f_Mo_remember ed ct ti nm xa xb j).2.2.1) ((f_Mo_remember ed ct ti nm xa xb j).2.2.2.1) ((f_Mo_remember ed ct ti nm xa xb j).2.2.2.2.1) ((f_Mo_remember ed ct ti nm xa xb j).2.2.2.2.2) n j (((f_Mo_find ti n j t)).toNatClampNeg)).2.2.2.2)) else ((0, (f_Mo_lacks kn j t).2, ed, ct, ti, nm, xa, xb))
set_option maxHeartbeats 4000000 in
set_option maxRecDepth 100000 in
theorem m_Mo_strike (l : Launch) (D : va_G) (cI cJ cZ cO : ClassId) (a : Nat) (code : Int32) (kn : Nat → Int32) (ed : Nat → Int32) (ct : Nat → Int32) (ti : Nat → Int32) (nm : Nat → Int32) (xa : Nat → Int32) (xb : Nat → Int32) (ma : Int32) (it : Nat → Int32) (vs : Nat → Int32) (se : Nat → Int32) (sm : Int64) (rs : Nat → Int64) (wk : Nat → Int32) (ors : Nat → Int64) (owk : Nat → Int32) (n : Nat) (j : Nat) (t : Int32) (hj : j < 4) (hlk : (f_Mo_lacks kn j t).1 = 0) (hct : ct j = nI n) (hn : n ≤ 32) (R : Int32 × Int32 × (Nat → Int32) × (Nat → Int32) × (Nat → Int32) × (Nat → Int32) × (Nat → Int32) × (Nat → Int32)) (hR : f_Mo_strike kn ed ct ti nm xa xb n j t = R) : Met l y_Md_strike (k_Md_strike :: gt) rm_Md_strike (Pc0 D cI cJ cZ cO [.ref a, .int (nI j), .int t] (fun H => va_P D cls (wMo cI cJ cZ a code kn ed ct ti nm xa xb ma it vs se sm rs wk ors owk) H)) (Qd (blk a 15) (some (.int R.1)) (fun H => va_P D cls (wMo cI cJ cZ a R.2.1 kn R.2.2.1 R.2.2.2.1 R.2.2.2.2.1 R.2.2.2.2.2.1 R.2.2.2.2.2.2.1 R.2.2.2.2.2.2.2 ma it vs se sm rs wk ors owk) H)) 0 0 (blk a 15) := by
  refine Met.ofW (cc := c_Md_strike) (maxL := 3) (ret := (Option.some FieldType.boolean)) (by decide) rfl ?_
  intro p e s m args below meth c s₁ B hml hv
  obtain ⟨rfl, hKn, hP⟩ := hv
  have hx := B.exec
  have hb := B.bytes
  have hr := B.returns
  have hts := atoms_spec (ws := k_Md_strike :: gt) B.pre
  have hg : ∀ w ∈ gt, w.before _ s = true := fun w h => hts w (List.mem_cons_of_mem _ h)
  have hown : s.vm.findClass R_Md = some m.cls := findClass_of_methodNamed B.named
  have hlocks := B.notSynchronized
  have hK := hKn.1
  have hl := lv_entry ([.ref a, .int (nI j), .int t]) (n := 3) (Nat.le_of_ble_eq_true rfl)
  rw [lg_entry_eq]
  generalize (lg_sl ([.ref a, .int (nI j), .int t]) ++ List.replicate (3 - (lg_sl ([.ref a, .int (nI j), .int t])).length) Slot.unset).toArray = ls at hl ⊢
  have hl : lv_has ls 3 [(0, .ref a), (1, .int (nI j)), (2, .int t)] := hl
  have hS : va_S (blk a 15) s.heap s.heap [] := va_S.rf
  have hD : va_D (blk a 15) (wMo cI cJ cZ a code kn ed ct ti nm xa xb ma it vs se sm rs wk ors owk) := (blk_D (wMo_in))
  have hR : (if ¬ (f_Mo_find ti n j t) = -1 then ((1, (f_Mo_lacks kn j t).2, (f_Mo_remember ed ct ti nm xa xb j).1, (f_Mo_cut ((f_Mo_remember ed ct ti nm xa xb j).2.1) ((f_Mo_remember ed ct ti nm xa xb j).2.2.1) ((f_Mo_remember ed ct ti nm xa xb j).2.2.2.1) ((f_Mo_remember ed ct ti nm xa xb j).2.2.2.2.1) ((f_Mo_remember ed ct ti nm xa xb j).2.2.2.2.2) n j (((f_Mo_find ti n j t)).toNatClampNeg)).1, (f_Mo_cut ((f_Mo_remember ed ct ti nm xa xb j).2.1) ((f_Mo_remember ed ct ti nm xa xb j).2.2.1) ((f_Mo_remember ed ct ti nm xa xb j).2.2.2.1) ((f_Mo_remember ed ct ti nm xa xb j).2.2.2.2.1) ((f_Mo_remember ed ct ti nm xa xb j).2.2.2.2.2) n j (((f_Mo_find ti n j t)).toNatClampNeg)).2.1, (f_Mo_cut ((f_Mo_remember ed ct ti nm xa xb j).2.1) ((f_Mo_remember ed ct ti nm xa xb j).2.2.1) ((f_Mo_remember ed ct ti nm xa xb j).2.2.2.1) ((f_Mo_remember ed ct ti nm xa xb j).2.2.2.2.1) ((f_Mo_remember ed ct ti nm xa xb j).2.2.2.2.2) n j (((f_Mo_find ti n j t)).toNatClampNeg)).2.2.1, (f_Mo_cut ((f_Mo_remember ed ct ti nm xa xb j).2.1) ((f_Mo_remember ed ct ti nm xa xb j).2.2.1) ((f_Mo_remember ed ct ti nm xa xb j).2.2.2.1) ((f_Mo_remember ed ct ti nm xa xb j).2.2.2.2.1) ((f_Mo_remember ed ct ti nm xa xb j).2.2.2.2.2) n j (((f_Mo_find ti n j t)).toNatClampNeg)).2.2.2.1, (f_Mo_cut ((f_Mo_remember ed ct ti nm xa xb j).2.1) ((f_Mo_remember ed ct ti nm xa xb j).2.2.1) ((f_Mo_remember ed ct ti nm xa xb j).2.2.2.1) ((f_Mo_remember ed ct ti nm xa xb j).2.2.2.2.1) ((f_Mo_remember ed ct ti nm xa xb j).2.2.2.2.2) n j (((f_Mo_find ti n j t)).toNatClampNeg)).2.2.2.2)) else ((0, (f_Mo_lacks kn j t).2, ed, ct, ti, nm, xa, xb))) = R := hR
  refine lv_aload_n hx hb d_Md_strike_0 rfl (lv_at hl 0 rfl) ?_
  refine lv_iload_n hx hb d_Md_strike_1 rfl (lv_at hl 1 rfl) ?_
  refine lv_iload_n hx hb d_Md_strike_2 rfl (lv_at hl 2 rfl) ?_
  refine ep_callH (W.runV (As := [.int (nI j), .int t]) (rest := []) ⟨hx, hb, hml, hown, hg⟩ (m_Mo_lacks l D cI cJ cZ cO a code kn ed ct ti nm xa xb ma it vs se sm rs wk ors owk j t (by omega) _ rfl) (ep_cwV 2 hg tw_773 tw_775 ts_9 tw_12 tk_Md_lacks rfl rfl (by decide +kernel) ⟨(Nat.le_of_ble_eq_true rfl), (Nat.le_of_ble_eq_true rfl)⟩) ⟨ep_blind, va_recv (q0 := 0) (ci := 9) hK hP rfl rfl, ep_pre hKn (hP)⟩ rfl rfl hl.1 rfl (lv_room (Nat.le_of_ble_eq_true rfl)) d_Md_strike_3 ⟨Nat.zero_le _, Nat.zero_le _⟩) hS (fun q h => h) (fun H locs hsz9 hk1 hP1 hS => ?_)
  refine W.eq (g2 := F0 m 6 ls [.int ((f_Mo_lacks kn j t).1)]) rfl ?_
  have hP : va_P D cls (wMo cI cJ cZ a ((f_Mo_lacks kn j t).2) kn ed ct ti nm xa xb ma it vs se sm rs wk ors owk) H := hP1
  have hD : va_D (blk a 15) (wMo cI cJ cZ a ((f_Mo_lacks kn j t).2) kn ed ct ti nm xa xb ma it vs se sm rs wk ors owk) := (blk_D (wMo_in))
  refine lv_if_ne (tgt := 18) hx hb d_Md_strike_6 (by decide) (fun hc => absurd hlk hc) (fun hc => ?_)
  refine lv_aload_n hx hb d_Md_strike_9 rfl (lv_at hl 0 rfl) ?_
  refine lv_iload_n hx hb d_Md_strike_10 rfl (lv_at hl 1 rfl) ?_
  refine lv_iload_n hx hb d_Md_strike_11 rfl (lv_at hl 2 rfl) ?_
  refine ep_callP (W.runV (As := [.int (nI j), .int t]) (rest := []) ⟨hx, hb, hml, hown, hg⟩ (m_Mo_find l D cI cJ cZ cO a ((f_Mo_lacks kn j t).2) kn ed ct ti nm xa xb ma it vs se sm rs wk ors owk n j t (by omega) hct (by omega) _ rfl) (ep_cwV 2 hg tw_785 tw_787 ts_10 tw_12 tk_Md_find rfl rfl (by decide +kernel) ⟨(Nat.le_of_ble_eq_true rfl), (Nat.le_of_ble_eq_true rfl)⟩) ⟨ep_blind, va_recv (q0 := 0) (ci := 9) hK hP rfl rfl, ep_pre hKn (hP)⟩ rfl rfl hl.1 rfl (lv_room (Nat.le_of_ble_eq_true rfl)) d_Md_strike_12 ⟨Nat.zero_le _, Nat.zero_le _⟩) ?_
  refine W.eq (g2 := F0 m 15 ls [.int (f_Mo_find ti n j t)]) rfl ?_
  refine lv_topi (fun z8 e_z8 => ?_)
  obtain rfl : z8 = oI (¬ (f_Mo_find ti n j t) = -1) ((f_Mo_find ti n j t).toNatClampNeg) := by rw [e_z8]; exact (oI_of (fi_at _ _ _ _ (by omega)))
  by_cases hc1 : ¬ (f_Mo_find ti n j t) = -1
  · rw [show oI (¬ (f_Mo_find ti n j t) = -1) ((f_Mo_find ti n j t).toNatClampNeg) = nI ((f_Mo_find ti n j t).toNatClampNeg) from if_pos hc1]
    have hp9 : ((f_Mo_find ti n j t)).toNatClampNeg < n := fi_lt _ _ _ _ (by omega) hc1
    refine lv_if_ge (tgt := 20) hx hb d_Md_strike_15 (by decide) (fun hc => ?_) (fun hc => False.elim (by have hc : ¬ (0 ≤ (f_Mo_find ti n j t).toNatClampNeg) := fun h => hc (by exact (nI_leI (a := 0) (b := (f_Mo_find ti n j t).toNatClampNeg) (by omega) (by omega)).mpr h); omega))
    refine lv_aload_n hx hb d_Md_strike_20 rfl (lv_at hl 0 rfl) ?_
    refine lv_iload_n hx hb d_Md_strike_21 rfl (lv_at hl 1 rfl) ?_
    refine ep_callH (W.runV (As := [.int (nI j)]) (rest := []) ⟨hx, hb, hml, hown, hg⟩ (m_Mo_remember l D cI cJ cZ cO a ((f_Mo_lacks kn j t).2) kn ed ct ti nm xa xb ma it vs se sm rs wk ors owk j (by omega) _ rfl) (ep_cwV 1 hg tw_800 tw_802 ts_12 tw_12 tk_Md_remember rfl rfl (by decide +kernel) ⟨(Nat.le_of_ble_eq_true rfl), (Nat.le_of_ble_eq_true rfl)⟩) ⟨ep_blind, va_recv (q0 := 0) (ci := 9) hK hP rfl rfl, ep_pre hKn (hP)⟩ rfl rfl hl.1 rfl (lv_room (Nat.le_of_ble_eq_true rfl)) d_Md_strike_22 ⟨Nat.zero_le _, Nat.zero_le _⟩) hS (fun q h => h) (fun H locs hsz9 hk1 hP1 hS => ?_)
    refine W.eq (g2 := F0 m 25 ls []) rfl ?_
    have hP : va_P D cls (wMo cI cJ cZ a ((f_Mo_lacks kn j t).2) kn ((f_Mo_remember ed ct ti nm xa xb j).1) ((f_Mo_remember ed ct ti nm xa xb j).2.1) ((f_Mo_remember ed ct ti nm xa xb j).2.2.1) ((f_Mo_remember ed ct ti nm xa xb j).2.2.2.1) ((f_Mo_remember ed ct ti nm xa xb j).2.2.2.2.1) ((f_Mo_remember ed ct ti nm xa xb j).2.2.2.2.2) ma it vs se sm rs wk ors owk) H := hP1
    have hD : va_D (blk a 15) (wMo cI cJ cZ a ((f_Mo_lacks kn j t).2) kn ((f_Mo_remember ed ct ti nm xa xb j).1) ((f_Mo_remember ed ct ti nm xa xb j).2.1) ((f_Mo_remember ed ct ti nm xa xb j).2.2.1) ((f_Mo_remember ed ct ti nm xa xb j).2.2.2.1) ((f_Mo_remember ed ct ti nm xa xb j).2.2.2.2.1) ((f_Mo_remember ed ct ti nm xa xb j).2.2.2.2.2) ma it vs se sm rs wk ors owk) := (blk_D (wMo_in))
    refine lv_aload_n hx hb d_Md_strike_25 rfl (lv_at hl 0 rfl) ?_
    refine lv_iload_n hx hb d_Md_strike_26 rfl (lv_at hl 1 rfl) ?_
    refine lv_aload_n hx hb d_Md_strike_27 rfl (lv_at hl 0 rfl) ?_
    refine lv_iload_n hx hb d_Md_strike_28 rfl (lv_at hl 1 rfl) ?_
    refine lv_iload_n hx hb d_Md_strike_29 rfl (lv_at hl 2 rfl) ?_
    refine ep_callP (W.runV (As := [.int (nI j), .int t]) (rest := [.int (nI j), .ref a]) ⟨hx, hb, hml, hown, hg⟩ (m_Mo_find l D cI cJ cZ cO a ((f_Mo_lacks kn j t).2) kn ((f_Mo_remember ed ct ti nm xa xb j).1) ((f_Mo_remember ed ct ti nm xa xb j).2.1) ((f_Mo_remember ed ct ti nm xa xb j).2.2.1) ((f_Mo_remember ed ct ti nm xa xb j).2.2.2.1) ((f_Mo_remember ed ct ti nm xa xb j).2.2.2.2.1) ((f_Mo_remember ed ct ti nm xa xb j).2.2.2.2.2) ma it vs se sm rs wk ors owk n j t (by omega) (rem_ct _ _ _ _ _ _ _ _ hct) (by omega) _ rfl) (ep_cwV 2 hg tw_785 tw_787 ts_10 tw_12 tk_Md_find rfl rfl (by decide +kernel) ⟨(Nat.le_of_ble_eq_true rfl), (Nat.le_of_ble_eq_true rfl)⟩) ⟨ep_blind, va_recv (q0 := 0) (ci := 9) hK hP rfl rfl, ep_pre hKn (hP)⟩ rfl rfl hl.1 rfl (lv_room (Nat.le_of_ble_eq_true rfl)) d_Md_strike_30 ⟨Nat.zero_le _, Nat.zero_le _⟩) ?_
    refine W.eq (g2 := F0 m 33 ls [.int (f_Mo_find ((f_Mo_remember ed ct ti nm xa xb j).2.2.1) n j t), .int (nI j), .ref a]) rfl ?_
    refine lv_topi (fun z8 e_z8 => ?_)
    obtain rfl : z8 = nI (((f_Mo_find ti n j t)).toNatClampNeg) := by rw [e_z8]; exact (rem_fi _ _ _ _ _ _ _ _ _ (by omega) (by omega) hc1)
    refine ep_callH (W.runV (As := [.int (nI j), .int (nI (((f_Mo_find ti n j t)).toNatClampNeg))]) (rest := []) ⟨hx, hb, hml, hown, hg⟩ (m_Mo_cut l D cI cJ cZ cO a ((f_Mo_lacks kn j t).2) kn ((f_Mo_remember ed ct ti nm xa xb j).1) ((f_Mo_remember ed ct ti nm xa xb j).2.1) ((f_Mo_remember ed ct ti nm xa xb j).2.2.1) ((f_Mo_remember ed ct ti nm xa xb j).2.2.2.1) ((f_Mo_remember ed ct ti nm xa xb j).2.2.2.2.1) ((f_Mo_remember ed ct ti nm xa xb j).2.2.2.2.2) ma it vs se sm rs wk ors owk n j (((f_Mo_find ti n j t)).toNatClampNeg) (by omega) (rem_ct _ _ _ _ _ _ _ _ hct) (by omega) hp9 _ rfl) (ep_cwV 2 hg tw_816 tw_818 ts_15 tw_12 tk_Md_cut rfl rfl (by decide +kernel) ⟨(Nat.le_of_ble_eq_true rfl), (Nat.le_of_ble_eq_true rfl)⟩) ⟨ep_blind, va_recv (q0 := 0) (ci := 9) hK hP rfl rfl, ep_pre hKn (hP)⟩ rfl rfl hl.1 rfl (lv_room (Nat.le_of_ble_eq_true rfl)) d_Md_strike_33 ⟨Nat.zero_le _, Nat.zero_le _⟩) hS (fun q h => h) (fun H locs hsz9 hk1 hP1 hS => ?_)
    refine W.eq (g2 := F0 m 36 ls []) rfl ?_
    have hP : va_P D cls (wMo cI cJ cZ a ((f_Mo_lacks kn j t).2) kn ((f_Mo_remember ed ct ti nm xa xb j).1) ((f_Mo_cut ((f_Mo_remember ed ct ti nm xa xb j).2.1) ((f_Mo_remember ed ct ti nm xa xb j).2.2.1) ((f_Mo_remember ed ct ti nm xa xb j).2.2.2.1) ((f_Mo_remember ed ct ti nm xa xb j).2.2.2.2.1) ((f_Mo_remember ed ct ti nm xa xb j).2.2.2.2.2) n j (((f_Mo_find ti n j t)).toNatClampNeg)).1) ((f_Mo_cut ((f_Mo_remember ed ct ti nm xa xb j).2.1) ((f_Mo_remember ed ct ti nm xa xb j).2.2.1) ((f_Mo_remember ed ct ti nm xa xb j).2.2.2.1) ((f_Mo_remember ed ct ti nm xa xb j).2.2.2.2.1) ((f_Mo_remember ed ct ti nm xa xb j).2.2.2.2.2) n j (((f_Mo_find ti n j t)).toNatClampNeg)).2.1) ((f_Mo_cut ((f_Mo_remember ed ct ti nm xa xb j).2.1) ((f_Mo_remember ed ct ti nm xa xb j).2.2.1) ((f_Mo_remember ed ct ti nm xa xb j).2.2.2.1) ((f_Mo_remember ed ct ti nm xa xb j).2.2.2.2.1) ((f_Mo_remember ed ct ti nm xa xb j).2.2.2.2.2) n j (((f_Mo_find ti n j t)).toNatClampNeg)).2.2.1) ((f_Mo_cut ((f_Mo_remember ed ct ti nm xa xb j).2.1) ((f_Mo_remember ed ct ti nm xa xb j).2.2.1) ((f_Mo_remember ed ct ti nm xa xb j).2.2.2.1) ((f_Mo_remember ed ct ti nm xa xb j).2.2.2.2.1) ((f_Mo_remember ed ct ti nm xa xb j).2.2.2.2.2) n j (((f_Mo_find ti n j t)).toNatClampNeg)).2.2.2.1) ((f_Mo_cut ((f_Mo_remember ed ct ti nm xa xb j).2.1) ((f_Mo_remember ed ct ti nm xa xb j).2.2.1) ((f_Mo_remember ed ct ti nm xa xb j).2.2.2.1) ((f_Mo_remember ed ct ti nm xa xb j).2.2.2.2.1) ((f_Mo_remember ed ct ti nm xa xb j).2.2.2.2.2) n j (((f_Mo_find ti n j t)).toNatClampNeg)).2.2.2.2) ma it vs se sm rs wk ors owk) H := hP1
    have hD : va_D (blk a 15) (wMo cI cJ cZ a ((f_Mo_lacks kn j t).2) kn ((f_Mo_remember ed ct ti nm xa xb j).1) ((f_Mo_cut ((f_Mo_remember ed ct ti nm xa xb j).2.1) ((f_Mo_remember ed ct ti nm xa xb j).2.2.1) ((f_Mo_remember ed ct ti nm xa xb j).2.2.2.1) ((f_Mo_remember ed ct ti nm xa xb j).2.2.2.2.1) ((f_Mo_remember ed ct ti nm xa xb j).2.2.2.2.2) n j (((f_Mo_find ti n j t)).toNatClampNeg)).1) ((f_Mo_cut ((f_Mo_remember ed ct ti nm xa xb j).2.1) ((f_Mo_remember ed ct ti nm xa xb j).2.2.1) ((f_Mo_remember ed ct ti nm xa xb j).2.2.2.1) ((f_Mo_remember ed ct ti nm xa xb j).2.2.2.2.1) ((f_Mo_remember ed ct ti nm xa xb j).2.2.2.2.2) n j (((f_Mo_find ti n j t)).toNatClampNeg)).2.1) ((f_Mo_cut ((f_Mo_remember ed ct ti nm xa xb j).2.1) ((f_Mo_remember ed ct ti nm xa xb j).2.2.1) ((f_Mo_remember ed ct ti nm xa xb j).2.2.2.1) ((f_Mo_remember ed ct ti nm xa xb j).2.2.2.2.1) ((f_Mo_remember ed ct ti nm xa xb j).2.2.2.2.2) n j (((f_Mo_find ti n j t)).toNatClampNeg)).2.2.1) ((f_Mo_cut ((f_Mo_remember ed ct ti nm xa xb j).2.1) ((f_Mo_remember ed ct ti nm xa xb j).2.2.1) ((f_Mo_remember ed ct ti nm xa xb j).2.2.2.1) ((f_Mo_remember ed ct ti nm xa xb j).2.2.2.2.1) ((f_Mo_remember ed ct ti nm xa xb j).2.2.2.2.2) n j (((f_Mo_find ti n j t)).toNatClampNeg)).2.2.2.1) ((f_Mo_cut ((f_Mo_remember ed ct ti nm xa xb j).2.1) ((f_Mo_remember ed ct ti nm xa xb j).2.2.1) ((f_Mo_remember ed ct ti nm xa xb j).2.2.2.1) ((f_Mo_remember ed ct ti nm xa xb j).2.2.2.2.1) ((f_Mo_remember ed ct ti nm xa xb j).2.2.2.2.2) n j (((f_Mo_find ti n j t)).toNatClampNeg)).2.2.2.2) ma it vs se sm rs wk ors owk) := (blk_D (wMo_in))
    refine lv_iconst (v := 1) hx hb d_Md_strike_36 (by decide) ?_
    rw [if_pos hc1] at hR
    subst hR
    exact W.zret (v := 1) hx hb hr (by decide) (fun t9 ht hW => ⟨rfl, hS.F ht, by rw [ht]; exact hP⟩) hS.2.2 d_Md_strike_37
  · rw [show oI (¬ (f_Mo_find ti n j t) = -1) ((f_Mo_find ti n j t).toNatClampNeg) = -1 from if_neg hc1]
    refine lv_if_ge (tgt := 20) hx hb d_Md_strike_15 (by decide) (fun hc => False.elim (by revert hc; decide)) (fun hc => ?_)
    refine lv_iconst (v := 0) hx hb d_Md_strike_18 (by decide) ?_
    rw [if_neg hc1] at hR
    subst hR
    exact W.zret (v := 0) hx hb hr (by decide) (fun t9 ht hW => ⟨rfl, hS.F ht, by rw [ht]; exact hP⟩) hS.2.2 d_Md_strike_19

def f_Mo_shift_b  : Unit := ()
set_option maxHeartbeats 4000000 in
set_option maxRecDepth 100000 in
theorem m_Mo_shift_b (l : Launch) (D : va_G) (cI cJ cZ cO : ClassId) (a : Nat) (code : Int32) (kn : Nat → Int32) (ed : Nat → Int32) (ct : Nat → Int32) (ti : Nat → Int32) (nm : Nat → Int32) (xa : Nat → Int32) (xb : Nat → Int32) (ma : Int32) (it : Nat → Int32) (vs : Nat → Int32) (se : Nat → Int32) (sm : Int64) (rs : Nat → Int64) (wk : Nat → Int32) (ors : Nat → Int64) (owk : Nat → Int32) (id : Int32) (t : Int32) (u : Int32) (hid : ¬ okI id) (R : Unit) (hR : f_Mo_shift_b = R) : Met l y_Md_shift (k_Md_shift :: gt) rm_Md_shift (Pc0 D cI cJ cZ cO [.ref a, .int id, .int t, .int u] (fun H => va_P D cls (wMo cI cJ cZ a code kn ed ct ti nm xa xb ma it vs se sm rs wk ors owk) H)) (Qd (blk a 15) none (fun H => va_P D cls (wMo cI cJ cZ a 1 kn ed ct ti nm xa xb ma it vs se sm rs wk ors owk) H)) 0 0 (blk a 15) := by
  refine Met.ofW (cc := c_Md_shift) (maxL := 8) (ret := none) (by decide) rfl ?_
  intro p e s m args below meth c s₁ B hml hv
  obtain ⟨rfl, hKn, hP⟩ := hv
  have hx := B.exec
  have hb := B.bytes
  have hr := B.returns
  have hts := atoms_spec (ws := k_Md_shift :: gt) B.pre
  have hg : ∀ w ∈ gt, w.before _ s = true := fun w h => hts w (List.mem_cons_of_mem _ h)
  have hown : s.vm.findClass R_Md = some m.cls := findClass_of_methodNamed B.named
  have hlocks := B.notSynchronized
  have hK := hKn.1
  have hl := lv_entry ([.ref a, .int id, .int t, .int u]) (n := 8) (Nat.le_of_ble_eq_true rfl)
  rw [lg_entry_eq]
  generalize (lg_sl ([.ref a, .int id, .int t, .int u]) ++ List.replicate (8 - (lg_sl ([.ref a, .int id, .int t, .int u])).length) Slot.unset).toArray = ls at hl ⊢
  have hl : lv_has ls 8 [(0, .ref a), (1, .int id), (2, .int t), (3, .int u)] := hl
  have hS : va_S (blk a 15) s.heap s.heap [] := va_S.rf
  have hD : va_D (blk a 15) (wMo cI cJ cZ a code kn ed ct ti nm xa xb ma it vs se sm rs wk ors owk) := (blk_D (wMo_in))
  have hR : (()) = R := hR
  refine lv_aload_n hx hb d_Md_shift_0 rfl (lv_at hl 0 rfl) ?_
  refine lv_iload_n hx hb d_Md_shift_1 rfl (lv_at hl 1 rfl) ?_
  refine ep_callP (W.runS (As := [.int id]) (rest := [.ref a]) ⟨hx, hb, hml, hown, hg⟩ (m_Mo_isId l D cI cJ cZ cO id) (ep_cwS 1 hg tw_766 tw_767 tw_12 tk_Md_isId rfl rfl (by decide +kernel) ⟨(Nat.le_of_ble_eq_true rfl), (Nat.le_of_ble_eq_true rfl)⟩) ⟨ep_blind, ep_pre hKn (trivial)⟩ rfl rfl hl.1 rfl (lv_room (Nat.le_of_ble_eq_true rfl)) d_Md_shift_2 ⟨Nat.zero_le _, Nat.zero_le _⟩) ?_
  refine W.eq (g2 := F0 m 5 ls [.int (bI (okI id)), .ref a]) rfl ?_
  refine lv_topi (fun z8 e_z8 => ?_)
  obtain rfl : z8 = 0 := by rw [e_z8]; exact (if_neg hid)
  refine lv_if_eq (tgt := 22) hx hb d_Md_shift_5 (by decide) (fun hc => ?_) (fun hc => False.elim (by revert hc; decide))
  refine lv_iconst (v := 1) hx hb d_Md_shift_22 (by decide) ?_
  refine lv_goto (tgt := 62) hx hb d_Md_shift_23 (by decide) ?_
  refine va_put (D := D) (ci := 9) (v := .int 1) (ty := .int) (C := R_Md) (T := F_Md) (N := 17) hx hb hg in_Md t_Md t_Md_ok n_Md hown hK hP hD hS 0 rfl rfl 0 (Nat.le_of_ble_eq_true rfl) (hg _ tw_706) (fun _ h9 => h9) rfl (by decide +kernel) rfl rfl (Nat.le_of_ble_eq_true rfl) d_Md_shift_62 (fun H locs hP hD hS => ?_)
  have hP : va_P D cls (wMo cI cJ cZ a 1 kn ed ct ti nm xa xb ma it vs se sm rs wk ors owk) H := hP
  have hD : va_D (blk a 15) (wMo cI cJ cZ a 1 kn ed ct ti nm xa xb ma it vs se sm rs wk ors owk) := hD
  refine lv_aload_n hx hb d_Md_shift_65 rfl (lv_at hl 0 rfl) ?_
  refine va_get (D := D) (ci := 9) (v := .int 1) (C := R_Md) (T := F_Md) (N := 17) hx hb hg in_Md hown hK hP 0 rfl rfl 0 (Nat.le_of_ble_eq_true rfl) (hg _ tw_706) (fun _ h9 => h9) rfl d_Md_shift_66 ?_
  refine lv_if_le (tgt := 73) hx hb d_Md_shift_69 (by decide) (fun hc => False.elim (by revert hc; decide)) (fun hc => ?_)
  subst hR
  exact W.vret hx hb hr (fun t9 ht hW => ⟨rfl, hS.F ht, by rw [ht]; exact hP⟩) hS.2.2 d_Md_shift_72

def f_Mo_shift (kn : Nat → Int32) (ed : Nat → Int32) (ct : Nat → Int32) (ti : Nat → Int32) (nm : Nat → Int32) (xa : Nat → Int32) (xb : Nat → Int32) (n : Nat) (j : Nat) (t : Int32) (u : Int32) : Int32 × (Nat → Int32) × (Nat → Int32) × (Nat → Int32) × (Nat → Int32) × (Nat → Int32) × (Nat → Int32) := if okM t then (if okM u then (if (kn j) = 0 then ((2, ed, ct, ti, nm, xa, xb)) else (if ¬ (f_Mo_find ti n j u) = -1 then ((2, ed, ct, ti, nm, xa, xb)) else (if ¬ (f_Mo_find ti n j t) = -1 then ((0, (f_Mo_remember ed ct ti nm xa xb j).1, (f_Mo_insert ((f_Mo_cut ((f_Mo_remember ed ct ti nm xa xb j).2.1) ((f_Mo_remember ed ct ti nm xa xb j).2.2.1) ((f_Mo_remember ed ct ti nm xa xb j).2.2.2.1) ((f_Mo_remember ed ct ti nm xa xb j).2.2.2.2.1) ((f_Mo_remember ed ct ti nm xa xb j).2.2.2.2.2) n j (((f_Mo_find ti n j t)).toNatClampNeg)).1) ((f_Mo_cut ((f_Mo_remember ed ct ti nm xa xb j).2.1) ((f_Mo_remember ed ct ti nm xa xb j).2.2.1) ((f_Mo_remember ed ct ti nm xa xb j).2.2.2.1) ((f_Mo_remember ed ct ti nm xa xb j).2.2.2.2.1) ((f_Mo_remember ed ct ti nm xa xb j).2.2.2.2.2) n j (((f_Mo_find ti n j t)).toNatClampNeg)).2.1) ((f_Mo_cut ((f_Mo_remember ed ct ti nm xa xb j).2.1) ((f_Mo_remember ed ct ti nm xa xb j).2.2.1) ((f_Mo_remember ed ct ti nm xa xb j).2.2.2.1) ((f_Mo_remember ed ct ti nm xa xb j).2.2.2.2.1) ((f_Mo_remember ed ct ti nm xa xb j).2.2.2.2.2) n j (((f_Mo_find ti n j t)).toNatClampNeg)).2.2.1) ((f_Mo_cut ((f_Mo_remember ed ct ti nm xa xb j).2.1) ((f_Mo_remember ed ct ti nm xa xb j).2.2.1) ((f_Mo_remember ed ct ti nm xa xb j).2.2.2.1) ((f_Mo_remember ed ct ti nm xa xb j).2.2.2.2.1) ((f_Mo_remember ed ct ti nm xa xb j).2.2.2.2.2) n j (((f_Mo_find ti n j t)).toNatClampNeg)).2.2.2.1) ((f_Mo_cut ((f_Mo_remember ed ct ti nm xa xb j).2.1) ((f_Mo_remember ed ct ti nm xa xb j).2.2.1) ((f_Mo_remember ed ct ti nm xa xb j).2.2.2.1) ((f_Mo_remember ed ct ti nm xa xb j).2.2.2.2.1) ((f_Mo_remember ed ct ti nm xa xb j).2.2.2.2.2) n j (((f_Mo_find ti n j t)).toNatClampNeg)).2.2.2.2) (n - 1) j u (((f_Mo_remember ed ct ti nm xa xb j).2.2.2.1) (32 * j + (((f_Mo_find ti n j t)).toNatClampNeg))) (((f_Mo_remember ed ct ti nm xa xb j).2.2.2.2.1) (32 * j + (((f_Mo_find ti n j t)).toNatClampNeg))) (((f_Mo_remember ed ct ti nm xa xb j).2.2.2.2.2) (32 * j + (((f_Mo_find ti n j t)).toNatClampNeg)))).1, (f_Mo_insert ((f_Mo_cut ((f_Mo_remember ed ct ti nm xa xb j).2.1) ((f_Mo_remember ed ct ti nm xa xb j).2.2.1) ((f_Mo_remember ed ct ti nm xa xb j).2.2.2.1) ((f_Mo_remember ed ct ti nm xa xb j).2.2.2.2.1) ((f_Mo_remember ed ct ti nm xa xb j).2.2.2.2.2) n j (((f_Mo_find ti n j t)).toNatClampNeg)).1) ((f_Mo_cut ((f_Mo_remember ed ct ti nm xa xb j).2.1) ((f_Mo_remember ed ct ti nm xa xb j).2.2.1) ((f_Mo_remember ed ct ti nm xa xb j).2.2.2.1) ((f_Mo_remember ed ct ti nm xa xb j).2.2.2.2.1) ((f_Mo_remember ed ct ti nm xa xb j).2.2.2.2.2) n j (((f_Mo_find ti n j t)).toNatClampNeg)).2.1) ((f_Mo_cut ((f_Mo_remember ed ct ti nm xa xb j).2.1) ((f_Mo_remember ed ct ti nm xa xb j).2.2.1) ((f_Mo_remember ed ct ti nm xa xb j).2.2.2.1) ((f_Mo_remember ed ct ti nm xa xb j).2.2.2.2.1) ((f_Mo_remember ed ct ti nm xa xb j).2.2.2.2.2) n j (((f_Mo_find ti n j t)).toNatClampNeg)).2.2.1) ((f_Mo_cut ((f_Mo_remember ed ct ti nm xa xb j).2.1) ((f_Mo_remember ed ct ti nm xa xb j).2.2.1) ((f_Mo_remember ed ct ti nm xa xb j).2.2.2.1) ((f_Mo_remember ed ct ti nm xa xb j).2.2.2.2.1) ((f_Mo_remember ed ct ti nm xa xb j).2.2.2.2.2) n j (((f_Mo_find ti n j t)).toNatClampNeg)).2.2.2.1) ((f_Mo_cut ((f_Mo_remember ed ct ti nm xa xb j).2.1) ((f_Mo_remember ed ct ti nm xa xb j).2.2.1) ((f_Mo_remember ed ct ti nm xa xb j).2.2.2.1) ((f_Mo_remember ed ct ti nm xa xb j).2.2.2.2.1) ((f_Mo_remember ed ct ti nm xa xb j).2.2.2.2.2) n j (((f_Mo_find ti n j t)).toNatClampNeg)).2.2.2.2) (n - 1) j u (((f_Mo_remember ed ct ti nm xa xb j).2.2.2.1) (32 * j + (((f_Mo_find ti n j t)).toNatClampNeg))) (((f_Mo_remember ed ct ti nm xa xb j).2.2.2.2.1) (32 * j + (((f_Mo_find ti n j t)).toNatClampNeg))) (((f_Mo_remember ed ct ti nm xa xb j).2.2.2.2.2) (32 * j + (((f_Mo_find ti n j t)).toNatClampNeg)))).2.1, (f_Mo_insert ((f_Mo_cut ((f_Mo_remember ed ct ti nm xa xb j).2.1) ((f_Mo_remember ed ct ti nm xa xb j).2.2.1) ((f_Mo_remember ed ct ti nm xa xb j).2.2.2.1) ((f_Mo_remember ed ct ti nm xa xb j).2.2.2.2.1) ((f_Mo_remember ed ct ti nm xa xb j).2.2.2.2.2) n j (((f_Mo_find ti n j t)).toNatClampNeg)).1) ((f_Mo_cut ((f_Mo_remember ed ct ti nm xa xb j).2.1) ((f_Mo_remember ed ct ti nm xa xb j).2.2.1) ((f_Mo_remember ed ct ti nm xa xb j).2.2.2.1) ((f_Mo_remember ed ct ti nm xa xb j).2.2.2.2.1) ((f_Mo_remember ed ct ti nm xa xb j).2.2.2.2.2) n j (((f_Mo_find ti n j t)).toNatClampNeg)).2.1) ((f_Mo_cut ((f_Mo_remember ed ct ti nm xa xb j).2.1) ((f_Mo_remember ed ct ti nm xa xb j).2.2.1) ((f_Mo_remember ed ct ti nm xa xb j).2.2.2.1) ((f_Mo_remember ed ct ti nm xa xb j).2.2.2.2.1) ((f_Mo_remember ed ct ti nm xa xb j).2.2.2.2.2) n j (((f_Mo_find ti n j t)).toNatClampNeg)).2.2.1) ((f_Mo_cut ((f_Mo_remember ed ct ti nm xa xb j).2.1) ((f_Mo_remember ed ct ti nm xa xb j).2.2.1) ((f_Mo_remember ed ct ti nm xa xb j).2.2.2.1) ((f_Mo_remember ed ct ti nm xa xb j).2.2.2.2.1) ((f_Mo_remember ed ct ti nm xa xb j).2.2.2.2.2) n j (((f_Mo_find ti n j t)).toNatClampNeg)).2.2.2.1) ((f_Mo_cut ((f_Mo_remember ed ct ti nm xa xb j).2.1) ((f_Mo_remember ed ct ti nm xa xb j).2.2.1) ((f_Mo_remember ed ct ti nm xa xb j).2.2.2.1) ((f_Mo_remember ed ct ti nm xa xb j).2.2.2.2.1) ((f_Mo_remember ed ct ti nm xa xb j).2.2.2.2.2) n j (((f_Mo_find ti n j t)).toNatClampNeg)).2.2.2.2) (n - 1) j u (((f_Mo_remember ed ct ti nm xa xb j).2.2.2.1) (32 * j + (((f_Mo_find ti n j t)).toNatClampNeg))) (((f_Mo_remember ed ct ti nm xa xb j).2.2.2.2.1) (32 * j + (((f_Mo_find ti n j t)).toNatClampNeg))) (((f_Mo_remember ed ct ti nm xa xb j).2.2.2.2.2) (32 * j + (((f_Mo_find ti n j t)).toNatClampNeg)))).2.2.1, (f_Mo_insert ((f_Mo_cut ((f_Mo_remember ed ct ti nm xa xb j).2.1) ((f_Mo_remember ed ct ti nm xa xb j).2.2.1) ((f_Mo_remember ed ct ti nm xa xb j).2.2.2.1) ((f_Mo_remember ed ct ti nm xa xb j).2.2.2.2.1) ((f_Mo_remember ed ct ti nm xa xb j).2.2.2.2.2) n j (((f_Mo_find ti n j t)).toNatClampNeg)).1) ((f_Mo_cut ((f_Mo_remember ed ct ti nm xa xb j).2.1) ((f_Mo_remember ed ct ti nm xa xb j).2.2.1) ((f_Mo_remember ed ct ti nm xa xb j).2.2.2.1) ((f_Mo_remember ed ct ti nm xa xb j).2.2.2.2.1) ((f_Mo_remember ed ct ti nm xa xb j).2.2.2.2.2) n j (((f_Mo_find ti n j t)).toNatClampNeg)).2.1) ((f_Mo_cut ((f_Mo_remember ed ct ti nm xa xb j).2.1) ((f_Mo_remember ed ct ti nm xa xb j).2.2.1) ((f_Mo_remember ed ct ti nm xa xb j).2.2.2.1) ((f_Mo_remember ed ct ti nm xa xb j).2.2.2.2.1) ((f_Mo_remember ed ct ti nm xa xb j).2.2.2.2.2) n j (((f_Mo_find ti n j t)).toNatClampNeg)).2.2.1) ((f_Mo_cut ((f_Mo_remember ed ct ti nm xa xb j).2.1) ((f_Mo_remember ed ct ti nm xa xb j).2.2.1) ((f_Mo_remember ed ct ti nm xa xb j).2.2.2.1) ((f_Mo_remember ed ct ti nm xa xb j).2.2.2.2.1) ((f_Mo_remember ed ct ti nm xa xb j).2.2.2.2.2) n j (((f_Mo_find ti n j t)).toNatClampNeg)).2.2.2.1) ((f_Mo_cut ((f_Mo_remember ed ct ti nm xa xb j).2.1) ((f_Mo_remember ed ct ti nm xa xb j).2.2.1) ((f_Mo_remember ed ct ti nm xa xb j).2.2.2.1) ((f_Mo_remember ed ct ti nm xa xb j).2.2.2.2.1) ((f_Mo_remember ed ct ti nm xa xb j).2.2.2.2.2) n j (((f_Mo_find ti n j t)).toNatClampNeg)).2.2.2.2) (n - 1) j u (((f_Mo_remember ed ct ti nm xa xb j).2.2.2.1) (32 * j + (((f_Mo_find ti n j t)).toNatClampNeg))) (((f_Mo_remember ed ct ti nm xa xb j).2.2.2.2.1) (32 * j + (((f_Mo_find ti n j t)).toNatClampNeg))) (((f_Mo_remember ed ct ti nm xa xb j).2.2.2.2.2) (32 * j + (((f_Mo_find ti n j t)).toNatClampNeg)))).2.2.2.1, (f_Mo_insert ((f_Mo_cut ((f_Mo_remember ed ct ti nm xa xb j).2.1) ((f_Mo_remember ed ct ti nm xa xb j).2.2.1) ((f_Mo_remember ed ct ti nm xa xb j).2.2.2.1) ((f_Mo_remember ed ct ti nm xa xb j).2.2.2.2.1) ((f_Mo_remember ed ct ti nm xa xb j).2.2.2.2.2) n j (((f_Mo_find ti n j t)).toNatClampNeg)).1) ((f_Mo_cut ((f_Mo_remember ed ct ti nm xa xb j).2.1) ((f_Mo_remember ed ct ti nm xa xb j).2.2.1) ((f_Mo_remember ed ct ti nm xa xb j).2.2.2.1) ((f_Mo_remember ed ct ti nm xa xb j).2.2.2.2.1) ((f_Mo_remember ed ct ti nm xa xb j).2.2.2.2.2) n j (((f_Mo_find ti n j t)).toNatClampNeg)).2.1) ((f_Mo_cut ((f_Mo_remember ed ct ti nm xa xb j).2.1) ((f_Mo_remember ed ct ti nm xa xb j).2.2.1) ((f_Mo_remember ed ct ti nm xa xb j).2.2.2.1) ((f_Mo_remember ed ct ti nm xa xb j).2.2.2.2.1) ((f_Mo_remember ed ct ti nm xa xb j).2.2.2.2.2) n j (((f_Mo_find ti n j t)).toNatClampNeg)).2.2.1) ((f_Mo_cut ((f_Mo_remember ed ct ti nm xa xb j).2.1) ((f_Mo_remember ed ct ti nm xa xb j).2.2.1) ((f_Mo_remember ed ct ti nm xa xb j).2.2.2.1) ((f_Mo_remember ed ct ti nm xa xb j).2.2.2.2.1) ((f_Mo_remember ed ct ti nm xa xb j).2.2.2.2.2) n j (((f_Mo_find ti n j t)).toNatClampNeg)).2.2.2.1) ((f_Mo_cut ((f_Mo_remember ed ct ti nm xa xb j).2.1) ((f_Mo_remember ed ct ti nm xa xb j).2.2.1) ((f_Mo_remember ed ct ti nm xa xb j).2.2.2.1) ((f_Mo_remember ed ct ti nm xa xb j).2.2.2.2.1) ((f_Mo_remember ed ct ti nm xa xb j).2.2.2.2.2) n j (((f_Mo_find ti n j t)).toNatClampNeg)).2.2.2.2) (n - 1) j u (((f_Mo_remember ed ct ti nm xa xb j).2.2.2.1) (32 * j + (((f_Mo_find ti n j t)).toNatClampNeg))) (((f_Mo_remember ed ct ti nm xa xb j).2.2.2.2.1) (32 * j + (((f_Mo_find ti n j t)).toNatClampNeg))) (((f_Mo_remember ed ct ti nm xa xb j).2.2.2.2.2) (32 * j + (((f_Mo_find ti n j t)).toNatClampNeg)))).2.2.2.2)) else ((3, ed, ct, ti, nm, xa, xb))))) else ((1, ed, ct, ti, nm, xa, xb))) else ((1, ed, ct, ti, nm, xa, xb))
set_option maxHeartbeats 4000000 in
set_option maxRecDepth 100000 in
theorem m_Mo_shift (l : Launch) (D : va_G) (cI cJ cZ cO : ClassId) (a : Nat) (code : Int32) (kn : Nat → Int32) (ed : Nat → Int32) (ct : Nat → Int32) (ti : Nat → Int32) (nm : Nat → Int32) (xa : Nat → Int32) (xb : Nat → Int32) (ma : Int32) (it : Nat → Int32) (vs : Nat → Int32) (se : Nat → Int32) (sm : Int64) (rs : Nat → Int64) (wk : Nat → Int32) (ors : Nat → Int64) (owk : Nat → Int32) (n : Nat) (j : Nat) (t : Int32) (u : Int32) (hj : j < 4) (hct : ct j = nI n) (hn : n ≤ 32) (R : Int32 × (Nat → Int32) × (Nat → Int32) × (Nat → Int32) × (Nat → Int32) × (Nat → Int32) × (Nat → Int32)) (hR : f_Mo_shift kn ed ct ti nm xa xb n j t u = R) : Met l y_Md_shift (k_Md_shift :: gt) rm_Md_shift (Pc0 D cI cJ cZ cO [.ref a, .int (nI j), .int t, .int u] (fun H => va_P D cls (wMo cI cJ cZ a code kn ed ct ti nm xa xb ma it vs se sm rs wk ors owk) H)) (Qd (blk a 15) none (fun H => va_P D cls (wMo cI cJ cZ a R.1 kn R.2.1 R.2.2.1 R.2.2.2.1 R.2.2.2.2.1 R.2.2.2.2.2.1 R.2.2.2.2.2.2 ma it vs se sm rs wk ors owk) H)) 0 0 (blk a 15) := by
  refine Met.ofW (cc := c_Md_shift) (maxL := 8) (ret := none) (by decide) rfl ?_
  intro p e s m args below meth c s₁ B hml hv
  obtain ⟨rfl, hKn, hP⟩ := hv
  have hx := B.exec
  have hb := B.bytes
  have hr := B.returns
  have hts := atoms_spec (ws := k_Md_shift :: gt) B.pre
  have hg : ∀ w ∈ gt, w.before _ s = true := fun w h => hts w (List.mem_cons_of_mem _ h)
  have hown : s.vm.findClass R_Md = some m.cls := findClass_of_methodNamed B.named
  have hlocks := B.notSynchronized
  have hK := hKn.1
  have hl := lv_entry ([.ref a, .int (nI j), .int t, .int u]) (n := 8) (Nat.le_of_ble_eq_true rfl)
  rw [lg_entry_eq]
  generalize (lg_sl ([.ref a, .int (nI j), .int t, .int u]) ++ List.replicate (8 - (lg_sl ([.ref a, .int (nI j), .int t, .int u])).length) Slot.unset).toArray = ls at hl ⊢
  have hl : lv_has ls 8 [(0, .ref a), (1, .int (nI j)), (2, .int t), (3, .int u)] := hl
  have hS : va_S (blk a 15) s.heap s.heap [] := va_S.rf
  have hD : va_D (blk a 15) (wMo cI cJ cZ a code kn ed ct ti nm xa xb ma it vs se sm rs wk ors owk) := (blk_D (wMo_in))
  have hR : (if okM t then (if okM u then (if (kn j) = 0 then ((2, ed, ct, ti, nm, xa, xb)) else (if ¬ (f_Mo_find ti n j u) = -1 then ((2, ed, ct, ti, nm, xa, xb)) else (if ¬ (f_Mo_find ti n j t) = -1 then ((0, (f_Mo_remember ed ct ti nm xa xb j).1, (f_Mo_insert ((f_Mo_cut ((f_Mo_remember ed ct ti nm xa xb j).2.1) ((f_Mo_remember ed ct ti nm xa xb j).2.2.1) ((f_Mo_remember ed ct ti nm xa xb j).2.2.2.1) ((f_Mo_remember ed ct ti nm xa xb j).2.2.2.2.1) ((f_Mo_remember ed ct ti nm xa xb j).2.2.2.2.2) n j (((f_Mo_find ti n j t)).toNatClampNeg)).1) ((f_Mo_cut ((f_Mo_remember ed ct ti nm xa xb j).2.1) ((f_Mo_remember ed ct ti nm xa xb j).2.2.1) ((f_Mo_remember ed ct ti nm xa xb j).2.2.2.1) ((f_Mo_remember ed ct ti nm xa xb j).2.2.2.2.1) ((f_Mo_remember ed ct ti nm xa xb j).2.2.2.2.2) n j (((f_Mo_find ti n j t)).toNatClampNeg)).2.1) ((f_Mo_cut ((f_Mo_remember ed ct ti nm xa xb j).2.1) ((f_Mo_remember ed ct ti nm xa xb j).2.2.1) ((f_Mo_remember ed ct ti nm xa xb j).2.2.2.1) ((f_Mo_remember ed ct ti nm xa xb j).2.2.2.2.1) ((f_Mo_remember ed ct ti nm xa xb j).2.2.2.2.2) n j (((f_Mo_find ti n j t)).toNatClampNeg)).2.2.1) ((f_Mo_cut ((f_Mo_remember ed ct ti nm xa xb j).2.1) ((f_Mo_remember ed ct ti nm xa xb j).2.2.1) ((f_Mo_remember ed ct ti nm xa xb j).2.2.2.1) ((f_Mo_remember ed ct ti nm xa xb j).2.2.2.2.1) ((f_Mo_remember ed ct ti nm xa xb j).2.2.2.2.2) n j (((f_Mo_find ti n j t)).toNatClampNeg)).2.2.2.1) ((f_Mo_cut ((f_Mo_remember ed ct ti nm xa xb j).2.1) ((f_Mo_remember ed ct ti nm xa xb j).2.2.1) ((f_Mo_remember ed ct ti nm xa xb j).2.2.2.1) ((f_Mo_remember ed ct ti nm xa xb j).2.2.2.2.1) ((f_Mo_remember ed ct ti nm xa xb j).2.2.2.2.2) n j (((f_Mo_find ti n j t)).toNatClampNeg)).2.2.2.2) (n - 1) j u (((f_Mo_remember ed ct ti nm xa xb j).2.2.2.1) (32 * j + (((f_Mo_find ti n j t)).toNatClampNeg))) (((f_Mo_remember ed ct ti nm xa xb j).2.2.2.2.1) (32 * j + (((f_Mo_find ti n j t)).toNatClampNeg))) (((f_Mo_remember ed ct ti nm xa xb j).2.2.2.2.2) (32 * j + (((f_Mo_find ti n j t)).toNatClampNeg)))).1, (f_Mo_insert ((f_Mo_cut ((f_Mo_remember ed ct ti nm xa xb j).2.1) ((f_Mo_remember ed ct ti nm xa xb j).2.2.1) ((f_Mo_remember ed ct ti nm xa xb j).2.2.2.1) ((f_Mo_remember ed ct ti nm xa xb j).2.2.2.2.1) ((f_Mo_remember ed ct ti nm xa xb j).2.2.2.2.2) n j (((f_Mo_find ti n j t)).toNatClampNeg)).1) ((f_Mo_cut ((f_Mo_remember ed ct ti nm xa xb j).2.1) ((f_Mo_remember ed ct ti nm xa xb j).2.2.1) ((f_Mo_remember ed ct ti nm xa xb j).2.2.2.1) ((f_Mo_remember ed ct ti nm xa xb j).2.2.2.2.1) ((f_Mo_remember ed ct ti nm xa xb j).2.2.2.2.2) n j (((f_Mo_find ti n j t)).toNatClampNeg)).2.1) ((f_Mo_cut ((f_Mo_remember ed ct ti nm xa xb j).2.1) ((f_Mo_remember ed ct ti nm xa xb j).2.2.1) ((f_Mo_remember ed ct ti nm xa xb j).2.2.2.1) ((f_Mo_remember ed ct ti nm xa xb j).2.2.2.2.1) ((f_Mo_remember ed ct ti nm xa xb j).2.2.2.2.2) n j (((f_Mo_find ti n j t)).toNatClampNeg)).2.2.1) ((f_Mo_cut ((f_Mo_remember ed ct ti nm xa xb j).2.1) ((f_Mo_remember ed ct ti nm xa xb j).2.2.1) ((f_Mo_remember ed ct ti nm xa xb j).2.2.2.1) ((f_Mo_remember ed ct ti nm xa xb j).2.2.2.2.1) ((f_Mo_remember ed ct ti nm xa xb j).2.2.2.2.2) n j (((f_Mo_find ti n j t)).toNatClampNeg)).2.2.2.1) ((f_Mo_cut ((f_Mo_remember ed ct ti nm xa xb j).2.1) ((f_Mo_remember ed ct ti nm xa xb j).2.2.1) ((f_Mo_remember ed ct ti nm xa xb j).2.2.2.1) ((f_Mo_remember ed ct ti nm xa xb j).2.2.2.2.1) ((f_Mo_remember ed ct ti nm xa xb j).2.2.2.2.2) n j (((f_Mo_find ti n j t)).toNatClampNeg)).2.2.2.2) (n - 1) j u (((f_Mo_remember ed ct ti nm xa xb j).2.2.2.1) (32 * j + (((f_Mo_find ti n j t)).toNatClampNeg))) (((f_Mo_remember ed ct ti nm xa xb j).2.2.2.2.1) (32 * j + (((f_Mo_find ti n j t)).toNatClampNeg))) (((f_Mo_remember ed ct ti nm xa xb j).2.2.2.2.2) (32 * j + (((f_Mo_find ti n j t)).toNatClampNeg)))).2.1, (f_Mo_insert ((f_Mo_cut ((f_Mo_remember ed ct ti nm xa xb j).2.1) ((f_Mo_remember ed ct ti nm xa xb j).2.2.1) ((f_Mo_remember ed ct ti nm xa xb j).2.2.2.1) ((f_Mo_remember ed ct ti nm xa xb j).2.2.2.2.1) ((f_Mo_remember ed ct ti nm xa xb j).2.2.2.2.2) n j (((f_Mo_find ti n j t)).toNatClampNeg)).1) ((f_Mo_cut ((f_Mo_remember ed ct ti nm xa xb j).2.1) ((f_Mo_remember ed ct ti nm xa xb j).2.2.1) ((f_Mo_remember ed ct ti nm xa xb j).2.2.2.1) ((f_Mo_remember ed ct ti nm xa xb j).2.2.2.2.1) ((f_Mo_remember ed ct ti nm xa xb j).2.2.2.2.2) n j (((f_Mo_find ti n j t)).toNatClampNeg)).2.1) ((f_Mo_cut ((f_Mo_remember ed ct ti nm xa xb j).2.1) ((f_Mo_remember ed ct ti nm xa xb j).2.2.1) ((f_Mo_remember ed ct ti nm xa xb j).2.2.2.1) ((f_Mo_remember ed ct ti nm xa xb j).2.2.2.2.1) ((f_Mo_remember ed ct ti nm xa xb j).2.2.2.2.2) n j (((f_Mo_find ti n j t)).toNatClampNeg)).2.2.1) ((f_Mo_cut ((f_Mo_remember ed ct ti nm xa xb j).2.1) ((f_Mo_remember ed ct ti nm xa xb j).2.2.1) ((f_Mo_remember ed ct ti nm xa xb j).2.2.2.1) ((f_Mo_remember ed ct ti nm xa xb j).2.2.2.2.1) ((f_Mo_remember ed ct ti nm xa xb j).2.2.2.2.2) n j (((f_Mo_find ti n j t)).toNatClampNeg)).2.2.2.1) ((f_Mo_cut ((f_Mo_remember ed ct ti nm xa xb j).2.1) ((f_Mo_remember ed ct ti nm xa xb j).2.2.1) ((f_Mo_remember ed ct ti nm xa xb j).2.2.2.1) ((f_Mo_remember ed ct ti nm xa xb j).2.2.2.2.1) ((f_Mo_remember ed ct ti nm xa xb j).2.2.2.2.2) n j (((f_Mo_find ti n j t)).toNatClampNeg)).2.2.2.2) (n - 1) j u (((f_Mo_remember ed ct ti nm xa xb j).2.2.2.1) (32 * j + (((f_Mo_find ti n j t)).toNatClampNeg))) (((f_Mo_remember ed ct ti nm xa xb j).2.2.2.2.1) (32 * j + (((f_Mo_find ti n j t)).toNatClampNeg))) (((f_Mo_remember ed ct ti nm xa xb j).2.2.2.2.2) (32 * j + (((f_Mo_find ti n j t)).toNatClampNeg)))).2.2.1, (f_Mo_insert ((f_Mo_cut ((f_Mo_remember ed ct ti nm xa xb j).2.1) ((f_Mo_remember ed ct ti nm xa xb j).2.2.1) ((f_Mo_remember ed ct ti nm xa xb j).2.2.2.1) ((f_Mo_remember ed ct ti nm xa xb j).2.2.2.2.1) ((f_Mo_remember ed ct ti nm xa xb j).2.2.2.2.2) n j (((f_Mo_find ti n j t)).toNatClampNeg)).1) ((f_Mo_cut ((f_Mo_remember ed ct ti nm xa xb j).2.1) ((f_Mo_remember ed ct ti nm xa xb j).2.2.1) ((f_Mo_remember ed ct ti nm xa xb j).2.2.2.1) ((f_Mo_remember ed ct ti nm xa xb j).2.2.2.2.1) ((f_Mo_remember ed ct ti nm xa xb j).2.2.2.2.2) n j (((f_Mo_find ti n j t)).toNatClampNeg)).2.1) ((f_Mo_cut ((f_Mo_remember ed ct ti nm xa xb j).2.1) ((f_Mo_remember ed ct ti nm xa xb j).2.2.1) ((f_Mo_remember ed ct ti nm xa xb j).2.2.2.1) ((f_Mo_remember ed ct ti nm xa xb j).2.2.2.2.1) ((f_Mo_remember ed ct ti nm xa xb j).2.2.2.2.2) n j (((f_Mo_find ti n j t)).toNatClampNeg)).2.2.1) ((f_Mo_cut ((f_Mo_remember ed ct ti nm xa xb j).2.1) ((f_Mo_remember ed ct ti nm xa xb j).2.2.1) ((f_Mo_remember ed ct ti nm xa xb j).2.2.2.1) ((f_Mo_remember ed ct ti nm xa xb j).2.2.2.2.1) ((f_Mo_remember ed ct ti nm xa xb j).2.2.2.2.2) n j (((f_Mo_find ti n j t)).toNatClampNeg)).2.2.2.1) ((f_Mo_cut ((f_Mo_remember ed ct ti nm xa xb j).2.1) ((f_Mo_remember ed ct ti nm xa xb j).2.2.1) ((f_Mo_remember ed ct ti nm xa xb j).2.2.2.1) ((f_Mo_remember ed ct ti nm xa xb j).2.2.2.2.1) ((f_Mo_remember ed ct ti nm xa xb j).2.2.2.2.2) n j (((f_Mo_find ti n j t)).toNatClampNeg)).2.2.2.2) (n - 1) j u (((f_Mo_remember ed ct ti nm xa xb j).2.2.2.1) (32 * j + (((f_Mo_find ti n j t)).toNatClampNeg))) (((f_Mo_remember ed ct ti nm xa xb j).2.2.2.2.1) (32 * j + (((f_Mo_find ti n j t)).toNatClampNeg))) (((f_Mo_remember ed ct ti nm xa xb j).2.2.2.2.2) (32 * j + (((f_Mo_find ti n j t)).toNatClampNeg)))).2.2.2.1, (f_Mo_insert ((f_Mo_cut ((f_Mo_remember ed ct ti nm xa xb j).2.1) ((f_Mo_remember ed ct ti nm xa xb j).2.2.1) ((f_Mo_remember ed ct ti nm xa xb j).2.2.2.1) ((f_Mo_remember ed ct ti nm xa xb j).2.2.2.2.1) ((f_Mo_remember ed ct ti nm xa xb j).2.2.2.2.2) n j (((f_Mo_find ti n j t)).toNatClampNeg)).1) ((f_Mo_cut ((f_Mo_remember ed ct ti nm xa xb j).2.1) ((f_Mo_remember ed ct ti nm xa xb j).2.2.1) ((f_Mo_remember ed ct ti nm xa xb j).2.2.2.1) ((f_Mo_remember ed ct ti nm xa xb j).2.2.2.2.1) ((f_Mo_remember ed ct ti nm xa xb j).2.2.2.2.2) n j (((f_Mo_find ti n j t)).toNatClampNeg)).2.1) ((f_Mo_cut ((f_Mo_remember ed ct ti nm xa xb j).2.1) ((f_Mo_remember ed ct ti nm xa xb j).2.2.1) ((f_Mo_remember ed ct ti nm xa xb j).2.2.2.1) ((f_Mo_remember ed ct ti nm xa xb j).2.2.2.2.1) ((f_Mo_remember ed ct ti nm xa xb j).2.2.2.2.2) n j (((f_Mo_find ti n j t)).toNatClampNeg)).2.2.1) ((f_Mo_cut ((f_Mo_remember ed ct ti nm xa xb j).2.1) ((f_Mo_remember ed ct ti nm xa xb j).2.2.1) ((f_Mo_remember ed ct ti nm xa xb j).2.2.2.1) ((f_Mo_remember ed ct ti nm xa xb j).2.2.2.2.1) ((f_Mo_remember ed ct ti nm xa xb j).2.2.2.2.2) n j (((f_Mo_find ti n j t)).toNatClampNeg)).2.2.2.1) ((f_Mo_cut ((f_Mo_remember ed ct ti nm xa xb j).2.1) ((f_Mo_remember ed ct ti nm xa xb j).2.2.1) ((f_Mo_remember ed ct ti nm xa xb j).2.2.2.1) ((f_Mo_remember ed ct ti nm xa xb j).2.2.2.2.1) ((f_Mo_remember ed ct ti nm xa xb j).2.2.2.2.2) n j (((f_Mo_find ti n j t)).toNatClampNeg)).2.2.2.2) (n - 1) j u (((f_Mo_remember ed ct ti nm xa xb j).2.2.2.1) (32 * j + (((f_Mo_find ti n j t)).toNatClampNeg))) (((f_Mo_remember ed ct ti nm xa xb j).2.2.2.2.1) (32 * j + (((f_Mo_find ti n j t)).toNatClampNeg))) (((f_Mo_remember ed ct ti nm xa xb j).2.2.2.2.2) (32 * j + (((f_Mo_find ti n j t)).toNatClampNeg)))).2.2.2.2)) else ((3, ed, ct, ti, nm, xa, xb))))) else ((1, ed, ct, ti, nm, xa, xb))) else ((1, ed, ct, ti, nm, xa, xb))) = R := hR
  refine lv_aload_n hx hb d_Md_shift_0 rfl (lv_at hl 0 rfl) ?_
  refine lv_iload_n hx hb d_Md_shift_1 rfl (lv_at hl 1 rfl) ?_
  refine ep_callP (W.runS (As := [.int (nI j)]) (rest := [.ref a]) ⟨hx, hb, hml, hown, hg⟩ (m_Mo_isId l D cI cJ cZ cO (nI j)) (ep_cwS 1 hg tw_766 tw_767 tw_12 tk_Md_isId rfl rfl (by decide +kernel) ⟨(Nat.le_of_ble_eq_true rfl), (Nat.le_of_ble_eq_true rfl)⟩) ⟨ep_blind, ep_pre hKn (trivial)⟩ rfl rfl hl.1 rfl (lv_room (Nat.le_of_ble_eq_true rfl)) d_Md_shift_2 ⟨Nat.zero_le _, Nat.zero_le _⟩) ?_
  refine W.eq (g2 := F0 m 5 ls [.int (bI (okI (nI j))), .ref a]) rfl ?_
  refine lv_topi (fun z8 e_z8 => ?_)
  obtain rfl : z8 = 1 := by rw [e_z8]; exact (if_pos (okI_n (by omega)))
  refine lv_if_eq (tgt := 22) hx hb d_Md_shift_5 (by decide) (fun hc => False.elim (by revert hc; decide)) (fun hc => ?_)
  refine lv_iload_n hx hb d_Md_shift_8 rfl (lv_at hl 2 rfl) ?_
  refine ep_callP (W.runS (As := [.int t]) (rest := [.ref a]) ⟨hx, hb, hml, hown, hg⟩ (m_Mo_isMoment l D cI cJ cZ cO t) (ep_cwS 1 hg tw_777 tw_778 tw_12 tk_Md_isMoment rfl rfl (by decide +kernel) ⟨(Nat.le_of_ble_eq_true rfl), (Nat.le_of_ble_eq_true rfl)⟩) ⟨ep_blind, ep_pre hKn (trivial)⟩ rfl rfl hl.1 rfl (lv_room (Nat.le_of_ble_eq_true rfl)) d_Md_shift_9 ⟨Nat.zero_le _, Nat.zero_le _⟩) ?_
  refine W.eq (g2 := F0 m 12 ls [.int (bI (okM t)), .ref a]) rfl ?_
  by_cases hc1 : okM t
  · rw [show bI (okM t) = 1 from if_pos hc1]
    refine lv_if_eq (tgt := 22) hx hb d_Md_shift_12 (by decide) (fun hc => False.elim (by revert hc; decide)) (fun hc => ?_)
    refine lv_iload_n hx hb d_Md_shift_15 rfl (lv_at hl 3 rfl) ?_
    refine ep_callP (W.runS (As := [.int u]) (rest := [.ref a]) ⟨hx, hb, hml, hown, hg⟩ (m_Mo_isMoment l D cI cJ cZ cO u) (ep_cwS 1 hg tw_777 tw_778 tw_12 tk_Md_isMoment rfl rfl (by decide +kernel) ⟨(Nat.le_of_ble_eq_true rfl), (Nat.le_of_ble_eq_true rfl)⟩) ⟨ep_blind, ep_pre hKn (trivial)⟩ rfl rfl hl.1 rfl (lv_room (Nat.le_of_ble_eq_true rfl)) d_Md_shift_16 ⟨Nat.zero_le _, Nat.zero_le _⟩) ?_
    refine W.eq (g2 := F0 m 19 ls [.int (bI (okM u)), .ref a]) rfl ?_
    by_cases hc2 : okM u
    · rw [show bI (okM u) = 1 from if_pos hc2]
      refine lv_if_ne (tgt := 26) hx hb d_Md_shift_19 (by decide) (fun hc => ?_) (fun hc => False.elim (by revert hc; decide))
      refine lv_aload_n hx hb d_Md_shift_26 rfl (lv_at hl 0 rfl) ?_
      refine va_get (D := D) (ci := 9) (v := .ref (a + 1)) (C := R_Md) (T := F_Md) (N := 17) hx hb hg in_Md hown hK hP 0 rfl rfl 1 (Nat.le_of_ble_eq_true rfl) (hg _ tw_707) (fun _ h9 => h9) rfl d_Md_shift_27 ?_
      refine lv_iload_n hx hb d_Md_shift_30 rfl (lv_at hl 1 rfl) ?_
      refine ep_iald hx hb hK hP 1 0 rfl rfl (i := j) (by omega) (by decide) d_Md_shift_31 ?_
      refine lv_if_eq (tgt := 44) hx hb d_Md_shift_32 (by decide) (fun hc3 => ?_) (fun hc3 => ?_)
      · have hc3 : (kn j) = 0 := hc3
        refine lv_iconst (v := 2) hx hb d_Md_shift_44 (by decide) ?_
        refine lv_goto (tgt := 62) hx hb d_Md_shift_45 (by decide) ?_
        refine va_put (D := D) (ci := 9) (v := .int 2) (ty := .int) (C := R_Md) (T := F_Md) (N := 17) hx hb hg in_Md t_Md t_Md_ok n_Md hown hK hP hD hS 0 rfl rfl 0 (Nat.le_of_ble_eq_true rfl) (hg _ tw_706) (fun _ h9 => h9) rfl (by decide +kernel) rfl rfl (Nat.le_of_ble_eq_true rfl) d_Md_shift_62 (fun H locs hP hD hS => ?_)
        have hP : va_P D cls (wMo cI cJ cZ a 2 kn ed ct ti nm xa xb ma it vs se sm rs wk ors owk) H := hP
        have hD : va_D (blk a 15) (wMo cI cJ cZ a 2 kn ed ct ti nm xa xb ma it vs se sm rs wk ors owk) := hD
        refine lv_aload_n hx hb d_Md_shift_65 rfl (lv_at hl 0 rfl) ?_
        refine va_get (D := D) (ci := 9) (v := .int 2) (C := R_Md) (T := F_Md) (N := 17) hx hb hg in_Md hown hK hP 0 rfl rfl 0 (Nat.le_of_ble_eq_true rfl) (hg _ tw_706) (fun _ h9 => h9) rfl d_Md_shift_66 ?_
        refine lv_if_le (tgt := 73) hx hb d_Md_shift_69 (by decide) (fun hc => False.elim (by revert hc; decide)) (fun hc => ?_)
        rw [if_pos hc1, if_pos hc2, if_pos hc3] at hR
        subst hR
        exact W.vret hx hb hr (fun t9 ht hW => ⟨rfl, hS.F ht, by rw [ht]; exact hP⟩) hS.2.2 d_Md_shift_72
      · have hc3 : ¬ ((kn j) = 0) := hc3
        refine lv_aload_n hx hb d_Md_shift_35 rfl (lv_at hl 0 rfl) ?_
        refine lv_iload_n hx hb d_Md_shift_36 rfl (lv_at hl 1 rfl) ?_
        refine lv_iload_n hx hb d_Md_shift_37 rfl (lv_at hl 3 rfl) ?_
        refine ep_callP (W.runV (As := [.int (nI j), .int u]) (rest := [.ref a]) ⟨hx, hb, hml, hown, hg⟩ (m_Mo_find l D cI cJ cZ cO a code kn ed ct ti nm xa xb ma it vs se sm rs wk ors owk n j u (by omega) hct (by omega) _ rfl) (ep_cwV 2 hg tw_785 tw_787 ts_10 tw_12 tk_Md_find rfl rfl (by decide +kernel) ⟨(Nat.le_of_ble_eq_true rfl), (Nat.le_of_ble_eq_true rfl)⟩) ⟨ep_blind, va_recv (q0 := 0) (ci := 9) hK hP rfl rfl, ep_pre hKn (hP)⟩ rfl rfl hl.1 rfl (lv_room (Nat.le_of_ble_eq_true rfl)) d_Md_shift_38 ⟨Nat.zero_le _, Nat.zero_le _⟩) ?_
        refine W.eq (g2 := F0 m 41 ls [.int (f_Mo_find ti n j u), .ref a]) rfl ?_
        refine lv_topi (fun z8 e_z8 => ?_)
        obtain rfl : z8 = oI (¬ (f_Mo_find ti n j u) = -1) ((f_Mo_find ti n j u).toNatClampNeg) := by rw [e_z8]; exact (oI_of (fi_at _ _ _ _ (by omega)))
        by_cases hc4 : ¬ (f_Mo_find ti n j u) = -1
        · rw [show oI (¬ (f_Mo_find ti n j u) = -1) ((f_Mo_find ti n j u).toNatClampNeg) = nI ((f_Mo_find ti n j u).toNatClampNeg) from if_pos hc4]
          have hp9 : ((f_Mo_find ti n j u)).toNatClampNeg < n := fi_lt _ _ _ _ (by omega) hc4
          refine lv_if_lt (tgt := 48) hx hb d_Md_shift_41 (by decide) (fun hc => False.elim (by have hc := (nI_ltI (a := (f_Mo_find ti n j u).toNatClampNeg) (b := 0) (by omega) (by omega)).mp hc; omega)) (fun hc => ?_)
          refine lv_iconst (v := 2) hx hb d_Md_shift_44 (by decide) ?_
          refine lv_goto (tgt := 62) hx hb d_Md_shift_45 (by decide) ?_
          refine va_put (D := D) (ci := 9) (v := .int 2) (ty := .int) (C := R_Md) (T := F_Md) (N := 17) hx hb hg in_Md t_Md t_Md_ok n_Md hown hK hP hD hS 0 rfl rfl 0 (Nat.le_of_ble_eq_true rfl) (hg _ tw_706) (fun _ h9 => h9) rfl (by decide +kernel) rfl rfl (Nat.le_of_ble_eq_true rfl) d_Md_shift_62 (fun H locs hP hD hS => ?_)
          have hP : va_P D cls (wMo cI cJ cZ a 2 kn ed ct ti nm xa xb ma it vs se sm rs wk ors owk) H := hP
          have hD : va_D (blk a 15) (wMo cI cJ cZ a 2 kn ed ct ti nm xa xb ma it vs se sm rs wk ors owk) := hD
          refine lv_aload_n hx hb d_Md_shift_65 rfl (lv_at hl 0 rfl) ?_
          refine va_get (D := D) (ci := 9) (v := .int 2) (C := R_Md) (T := F_Md) (N := 17) hx hb hg in_Md hown hK hP 0 rfl rfl 0 (Nat.le_of_ble_eq_true rfl) (hg _ tw_706) (fun _ h9 => h9) rfl d_Md_shift_66 ?_
          refine lv_if_le (tgt := 73) hx hb d_Md_shift_69 (by decide) (fun hc => False.elim (by revert hc; decide)) (fun hc => ?_)
          rw [if_pos hc1, if_pos hc2, if_neg hc3, if_pos hc4] at hR
          subst hR
          exact W.vret hx hb hr (fun t9 ht hW => ⟨rfl, hS.F ht, by rw [ht]; exact hP⟩) hS.2.2 d_Md_shift_72
        · rw [show oI (¬ (f_Mo_find ti n j u) = -1) ((f_Mo_find ti n j u).toNatClampNeg) = -1 from if_neg hc4]
          refine lv_if_lt (tgt := 48) hx hb d_Md_shift_41 (by decide) (fun hc => ?_) (fun hc => False.elim (by revert hc; decide))
          refine lv_aload_n hx hb d_Md_shift_48 rfl (lv_at hl 0 rfl) ?_
          refine lv_iload_n hx hb d_Md_shift_49 rfl (lv_at hl 1 rfl) ?_
          refine lv_iload_n hx hb d_Md_shift_50 rfl (lv_at hl 2 rfl) ?_
          refine ep_callP (W.runV (As := [.int (nI j), .int t]) (rest := [.ref a]) ⟨hx, hb, hml, hown, hg⟩ (m_Mo_find l D cI cJ cZ cO a code kn ed ct ti nm xa xb ma it vs se sm rs wk ors owk n j t (by omega) hct (by omega) _ rfl) (ep_cwV 2 hg tw_785 tw_787 ts_10 tw_12 tk_Md_find rfl rfl (by decide +kernel) ⟨(Nat.le_of_ble_eq_true rfl), (Nat.le_of_ble_eq_true rfl)⟩) ⟨ep_blind, va_recv (q0 := 0) (ci := 9) hK hP rfl rfl, ep_pre hKn (hP)⟩ rfl rfl hl.1 rfl (lv_room (Nat.le_of_ble_eq_true rfl)) d_Md_shift_51 ⟨Nat.zero_le _, Nat.zero_le _⟩) ?_
          refine W.eq (g2 := F0 m 54 ls [.int (f_Mo_find ti n j t), .ref a]) rfl ?_
          refine lv_topi (fun z8 e_z8 => ?_)
          obtain rfl : z8 = oI (¬ (f_Mo_find ti n j t) = -1) ((f_Mo_find ti n j t).toNatClampNeg) := by rw [e_z8]; exact (oI_of (fi_at _ _ _ _ (by omega)))
          by_cases hc5 : ¬ (f_Mo_find ti n j t) = -1
          · rw [show oI (¬ (f_Mo_find ti n j t) = -1) ((f_Mo_find ti n j t).toNatClampNeg) = nI ((f_Mo_find ti n j t).toNatClampNeg) from if_pos hc5]
            have hp9 : ((f_Mo_find ti n j t)).toNatClampNeg < n := fi_lt _ _ _ _ (by omega) hc5
            refine lv_if_ge (tgt := 61) hx hb d_Md_shift_54 (by decide) (fun hc => ?_) (fun hc => False.elim (by have hc : ¬ (0 ≤ (f_Mo_find ti n j t).toNatClampNeg) := fun h => hc (by exact (nI_leI (a := 0) (b := (f_Mo_find ti n j t).toNatClampNeg) (by omega) (by omega)).mpr h); omega))
            refine lv_iconst (v := 0) hx hb d_Md_shift_61 (by decide) ?_
            refine va_put (D := D) (ci := 9) (v := .int 0) (ty := .int) (C := R_Md) (T := F_Md) (N := 17) hx hb hg in_Md t_Md t_Md_ok n_Md hown hK hP hD hS 0 rfl rfl 0 (Nat.le_of_ble_eq_true rfl) (hg _ tw_706) (fun _ h9 => h9) rfl (by decide +kernel) rfl rfl (Nat.le_of_ble_eq_true rfl) d_Md_shift_62 (fun H locs hP hD hS => ?_)
            have hP : va_P D cls (wMo cI cJ cZ a 0 kn ed ct ti nm xa xb ma it vs se sm rs wk ors owk) H := hP
            have hD : va_D (blk a 15) (wMo cI cJ cZ a 0 kn ed ct ti nm xa xb ma it vs se sm rs wk ors owk) := hD
            refine lv_aload_n hx hb d_Md_shift_65 rfl (lv_at hl 0 rfl) ?_
            refine va_get (D := D) (ci := 9) (v := .int 0) (C := R_Md) (T := F_Md) (N := 17) hx hb hg in_Md hown hK hP 0 rfl rfl 0 (Nat.le_of_ble_eq_true rfl) (hg _ tw_706) (fun _ h9 => h9) rfl d_Md_shift_66 ?_
            refine lv_if_le (tgt := 73) hx hb d_Md_shift_69 (by decide) (fun hc => ?_) (fun hc => False.elim (by revert hc; decide))
            refine lv_aload_n hx hb d_Md_shift_73 rfl (lv_at hl 0 rfl) ?_
            refine lv_iload_n hx hb d_Md_shift_74 rfl (lv_at hl 1 rfl) ?_
            refine ep_callH (W.runV (As := [.int (nI j)]) (rest := []) ⟨hx, hb, hml, hown, hg⟩ (m_Mo_remember l D cI cJ cZ cO a 0 kn ed ct ti nm xa xb ma it vs se sm rs wk ors owk j (by omega) _ rfl) (ep_cwV 1 hg tw_800 tw_802 ts_12 tw_12 tk_Md_remember rfl rfl (by decide +kernel) ⟨(Nat.le_of_ble_eq_true rfl), (Nat.le_of_ble_eq_true rfl)⟩) ⟨ep_blind, va_recv (q0 := 0) (ci := 9) hK hP rfl rfl, ep_pre hKn (hP)⟩ rfl rfl hl.1 rfl (lv_room (Nat.le_of_ble_eq_true rfl)) d_Md_shift_75 ⟨Nat.zero_le _, Nat.zero_le _⟩) hS (fun q h => h) (fun H locs hsz9 hk1 hP1 hS => ?_)
            refine W.eq (g2 := F0 m 78 ls []) rfl ?_
            have hP : va_P D cls (wMo cI cJ cZ a 0 kn ((f_Mo_remember ed ct ti nm xa xb j).1) ((f_Mo_remember ed ct ti nm xa xb j).2.1) ((f_Mo_remember ed ct ti nm xa xb j).2.2.1) ((f_Mo_remember ed ct ti nm xa xb j).2.2.2.1) ((f_Mo_remember ed ct ti nm xa xb j).2.2.2.2.1) ((f_Mo_remember ed ct ti nm xa xb j).2.2.2.2.2) ma it vs se sm rs wk ors owk) H := hP1
            have hD : va_D (blk a 15) (wMo cI cJ cZ a 0 kn ((f_Mo_remember ed ct ti nm xa xb j).1) ((f_Mo_remember ed ct ti nm xa xb j).2.1) ((f_Mo_remember ed ct ti nm xa xb j).2.2.1) ((f_Mo_remember ed ct ti nm xa xb j).2.2.2.1) ((f_Mo_remember ed ct ti nm xa xb j).2.2.2.2.1) ((f_Mo_remember ed ct ti nm xa xb j).2.2.2.2.2) ma it vs se sm rs wk ors owk) := (blk_D (wMo_in))
            refine lv_aload_n hx hb d_Md_shift_78 rfl (lv_at hl 0 rfl) ?_
            refine lv_iload_n hx hb d_Md_shift_79 rfl (lv_at hl 1 rfl) ?_
            refine lv_iload_n hx hb d_Md_shift_80 rfl (lv_at hl 2 rfl) ?_
            refine ep_callP (W.runV (As := [.int (nI j), .int t]) (rest := []) ⟨hx, hb, hml, hown, hg⟩ (m_Mo_find l D cI cJ cZ cO a 0 kn ((f_Mo_remember ed ct ti nm xa xb j).1) ((f_Mo_remember ed ct ti nm xa xb j).2.1) ((f_Mo_remember ed ct ti nm xa xb j).2.2.1) ((f_Mo_remember ed ct ti nm xa xb j).2.2.2.1) ((f_Mo_remember ed ct ti nm xa xb j).2.2.2.2.1) ((f_Mo_remember ed ct ti nm xa xb j).2.2.2.2.2) ma it vs se sm rs wk ors owk n j t (by omega) (rem_ct _ _ _ _ _ _ _ _ hct) (by omega) _ rfl) (ep_cwV 2 hg tw_785 tw_787 ts_10 tw_12 tk_Md_find rfl rfl (by decide +kernel) ⟨(Nat.le_of_ble_eq_true rfl), (Nat.le_of_ble_eq_true rfl)⟩) ⟨ep_blind, va_recv (q0 := 0) (ci := 9) hK hP rfl rfl, ep_pre hKn (hP)⟩ rfl rfl hl.1 rfl (lv_room (Nat.le_of_ble_eq_true rfl)) d_Md_shift_81 ⟨Nat.zero_le _, Nat.zero_le _⟩) ?_
            refine W.eq (g2 := F0 m 84 ls [.int (f_Mo_find ((f_Mo_remember ed ct ti nm xa xb j).2.2.1) n j t)]) rfl ?_
            refine lv_topi (fun z8 e_z8 => ?_)
            obtain rfl : z8 = nI (((f_Mo_find ti n j t)).toNatClampNeg) := by rw [e_z8]; exact (rem_fi _ _ _ _ _ _ _ _ _ (by omega) (by omega) hc5)
            refine lv_istore (lv' := [(4, .int (nI (((f_Mo_find ti n j t)).toNatClampNeg))), (0, .ref a), (1, .int (nI j)), (2, .int t), (3, .int u)]) hx hb d_Md_shift_84 hl (by decide) rfl (fun ls hl => ?_)
            refine lv_aload_n hx hb d_Md_shift_86 rfl (lv_at hl 1 rfl) ?_
            refine va_get (D := D) (ci := 9) (v := .ref (a + 5)) (C := R_Md) (T := F_Md) (N := 17) hx hb hg in_Md hown hK hP 0 rfl rfl 5 (Nat.le_of_ble_eq_true rfl) (hg _ tw_711) (fun _ h9 => h9) rfl d_Md_shift_87 ?_
            refine lv_bipush (v := 32) hx hb d_Md_shift_90 (by decide) ?_
            refine lv_iload_n hx hb d_Md_shift_92 rfl (lv_at hl 2 rfl) ?_
            refine lv_imul hx hb d_Md_shift_93 ?_
            refine lv_topi (fun z9 e_z9 => ?_)
            obtain rfl : z9 = nI (32 * j) := by rw [e_z9]; exact (nI_mul 32 j)
            refine lv_iload hx hb d_Md_shift_94 (lv_at hl 0 rfl) ?_
            refine lv_iadd hx hb d_Md_shift_96 ?_
            refine lv_topi (fun z9 e_z9 => ?_)
            obtain rfl : z9 = nI (32 * j + (((f_Mo_find ti n j t)).toNatClampNeg)) := by rw [e_z9]; exact (nI_add (32 * j) (((f_Mo_find ti n j t)).toNatClampNeg))
            refine ep_iald hx hb hK hP 5 0 rfl rfl (i := (32 * j + (((f_Mo_find ti n j t)).toNatClampNeg))) (by omega) (by decide) d_Md_shift_97 ?_
            refine lv_istore (lv' := [(5, .int (((f_Mo_remember ed ct ti nm xa xb j).2.2.2.1) (32 * j + (((f_Mo_find ti n j t)).toNatClampNeg)))), (4, .int (nI (((f_Mo_find ti n j t)).toNatClampNeg))), (0, .ref a), (1, .int (nI j)), (2, .int t), (3, .int u)]) hx hb d_Md_shift_98 hl (by decide) rfl (fun ls hl => ?_)
            refine lv_aload_n hx hb d_Md_shift_100 rfl (lv_at hl 2 rfl) ?_
            refine va_get (D := D) (ci := 9) (v := .ref (a + 6)) (C := R_Md) (T := F_Md) (N := 17) hx hb hg in_Md hown hK hP 0 rfl rfl 6 (Nat.le_of_ble_eq_true rfl) (hg _ tw_712) (fun _ h9 => h9) rfl d_Md_shift_101 ?_
            refine lv_bipush (v := 32) hx hb d_Md_shift_104 (by decide) ?_
            refine lv_iload_n hx hb d_Md_shift_106 rfl (lv_at hl 3 rfl) ?_
            refine lv_imul hx hb d_Md_shift_107 ?_
            refine lv_topi (fun z9 e_z9 => ?_)
            obtain rfl : z9 = nI (32 * j) := by rw [e_z9]; exact (nI_mul 32 j)
            refine lv_iload hx hb d_Md_shift_108 (lv_at hl 1 rfl) ?_
            refine lv_iadd hx hb d_Md_shift_110 ?_
            refine lv_topi (fun z9 e_z9 => ?_)
            obtain rfl : z9 = nI (32 * j + (((f_Mo_find ti n j t)).toNatClampNeg)) := by rw [e_z9]; exact (nI_add (32 * j) (((f_Mo_find ti n j t)).toNatClampNeg))
            refine ep_iald hx hb hK hP 6 0 rfl rfl (i := (32 * j + (((f_Mo_find ti n j t)).toNatClampNeg))) (by omega) (by decide) d_Md_shift_111 ?_
            refine lv_istore (lv' := [(6, .int (((f_Mo_remember ed ct ti nm xa xb j).2.2.2.2.1) (32 * j + (((f_Mo_find ti n j t)).toNatClampNeg)))), (5, .int (((f_Mo_remember ed ct ti nm xa xb j).2.2.2.1) (32 * j + (((f_Mo_find ti n j t)).toNatClampNeg)))), (4, .int (nI (((f_Mo_find ti n j t)).toNatClampNeg))), (0, .ref a), (1, .int (nI j)), (2, .int t), (3, .int u)]) hx hb d_Md_shift_112 hl (by decide) rfl (fun ls hl => ?_)
            refine lv_aload_n hx hb d_Md_shift_114 rfl (lv_at hl 3 rfl) ?_
            refine va_get (D := D) (ci := 9) (v := .ref (a + 7)) (C := R_Md) (T := F_Md) (N := 17) hx hb hg in_Md hown hK hP 0 rfl rfl 7 (Nat.le_of_ble_eq_true rfl) (hg _ tw_713) (fun _ h9 => h9) rfl d_Md_shift_115 ?_
            refine lv_bipush (v := 32) hx hb d_Md_shift_118 (by decide) ?_
            refine lv_iload_n hx hb d_Md_shift_120 rfl (lv_at hl 4 rfl) ?_
            refine lv_imul hx hb d_Md_shift_121 ?_
            refine lv_topi (fun z9 e_z9 => ?_)
            obtain rfl : z9 = nI (32 * j) := by rw [e_z9]; exact (nI_mul 32 j)
            refine lv_iload hx hb d_Md_shift_122 (lv_at hl 2 rfl) ?_
            refine lv_iadd hx hb d_Md_shift_124 ?_
            refine lv_topi (fun z9 e_z9 => ?_)
            obtain rfl : z9 = nI (32 * j + (((f_Mo_find ti n j t)).toNatClampNeg)) := by rw [e_z9]; exact (nI_add (32 * j) (((f_Mo_find ti n j t)).toNatClampNeg))
            refine ep_iald hx hb hK hP 7 0 rfl rfl (i := (32 * j + (((f_Mo_find ti n j t)).toNatClampNeg))) (by omega) (by decide) d_Md_shift_125 ?_
            refine lv_istore (lv' := [(7, .int (((f_Mo_remember ed ct ti nm xa xb j).2.2.2.2.2) (32 * j + (((f_Mo_find ti n j t)).toNatClampNeg)))), (6, .int (((f_Mo_remember ed ct ti nm xa xb j).2.2.2.2.1) (32 * j + (((f_Mo_find ti n j t)).toNatClampNeg)))), (5, .int (((f_Mo_remember ed ct ti nm xa xb j).2.2.2.1) (32 * j + (((f_Mo_find ti n j t)).toNatClampNeg)))), (4, .int (nI (((f_Mo_find ti n j t)).toNatClampNeg))), (0, .ref a), (1, .int (nI j)), (2, .int t), (3, .int u)]) hx hb d_Md_shift_126 hl (by decide) rfl (fun ls hl => ?_)
            refine lv_aload_n hx hb d_Md_shift_128 rfl (lv_at hl 4 rfl) ?_
            refine lv_iload_n hx hb d_Md_shift_129 rfl (lv_at hl 5 rfl) ?_
            refine lv_iload hx hb d_Md_shift_130 (lv_at hl 3 rfl) ?_
            refine ep_callH (W.runV (As := [.int (nI j), .int (nI (((f_Mo_find ti n j t)).toNatClampNeg))]) (rest := []) ⟨hx, hb, hml, hown, hg⟩ (m_Mo_cut l D cI cJ cZ cO a 0 kn ((f_Mo_remember ed ct ti nm xa xb j).1) ((f_Mo_remember ed ct ti nm xa xb j).2.1) ((f_Mo_remember ed ct ti nm xa xb j).2.2.1) ((f_Mo_remember ed ct ti nm xa xb j).2.2.2.1) ((f_Mo_remember ed ct ti nm xa xb j).2.2.2.2.1) ((f_Mo_remember ed ct ti nm xa xb j).2.2.2.2.2) ma it vs se sm rs wk ors owk n j (((f_Mo_find ti n j t)).toNatClampNeg) (by omega) (rem_ct _ _ _ _ _ _ _ _ hct) (by omega) hp9 _ rfl) (ep_cwV 2 hg tw_816 tw_818 ts_15 tw_12 tk_Md_cut rfl rfl (by decide +kernel) ⟨(Nat.le_of_ble_eq_true rfl), (Nat.le_of_ble_eq_true rfl)⟩) ⟨ep_blind, va_recv (q0 := 0) (ci := 9) hK hP rfl rfl, ep_pre hKn (hP)⟩ rfl rfl hl.1 rfl (lv_room (Nat.le_of_ble_eq_true rfl)) d_Md_shift_132 ⟨Nat.zero_le _, Nat.zero_le _⟩) hS (fun q h => h) (fun H locs hsz9 hk1 hP1 hS => ?_)
            refine W.eq (g2 := F0 m 135 ls []) rfl ?_
            have hP : va_P D cls (wMo cI cJ cZ a 0 kn ((f_Mo_remember ed ct ti nm xa xb j).1) ((f_Mo_cut ((f_Mo_remember ed ct ti nm xa xb j).2.1) ((f_Mo_remember ed ct ti nm xa xb j).2.2.1) ((f_Mo_remember ed ct ti nm xa xb j).2.2.2.1) ((f_Mo_remember ed ct ti nm xa xb j).2.2.2.2.1) ((f_Mo_remember ed ct ti nm xa xb j).2.2.2.2.2) n j (((f_Mo_find ti n j t)).toNatClampNeg)).1) ((f_Mo_cut ((f_Mo_remember ed ct ti nm xa xb j).2.1) ((f_Mo_remember ed ct ti nm xa xb j).2.2.1) ((f_Mo_remember ed ct ti nm xa xb j).2.2.2.1) ((f_Mo_remember ed ct ti nm xa xb j).2.2.2.2.1) ((f_Mo_remember ed ct ti nm xa xb j).2.2.2.2.2) n j (((f_Mo_find ti n j t)).toNatClampNeg)).2.1) ((f_Mo_cut ((f_Mo_remember ed ct ti nm xa xb j).2.1) ((f_Mo_remember ed ct ti nm xa xb j).2.2.1) ((f_Mo_remember ed ct ti nm xa xb j).2.2.2.1) ((f_Mo_remember ed ct ti nm xa xb j).2.2.2.2.1) ((f_Mo_remember ed ct ti nm xa xb j).2.2.2.2.2) n j (((f_Mo_find ti n j t)).toNatClampNeg)).2.2.1) ((f_Mo_cut ((f_Mo_remember ed ct ti nm xa xb j).2.1) ((f_Mo_remember ed ct ti nm xa xb j).2.2.1) ((f_Mo_remember ed ct ti nm xa xb j).2.2.2.1) ((f_Mo_remember ed ct ti nm xa xb j).2.2.2.2.1) ((f_Mo_remember ed ct ti nm xa xb j).2.2.2.2.2) n j (((f_Mo_find ti n j t)).toNatClampNeg)).2.2.2.1) ((f_Mo_cut ((f_Mo_remember ed ct ti nm xa xb j).2.1) ((f_Mo_remember ed ct ti nm xa xb j).2.2.1) ((f_Mo_remember ed ct ti nm xa xb j).2.2.2.1) ((f_Mo_remember ed ct ti nm xa xb j).2.2.2.2.1) ((f_Mo_remember ed ct ti nm xa xb j).2.2.2.2.2) n j (((f_Mo_find ti n j t)).toNatClampNeg)).2.2.2.2) ma it vs se sm rs wk ors owk) H := hP1
            have hD : va_D (blk a 15) (wMo cI cJ cZ a 0 kn ((f_Mo_remember ed ct ti nm xa xb j).1) ((f_Mo_cut ((f_Mo_remember ed ct ti nm xa xb j).2.1) ((f_Mo_remember ed ct ti nm xa xb j).2.2.1) ((f_Mo_remember ed ct ti nm xa xb j).2.2.2.1) ((f_Mo_remember ed ct ti nm xa xb j).2.2.2.2.1) ((f_Mo_remember ed ct ti nm xa xb j).2.2.2.2.2) n j (((f_Mo_find ti n j t)).toNatClampNeg)).1) ((f_Mo_cut ((f_Mo_remember ed ct ti nm xa xb j).2.1) ((f_Mo_remember ed ct ti nm xa xb j).2.2.1) ((f_Mo_remember ed ct ti nm xa xb j).2.2.2.1) ((f_Mo_remember ed ct ti nm xa xb j).2.2.2.2.1) ((f_Mo_remember ed ct ti nm xa xb j).2.2.2.2.2) n j (((f_Mo_find ti n j t)).toNatClampNeg)).2.1) ((f_Mo_cut ((f_Mo_remember ed ct ti nm xa xb j).2.1) ((f_Mo_remember ed ct ti nm xa xb j).2.2.1) ((f_Mo_remember ed ct ti nm xa xb j).2.2.2.1) ((f_Mo_remember ed ct ti nm xa xb j).2.2.2.2.1) ((f_Mo_remember ed ct ti nm xa xb j).2.2.2.2.2) n j (((f_Mo_find ti n j t)).toNatClampNeg)).2.2.1) ((f_Mo_cut ((f_Mo_remember ed ct ti nm xa xb j).2.1) ((f_Mo_remember ed ct ti nm xa xb j).2.2.1) ((f_Mo_remember ed ct ti nm xa xb j).2.2.2.1) ((f_Mo_remember ed ct ti nm xa xb j).2.2.2.2.1) ((f_Mo_remember ed ct ti nm xa xb j).2.2.2.2.2) n j (((f_Mo_find ti n j t)).toNatClampNeg)).2.2.2.1) ((f_Mo_cut ((f_Mo_remember ed ct ti nm xa xb j).2.1) ((f_Mo_remember ed ct ti nm xa xb j).2.2.1) ((f_Mo_remember ed ct ti nm xa xb j).2.2.2.1) ((f_Mo_remember ed ct ti nm xa xb j).2.2.2.2.1) ((f_Mo_remember ed ct ti nm xa xb j).2.2.2.2.2) n j (((f_Mo_find ti n j t)).toNatClampNeg)).2.2.2.2) ma it vs se sm rs wk ors owk) := (blk_D (wMo_in))
            refine lv_aload_n hx hb d_Md_shift_135 rfl (lv_at hl 4 rfl) ?_
            refine lv_iload_n hx hb d_Md_shift_136 rfl (lv_at hl 5 rfl) ?_
            refine lv_iload_n hx hb d_Md_shift_137 rfl (lv_at hl 7 rfl) ?_
            refine lv_iload hx hb d_Md_shift_138 (lv_at hl 2 rfl) ?_
            refine lv_iload hx hb d_Md_shift_140 (lv_at hl 1 rfl) ?_
            refine lv_iload hx hb d_Md_shift_142 (lv_at hl 0 rfl) ?_
            refine ep_callH (W.runV (As := [.int (nI j), .int u, .int (((f_Mo_remember ed ct ti nm xa xb j).2.2.2.1) (32 * j + (((f_Mo_find ti n j t)).toNatClampNeg))), .int (((f_Mo_remember ed ct ti nm xa xb j).2.2.2.2.1) (32 * j + (((f_Mo_find ti n j t)).toNatClampNeg))), .int (((f_Mo_remember ed ct ti nm xa xb j).2.2.2.2.2) (32 * j + (((f_Mo_find ti n j t)).toNatClampNeg)))]) (rest := []) ⟨hx, hb, hml, hown, hg⟩ (m_Mo_insert l D cI cJ cZ cO a 0 kn ((f_Mo_remember ed ct ti nm xa xb j).1) ((f_Mo_cut ((f_Mo_remember ed ct ti nm xa xb j).2.1) ((f_Mo_remember ed ct ti nm xa xb j).2.2.1) ((f_Mo_remember ed ct ti nm xa xb j).2.2.2.1) ((f_Mo_remember ed ct ti nm xa xb j).2.2.2.2.1) ((f_Mo_remember ed ct ti nm xa xb j).2.2.2.2.2) n j (((f_Mo_find ti n j t)).toNatClampNeg)).1) ((f_Mo_cut ((f_Mo_remember ed ct ti nm xa xb j).2.1) ((f_Mo_remember ed ct ti nm xa xb j).2.2.1) ((f_Mo_remember ed ct ti nm xa xb j).2.2.2.1) ((f_Mo_remember ed ct ti nm xa xb j).2.2.2.2.1) ((f_Mo_remember ed ct ti nm xa xb j).2.2.2.2.2) n j (((f_Mo_find ti n j t)).toNatClampNeg)).2.1) ((f_Mo_cut ((f_Mo_remember ed ct ti nm xa xb j).2.1) ((f_Mo_remember ed ct ti nm xa xb j).2.2.1) ((f_Mo_remember ed ct ti nm xa xb j).2.2.2.1) ((f_Mo_remember ed ct ti nm xa xb j).2.2.2.2.1) ((f_Mo_remember ed ct ti nm xa xb j).2.2.2.2.2) n j (((f_Mo_find ti n j t)).toNatClampNeg)).2.2.1) ((f_Mo_cut ((f_Mo_remember ed ct ti nm xa xb j).2.1) ((f_Mo_remember ed ct ti nm xa xb j).2.2.1) ((f_Mo_remember ed ct ti nm xa xb j).2.2.2.1) ((f_Mo_remember ed ct ti nm xa xb j).2.2.2.2.1) ((f_Mo_remember ed ct ti nm xa xb j).2.2.2.2.2) n j (((f_Mo_find ti n j t)).toNatClampNeg)).2.2.2.1) ((f_Mo_cut ((f_Mo_remember ed ct ti nm xa xb j).2.1) ((f_Mo_remember ed ct ti nm xa xb j).2.2.1) ((f_Mo_remember ed ct ti nm xa xb j).2.2.2.1) ((f_Mo_remember ed ct ti nm xa xb j).2.2.2.2.1) ((f_Mo_remember ed ct ti nm xa xb j).2.2.2.2.2) n j (((f_Mo_find ti n j t)).toNatClampNeg)).2.2.2.2) ma it vs se sm rs wk ors owk (n - 1) j u (((f_Mo_remember ed ct ti nm xa xb j).2.2.2.1) (32 * j + (((f_Mo_find ti n j t)).toNatClampNeg))) (((f_Mo_remember ed ct ti nm xa xb j).2.2.2.2.1) (32 * j + (((f_Mo_find ti n j t)).toNatClampNeg))) (((f_Mo_remember ed ct ti nm xa xb j).2.2.2.2.2) (32 * j + (((f_Mo_find ti n j t)).toNatClampNeg))) (by omega) (cut_ct _ _ _ _ _ _ _ _) (by omega) _ rfl) (ep_cwV 5 hg tw_808 tw_810 ts_14 tw_12 tk_Md_insert rfl rfl (by decide +kernel) ⟨(Nat.le_of_ble_eq_true rfl), (Nat.le_of_ble_eq_true rfl)⟩) ⟨ep_blind, va_recv (q0 := 0) (ci := 9) hK hP rfl rfl, ep_pre hKn (hP)⟩ rfl rfl hl.1 rfl (lv_room (Nat.le_of_ble_eq_true rfl)) d_Md_shift_144 ⟨Nat.zero_le _, Nat.zero_le _⟩) hS (fun q h => h) (fun H locs hsz9 hk1 hP1 hS => ?_)
            refine W.eq (g2 := F0 m 147 ls []) rfl ?_
            have hP : va_P D cls (wMo cI cJ cZ a 0 kn ((f_Mo_remember ed ct ti nm xa xb j).1) ((f_Mo_insert ((f_Mo_cut ((f_Mo_remember ed ct ti nm xa xb j).2.1) ((f_Mo_remember ed ct ti nm xa xb j).2.2.1) ((f_Mo_remember ed ct ti nm xa xb j).2.2.2.1) ((f_Mo_remember ed ct ti nm xa xb j).2.2.2.2.1) ((f_Mo_remember ed ct ti nm xa xb j).2.2.2.2.2) n j (((f_Mo_find ti n j t)).toNatClampNeg)).1) ((f_Mo_cut ((f_Mo_remember ed ct ti nm xa xb j).2.1) ((f_Mo_remember ed ct ti nm xa xb j).2.2.1) ((f_Mo_remember ed ct ti nm xa xb j).2.2.2.1) ((f_Mo_remember ed ct ti nm xa xb j).2.2.2.2.1) ((f_Mo_remember ed ct ti nm xa xb j).2.2.2.2.2) n j (((f_Mo_find ti n j t)).toNatClampNeg)).2.1) ((f_Mo_cut ((f_Mo_remember ed ct ti nm xa xb j).2.1) ((f_Mo_remember ed ct ti nm xa xb j).2.2.1) ((f_Mo_remember ed ct ti nm xa xb j).2.2.2.1) ((f_Mo_remember ed ct ti nm xa xb j).2.2.2.2.1) ((f_Mo_remember ed ct ti nm xa xb j).2.2.2.2.2) n j (((f_Mo_find ti n j t)).toNatClampNeg)).2.2.1) ((f_Mo_cut ((f_Mo_remember ed ct ti nm xa xb j).2.1) ((f_Mo_remember ed ct ti nm xa xb j).2.2.1) ((f_Mo_remember ed ct ti nm xa xb j).2.2.2.1) ((f_Mo_remember ed ct ti nm xa xb j).2.2.2.2.1) ((f_Mo_remember ed ct ti nm xa xb j).2.2.2.2.2) n j (((f_Mo_find ti n j t)).toNatClampNeg)).2.2.2.1) ((f_Mo_cut ((f_Mo_remember ed ct ti nm xa xb j).2.1) ((f_Mo_remember ed ct ti nm xa xb j).2.2.1) ((f_Mo_remember ed ct ti nm xa xb j).2.2.2.1) ((f_Mo_remember ed ct ti nm xa xb j).2.2.2.2.1) ((f_Mo_remember ed ct ti nm xa xb j).2.2.2.2.2) n j (((f_Mo_find ti n j t)).toNatClampNeg)).2.2.2.2) (n - 1) j u (((f_Mo_remember ed ct ti nm xa xb j).2.2.2.1) (32 * j + (((f_Mo_find ti n j t)).toNatClampNeg))) (((f_Mo_remember ed ct ti nm xa xb j).2.2.2.2.1) (32 * j + (((f_Mo_find ti n j t)).toNatClampNeg))) (((f_Mo_remember ed ct ti nm xa xb j).2.2.2.2.2) (32 * j + (((f_Mo_find ti n j t)).toNatClampNeg)))).1) ((f_Mo_insert ((f_Mo_cut ((f_Mo_remember ed ct ti nm xa xb j).2.1) ((f_Mo_remember ed ct ti nm xa xb j).2.2.1) ((f_Mo_remember ed ct ti nm xa xb j).2.2.2.1) ((f_Mo_remember ed ct ti nm xa xb j).2.2.2.2.1) ((f_Mo_remember ed ct ti nm xa xb j).2.2.2.2.2) n j (((f_Mo_find ti n j t)).toNatClampNeg)).1) ((f_Mo_cut ((f_Mo_remember ed ct ti nm xa xb j).2.1) ((f_Mo_remember ed ct ti nm xa xb j).2.2.1) ((f_Mo_remember ed ct ti nm xa xb j).2.2.2.1) ((f_Mo_remember ed ct ti nm xa xb j).2.2.2.2.1) ((f_Mo_remember ed ct ti nm xa xb j).2.2.2.2.2) n j (((f_Mo_find ti n j t)).toNatClampNeg)).2.1) ((f_Mo_cut ((f_Mo_remember ed ct ti nm xa xb j).2.1) ((f_Mo_remember ed ct ti nm xa xb j).2.2.1) ((f_Mo_remember ed ct ti nm xa xb j).2.2.2.1) ((f_Mo_remember ed ct ti nm xa xb j).2.2.2.2.1) ((f_Mo_remember ed ct ti nm xa xb j).2.2.2.2.2) n j (((f_Mo_find ti n j t)).toNatClampNeg)).2.2.1) ((f_Mo_cut ((f_Mo_remember ed ct ti nm xa xb j).2.1) ((f_Mo_remember ed ct ti nm xa xb j).2.2.1) ((f_Mo_remember ed ct ti nm xa xb j).2.2.2.1) ((f_Mo_remember ed ct ti nm xa xb j).2.2.2.2.1) ((f_Mo_remember ed ct ti nm xa xb j).2.2.2.2.2) n j (((f_Mo_find ti n j t)).toNatClampNeg)).2.2.2.1) ((f_Mo_cut ((f_Mo_remember ed ct ti nm xa xb j).2.1) ((f_Mo_remember ed ct ti nm xa xb j).2.2.1) ((f_Mo_remember ed ct ti nm xa xb j).2.2.2.1) ((f_Mo_remember ed ct ti nm xa xb j).2.2.2.2.1) ((f_Mo_remember ed ct ti nm xa xb j).2.2.2.2.2) n j (((f_Mo_find ti n j t)).toNatClampNeg)).2.2.2.2) (n - 1) j u (((f_Mo_remember ed ct ti nm xa xb j).2.2.2.1) (32 * j + (((f_Mo_find ti n j t)).toNatClampNeg))) (((f_Mo_remember ed ct ti nm xa xb j).2.2.2.2.1) (32 * j + (((f_Mo_find ti n j t)).toNatClampNeg))) (((f_Mo_remember ed ct ti nm xa xb j).2.2.2.2.2) (32 * j + (((f_Mo_find ti n j t)).toNatClampNeg)))).2.1) ((f_Mo_insert ((f_Mo_cut ((f_Mo_remember ed ct ti nm xa xb j).2.1) ((f_Mo_remember ed ct ti nm xa xb j).2.2.1) ((f_Mo_remember ed ct ti nm xa xb j).2.2.2.1) ((f_Mo_remember ed ct ti nm xa xb j).2.2.2.2.1) ((f_Mo_remember ed ct ti nm xa xb j).2.2.2.2.2) n j (((f_Mo_find ti n j t)).toNatClampNeg)).1) ((f_Mo_cut ((f_Mo_remember ed ct ti nm xa xb j).2.1) ((f_Mo_remember ed ct ti nm xa xb j).2.2.1) ((f_Mo_remember ed ct ti nm xa xb j).2.2.2.1) ((f_Mo_remember ed ct ti nm xa xb j).2.2.2.2.1) ((f_Mo_remember ed ct ti nm xa xb j).2.2.2.2.2) n j (((f_Mo_find ti n j t)).toNatClampNeg)).2.1) ((f_Mo_cut ((f_Mo_remember ed ct ti nm xa xb j).2.1) ((f_Mo_remember ed ct ti nm xa xb j).2.2.1) ((f_Mo_remember ed ct ti nm xa xb j).2.2.2.1) ((f_Mo_remember ed ct ti nm xa xb j).2.2.2.2.1) ((f_Mo_remember ed ct ti nm xa xb j).2.2.2.2.2) n j (((f_Mo_find ti n j t)).toNatClampNeg)).2.2.1) ((f_Mo_cut ((f_Mo_remember ed ct ti nm xa xb j).2.1) ((f_Mo_remember ed ct ti nm xa xb j).2.2.1) ((f_Mo_remember ed ct ti nm xa xb j).2.2.2.1) ((f_Mo_remember ed ct ti nm xa xb j).2.2.2.2.1) ((f_Mo_remember ed ct ti nm xa xb j).2.2.2.2.2) n j (((f_Mo_find ti n j t)).toNatClampNeg)).2.2.2.1) ((f_Mo_cut ((f_Mo_remember ed ct ti nm xa xb j).2.1) ((f_Mo_remember ed ct ti nm xa xb j).2.2.1) ((f_Mo_remember ed ct ti nm xa xb j).2.2.2.1) ((f_Mo_remember ed ct ti nm xa xb j).2.2.2.2.1) ((f_Mo_remember ed ct ti nm xa xb j).2.2.2.2.2) n j (((f_Mo_find ti n j t)).toNatClampNeg)).2.2.2.2) (n - 1) j u (((f_Mo_remember ed ct ti nm xa xb j).2.2.2.1) (32 * j + (((f_Mo_find ti n j t)).toNatClampNeg))) (((f_Mo_remember ed ct ti nm xa xb j).2.2.2.2.1) (32 * j + (((f_Mo_find ti n j t)).toNatClampNeg))) (((f_Mo_remember ed ct ti nm xa xb j).2.2.2.2.2) (32 * j + (((f_Mo_find ti n j t)).toNatClampNeg)))).2.2.1) ((f_Mo_insert ((f_Mo_cut ((f_Mo_remember ed ct ti nm xa xb j).2.1) ((f_Mo_remember ed ct ti nm xa xb j).2.2.1) ((f_Mo_remember ed ct ti nm xa xb j).2.2.2.1) ((f_Mo_remember ed ct ti nm xa xb j).2.2.2.2.1) ((f_Mo_remember ed ct ti nm xa xb j).2.2.2.2.2) n j (((f_Mo_find ti n j t)).toNatClampNeg)).1) ((f_Mo_cut ((f_Mo_remember ed ct ti nm xa xb j).2.1) ((f_Mo_remember ed ct ti nm xa xb j).2.2.1) ((f_Mo_remember ed ct ti nm xa xb j).2.2.2.1) ((f_Mo_remember ed ct ti nm xa xb j).2.2.2.2.1) ((f_Mo_remember ed ct ti nm xa xb j).2.2.2.2.2) n j (((f_Mo_find ti n j t)).toNatClampNeg)).2.1) ((f_Mo_cut ((f_Mo_remember ed ct ti nm xa xb j).2.1) ((f_Mo_remember ed ct ti nm xa xb j).2.2.1) ((f_Mo_remember ed ct ti nm xa xb j).2.2.2.1) ((f_Mo_remember ed ct ti nm xa xb j).2.2.2.2.1) ((f_Mo_remember ed ct ti nm xa xb j).2.2.2.2.2) n j (((f_Mo_find ti n j t)).toNatClampNeg)).2.2.1) ((f_Mo_cut ((f_Mo_remember ed ct ti nm xa xb j).2.1) ((f_Mo_remember ed ct ti nm xa xb j).2.2.1) ((f_Mo_remember ed ct ti nm xa xb j).2.2.2.1) ((f_Mo_remember ed ct ti nm xa xb j).2.2.2.2.1) ((f_Mo_remember ed ct ti nm xa xb j).2.2.2.2.2) n j (((f_Mo_find ti n j t)).toNatClampNeg)).2.2.2.1) ((f_Mo_cut ((f_Mo_remember ed ct ti nm xa xb j).2.1) ((f_Mo_remember ed ct ti nm xa xb j).2.2.1) ((f_Mo_remember ed ct ti nm xa xb j).2.2.2.1) ((f_Mo_remember ed ct ti nm xa xb j).2.2.2.2.1) ((f_Mo_remember ed ct ti nm xa xb j).2.2.2.2.2) n j (((f_Mo_find ti n j t)).toNatClampNeg)).2.2.2.2) (n - 1) j u (((f_Mo_remember ed ct ti nm xa xb j).2.2.2.1) (32 * j + (((f_Mo_find ti n j t)).toNatClampNeg))) (((f_Mo_remember ed ct ti nm xa xb j).2.2.2.2.1) (32 * j + (((f_Mo_find ti n j t)).toNatClampNeg))) (((f_Mo_remember ed ct ti nm xa xb j).2.2.2.2.2) (32 * j + (((f_Mo_find ti n j t)).toNatClampNeg)))).2.2.2.1) ((f_Mo_insert ((f_Mo_cut ((f_Mo_remember ed ct ti nm xa xb j).2.1) ((f_Mo_remember ed ct ti nm xa xb j).2.2.1) ((f_Mo_remember ed ct ti nm xa xb j).2.2.2.1) ((f_Mo_remember ed ct ti nm xa xb j).2.2.2.2.1) ((f_Mo_remember ed ct ti nm xa xb j).2.2.2.2.2) n j (((f_Mo_find ti n j t)).toNatClampNeg)).1) ((f_Mo_cut ((f_Mo_remember ed ct ti nm xa xb j).2.1) ((f_Mo_remember ed ct ti nm xa xb j).2.2.1) ((f_Mo_remember ed ct ti nm xa xb j).2.2.2.1) ((f_Mo_remember ed ct ti nm xa xb j).2.2.2.2.1) ((f_Mo_remember ed ct ti nm xa xb j).2.2.2.2.2) n j (((f_Mo_find ti n j t)).toNatClampNeg)).2.1) ((f_Mo_cut ((f_Mo_remember ed ct ti nm xa xb j).2.1) ((f_Mo_remember ed ct ti nm xa xb j).2.2.1) ((f_Mo_remember ed ct ti nm xa xb j).2.2.2.1) ((f_Mo_remember ed ct ti nm xa xb j).2.2.2.2.1) ((f_Mo_remember ed ct ti nm xa xb j).2.2.2.2.2) n j (((f_Mo_find ti n j t)).toNatClampNeg)).2.2.1) ((f_Mo_cut ((f_Mo_remember ed ct ti nm xa xb j).2.1) ((f_Mo_remember ed ct ti nm xa xb j).2.2.1) ((f_Mo_remember ed ct ti nm xa xb j).2.2.2.1) ((f_Mo_remember ed ct ti nm xa xb j).2.2.2.2.1) ((f_Mo_remember ed ct ti nm xa xb j).2.2.2.2.2) n j (((f_Mo_find ti n j t)).toNatClampNeg)).2.2.2.1) ((f_Mo_cut ((f_Mo_remember ed ct ti nm xa xb j).2.1) ((f_Mo_remember ed ct ti nm xa xb j).2.2.1) ((f_Mo_remember ed ct ti nm xa xb j).2.2.2.1) ((f_Mo_remember ed ct ti nm xa xb j).2.2.2.2.1) ((f_Mo_remember ed ct ti nm xa xb j).2.2.2.2.2) n j (((f_Mo_find ti n j t)).toNatClampNeg)).2.2.2.2) (n - 1) j u (((f_Mo_remember ed ct ti nm xa xb j).2.2.2.1) (32 * j + (((f_Mo_find ti n j t)).toNatClampNeg))) (((f_Mo_remember ed ct ti nm xa xb j).2.2.2.2.1) (32 * j + (((f_Mo_find ti n j t)).toNatClampNeg))) (((f_Mo_remember ed ct ti nm xa xb j).2.2.2.2.2) (32 * j + (((f_Mo_find ti n j t)).toNatClampNeg)))).2.2.2.2) ma it vs se sm rs wk ors owk) H := hP1
            have hD : va_D (blk a 15) (wMo cI cJ cZ a 0 kn ((f_Mo_remember ed ct ti nm xa xb j).1) ((f_Mo_insert ((f_Mo_cut ((f_Mo_remember ed ct ti nm xa xb j).2.1) ((f_Mo_remember ed ct ti nm xa xb j).2.2.1) ((f_Mo_remember ed ct ti nm xa xb j).2.2.2.1) ((f_Mo_remember ed ct ti nm xa xb j).2.2.2.2.1) ((f_Mo_remember ed ct ti nm xa xb j).2.2.2.2.2) n j (((f_Mo_find ti n j t)).toNatClampNeg)).1) ((f_Mo_cut ((f_Mo_remember ed ct ti nm xa xb j).2.1) ((f_Mo_remember ed ct ti nm xa xb j).2.2.1) ((f_Mo_remember ed ct ti nm xa xb j).2.2.2.1) ((f_Mo_remember ed ct ti nm xa xb j).2.2.2.2.1) ((f_Mo_remember ed ct ti nm xa xb j).2.2.2.2.2) n j (((f_Mo_find ti n j t)).toNatClampNeg)).2.1) ((f_Mo_cut ((f_Mo_remember ed ct ti nm xa xb j).2.1) ((f_Mo_remember ed ct ti nm xa xb j).2.2.1) ((f_Mo_remember ed ct ti nm xa xb j).2.2.2.1) ((f_Mo_remember ed ct ti nm xa xb j).2.2.2.2.1) ((f_Mo_remember ed ct ti nm xa xb j).2.2.2.2.2) n j (((f_Mo_find ti n j t)).toNatClampNeg)).2.2.1) ((f_Mo_cut ((f_Mo_remember ed ct ti nm xa xb j).2.1) ((f_Mo_remember ed ct ti nm xa xb j).2.2.1) ((f_Mo_remember ed ct ti nm xa xb j).2.2.2.1) ((f_Mo_remember ed ct ti nm xa xb j).2.2.2.2.1) ((f_Mo_remember ed ct ti nm xa xb j).2.2.2.2.2) n j (((f_Mo_find ti n j t)).toNatClampNeg)).2.2.2.1) ((f_Mo_cut ((f_Mo_remember ed ct ti nm xa xb j).2.1) ((f_Mo_remember ed ct ti nm xa xb j).2.2.1) ((f_Mo_remember ed ct ti nm xa xb j).2.2.2.1) ((f_Mo_remember ed ct ti nm xa xb j).2.2.2.2.1) ((f_Mo_remember ed ct ti nm xa xb j).2.2.2.2.2) n j (((f_Mo_find ti n j t)).toNatClampNeg)).2.2.2.2) (n - 1) j u (((f_Mo_remember ed ct ti nm xa xb j).2.2.2.1) (32 * j + (((f_Mo_find ti n j t)).toNatClampNeg))) (((f_Mo_remember ed ct ti nm xa xb j).2.2.2.2.1) (32 * j + (((f_Mo_find ti n j t)).toNatClampNeg))) (((f_Mo_remember ed ct ti nm xa xb j).2.2.2.2.2) (32 * j + (((f_Mo_find ti n j t)).toNatClampNeg)))).1) ((f_Mo_insert ((f_Mo_cut ((f_Mo_remember ed ct ti nm xa xb j).2.1) ((f_Mo_remember ed ct ti nm xa xb j).2.2.1) ((f_Mo_remember ed ct ti nm xa xb j).2.2.2.1) ((f_Mo_remember ed ct ti nm xa xb j).2.2.2.2.1) ((f_Mo_remember ed ct ti nm xa xb j).2.2.2.2.2) n j (((f_Mo_find ti n j t)).toNatClampNeg)).1) ((f_Mo_cut ((f_Mo_remember ed ct ti nm xa xb j).2.1) ((f_Mo_remember ed ct ti nm xa xb j).2.2.1) ((f_Mo_remember ed ct ti nm xa xb j).2.2.2.1) ((f_Mo_remember ed ct ti nm xa xb j).2.2.2.2.1) ((f_Mo_remember ed ct ti nm xa xb j).2.2.2.2.2) n j (((f_Mo_find ti n j t)).toNatClampNeg)).2.1) ((f_Mo_cut ((f_Mo_remember ed ct ti nm xa xb j).2.1) ((f_Mo_remember ed ct ti nm xa xb j).2.2.1) ((f_Mo_remember ed ct ti nm xa xb j).2.2.2.1) ((f_Mo_remember ed ct ti nm xa xb j).2.2.2.2.1) ((f_Mo_remember ed ct ti nm xa xb j).2.2.2.2.2) n j (((f_Mo_find ti n j t)).toNatClampNeg)).2.2.1) ((f_Mo_cut ((f_Mo_remember ed ct ti nm xa xb j).2.1) ((f_Mo_remember ed ct ti nm xa xb j).2.2.1) ((f_Mo_remember ed ct ti nm xa xb j).2.2.2.1) ((f_Mo_remember ed ct ti nm xa xb j).2.2.2.2.1) ((f_Mo_remember ed ct ti nm xa xb j).2.2.2.2.2) n j (((f_Mo_find ti n j t)).toNatClampNeg)).2.2.2.1) ((f_Mo_cut ((f_Mo_remember ed ct ti nm xa xb j).2.1) ((f_Mo_remember ed ct ti nm xa xb j).2.2.1) ((f_Mo_remember ed ct ti nm xa xb j).2.2.2.1) ((f_Mo_remember ed ct ti nm xa xb j).2.2.2.2.1) ((f_Mo_remember ed ct ti nm xa xb j).2.2.2.2.2) n j (((f_Mo_find ti n j t)).toNatClampNeg)).2.2.2.2) (n - 1) j u (((f_Mo_remember ed ct ti nm xa xb j).2.2.2.1) (32 * j + (((f_Mo_find ti n j t)).toNatClampNeg))) (((f_Mo_remember ed ct ti nm xa xb j).2.2.2.2.1) (32 * j + (((f_Mo_find ti n j t)).toNatClampNeg))) (((f_Mo_remember ed ct ti nm xa xb j).2.2.2.2.2) (32 * j + (((f_Mo_find ti n j t)).toNatClampNeg)))).2.1) ((f_Mo_insert ((f_Mo_cut ((f_Mo_remember ed ct ti nm xa xb j).2.1) ((f_Mo_remember ed ct ti nm xa xb j).2.2.1) ((f_Mo_remember ed ct ti nm xa xb j).2.2.2.1) ((f_Mo_remember ed ct ti nm xa xb j).2.2.2.2.1) ((f_Mo_remember ed ct ti nm xa xb j).2.2.2.2.2) n j (((f_Mo_find ti n j t)).toNatClampNeg)).1) ((f_Mo_cut ((f_Mo_remember ed ct ti nm xa xb j).2.1) ((f_Mo_remember ed ct ti nm xa xb j).2.2.1) ((f_Mo_remember ed ct ti nm xa xb j).2.2.2.1) ((f_Mo_remember ed ct ti nm xa xb j).2.2.2.2.1) ((f_Mo_remember ed ct ti nm xa xb j).2.2.2.2.2) n j (((f_Mo_find ti n j t)).toNatClampNeg)).2.1) ((f_Mo_cut ((f_Mo_remember ed ct ti nm xa xb j).2.1) ((f_Mo_remember ed ct ti nm xa xb j).2.2.1) ((f_Mo_remember ed ct ti nm xa xb j).2.2.2.1) ((f_Mo_remember ed ct ti nm xa xb j).2.2.2.2.1) ((f_Mo_remember ed ct ti nm xa xb j).2.2.2.2.2) n j (((f_Mo_find ti n j t)).toNatClampNeg)).2.2.1) ((f_Mo_cut ((f_Mo_remember ed ct ti nm xa xb j).2.1) ((f_Mo_remember ed ct ti nm xa xb j).2.2.1) ((f_Mo_remember ed ct ti nm xa xb j).2.2.2.1) ((f_Mo_remember ed ct ti nm xa xb j).2.2.2.2.1) ((f_Mo_remember ed ct ti nm xa xb j).2.2.2.2.2) n j (((f_Mo_find ti n j t)).toNatClampNeg)).2.2.2.1) ((f_Mo_cut ((f_Mo_remember ed ct ti nm xa xb j).2.1) ((f_Mo_remember ed ct ti nm xa xb j).2.2.1) ((f_Mo_remember ed ct ti nm xa xb j).2.2.2.1) ((f_Mo_remember ed ct ti nm xa xb j).2.2.2.2.1) ((f_Mo_remember ed ct ti nm xa xb j).2.2.2.2.2) n j (((f_Mo_find ti n j t)).toNatClampNeg)).2.2.2.2) (n - 1) j u (((f_Mo_remember ed ct ti nm xa xb j).2.2.2.1) (32 * j + (((f_Mo_find ti n j t)).toNatClampNeg))) (((f_Mo_remember ed ct ti nm xa xb j).2.2.2.2.1) (32 * j + (((f_Mo_find ti n j t)).toNatClampNeg))) (((f_Mo_remember ed ct ti nm xa xb j).2.2.2.2.2) (32 * j + (((f_Mo_find ti n j t)).toNatClampNeg)))).2.2.1) ((f_Mo_insert ((f_Mo_cut ((f_Mo_remember ed ct ti nm xa xb j).2.1) ((f_Mo_remember ed ct ti nm xa xb j).2.2.1) ((f_Mo_remember ed ct ti nm xa xb j).2.2.2.1) ((f_Mo_remember ed ct ti nm xa xb j).2.2.2.2.1) ((f_Mo_remember ed ct ti nm xa xb j).2.2.2.2.2) n j (((f_Mo_find ti n j t)).toNatClampNeg)).1) ((f_Mo_cut ((f_Mo_remember ed ct ti nm xa xb j).2.1) ((f_Mo_remember ed ct ti nm xa xb j).2.2.1) ((f_Mo_remember ed ct ti nm xa xb j).2.2.2.1) ((f_Mo_remember ed ct ti nm xa xb j).2.2.2.2.1) ((f_Mo_remember ed ct ti nm xa xb j).2.2.2.2.2) n j (((f_Mo_find ti n j t)).toNatClampNeg)).2.1) ((f_Mo_cut ((f_Mo_remember ed ct ti nm xa xb j).2.1) ((f_Mo_remember ed ct ti nm xa xb j).2.2.1) ((f_Mo_remember ed ct ti nm xa xb j).2.2.2.1) ((f_Mo_remember ed ct ti nm xa xb j).2.2.2.2.1) ((f_Mo_remember ed ct ti nm xa xb j).2.2.2.2.2) n j (((f_Mo_find ti n j t)).toNatClampNeg)).2.2.1) ((f_Mo_cut ((f_Mo_remember ed ct ti nm xa xb j).2.1) ((f_Mo_remember ed ct ti nm xa xb j).2.2.1) ((f_Mo_remember ed ct ti nm xa xb j).2.2.2.1) ((f_Mo_remember ed ct ti nm xa xb j).2.2.2.2.1) ((f_Mo_remember ed ct ti nm xa xb j).2.2.2.2.2) n j (((f_Mo_find ti n j t)).toNatClampNeg)).2.2.2.1) ((f_Mo_cut ((f_Mo_remember ed ct ti nm xa xb j).2.1) ((f_Mo_remember ed ct ti nm xa xb j).2.2.1) ((f_Mo_remember ed ct ti nm xa xb j).2.2.2.1) ((f_Mo_remember ed ct ti nm xa xb j).2.2.2.2.1) ((f_Mo_remember ed ct ti nm xa xb j).2.2.2.2.2) n j (((f_Mo_find ti n j t)).toNatClampNeg)).2.2.2.2) (n - 1) j u (((f_Mo_remember ed ct ti nm xa xb j).2.2.2.1) (32 * j + (((f_Mo_find ti n j t)).toNatClampNeg))) (((f_Mo_remember ed ct ti nm xa xb j).2.2.2.2.1) (32 * j + (((f_Mo_find ti n j t)).toNatClampNeg))) (((f_Mo_remember ed ct ti nm xa xb j).2.2.2.2.2) (32 * j + (((f_Mo_find ti n j t)).toNatClampNeg)))).2.2.2.1) ((f_Mo_insert ((f_Mo_cut ((f_Mo_remember ed ct ti nm xa xb j).2.1) ((f_Mo_remember ed ct ti nm xa xb j).2.2.1) ((f_Mo_remember ed ct ti nm xa xb j).2.2.2.1) ((f_Mo_remember ed ct ti nm xa xb j).2.2.2.2.1) ((f_Mo_remember ed ct ti nm xa xb j).2.2.2.2.2) n j (((f_Mo_find ti n j t)).toNatClampNeg)).1) ((f_Mo_cut ((f_Mo_remember ed ct ti nm xa xb j).2.1) ((f_Mo_remember ed ct ti nm xa xb j).2.2.1) ((f_Mo_remember ed ct ti nm xa xb j).2.2.2.1) ((f_Mo_remember ed ct ti nm xa xb j).2.2.2.2.1) ((f_Mo_remember ed ct ti nm xa xb j).2.2.2.2.2) n j (((f_Mo_find ti n j t)).toNatClampNeg)).2.1) ((f_Mo_cut ((f_Mo_remember ed ct ti nm xa xb j).2.1) ((f_Mo_remember ed ct ti nm xa xb j).2.2.1) ((f_Mo_remember ed ct ti nm xa xb j).2.2.2.1) ((f_Mo_remember ed ct ti nm xa xb j).2.2.2.2.1) ((f_Mo_remember ed ct ti nm xa xb j).2.2.2.2.2) n j (((f_Mo_find ti n j t)).toNatClampNeg)).2.2.1) ((f_Mo_cut ((f_Mo_remember ed ct ti nm xa xb j).2.1) ((f_Mo_remember ed ct ti nm xa xb j).2.2.1) ((f_Mo_remember ed ct ti nm xa xb j).2.2.2.1) ((f_Mo_remember ed ct ti nm xa xb j).2.2.2.2.1) ((f_Mo_remember ed ct ti nm xa xb j).2.2.2.2.2) n j (((f_Mo_find ti n j t)).toNatClampNeg)).2.2.2.1) ((f_Mo_cut ((f_Mo_remember ed ct ti nm xa xb j).2.1) ((f_Mo_remember ed ct ti nm xa xb j).2.2.1) ((f_Mo_remember ed ct ti nm xa xb j).2.2.2.1) ((f_Mo_remember ed ct ti nm xa xb j).2.2.2.2.1) ((f_Mo_remember ed ct ti nm xa xb j).2.2.2.2.2) n j (((f_Mo_find ti n j t)).toNatClampNeg)).2.2.2.2) (n - 1) j u (((f_Mo_remember ed ct ti nm xa xb j).2.2.2.1) (32 * j + (((f_Mo_find ti n j t)).toNatClampNeg))) (((f_Mo_remember ed ct ti nm xa xb j).2.2.2.2.1) (32 * j + (((f_Mo_find ti n j t)).toNatClampNeg))) (((f_Mo_remember ed ct ti nm xa xb j).2.2.2.2.2) (32 * j + (((f_Mo_find ti n j t)).toNatClampNeg)))).2.2.2.2) ma it vs se sm rs wk ors owk) := (blk_D (wMo_in))
            rw [if_pos hc1, if_pos hc2, if_neg hc3, if_neg hc4, if_pos hc5] at hR
            subst hR
            exact W.vret hx hb hr (fun t9 ht hW => ⟨rfl, hS.F ht, by rw [ht]; exact hP⟩) hS.2.2 d_Md_shift_147
          · rw [show oI (¬ (f_Mo_find ti n j t) = -1) ((f_Mo_find ti n j t).toNatClampNeg) = -1 from if_neg hc5]
            refine lv_if_ge (tgt := 61) hx hb d_Md_shift_54 (by decide) (fun hc => False.elim (by revert hc; decide)) (fun hc => ?_)
            refine lv_iconst (v := 3) hx hb d_Md_shift_57 (by decide) ?_
            refine lv_goto (tgt := 62) hx hb d_Md_shift_58 (by decide) ?_
            refine va_put (D := D) (ci := 9) (v := .int 3) (ty := .int) (C := R_Md) (T := F_Md) (N := 17) hx hb hg in_Md t_Md t_Md_ok n_Md hown hK hP hD hS 0 rfl rfl 0 (Nat.le_of_ble_eq_true rfl) (hg _ tw_706) (fun _ h9 => h9) rfl (by decide +kernel) rfl rfl (Nat.le_of_ble_eq_true rfl) d_Md_shift_62 (fun H locs hP hD hS => ?_)
            have hP : va_P D cls (wMo cI cJ cZ a 3 kn ed ct ti nm xa xb ma it vs se sm rs wk ors owk) H := hP
            have hD : va_D (blk a 15) (wMo cI cJ cZ a 3 kn ed ct ti nm xa xb ma it vs se sm rs wk ors owk) := hD
            refine lv_aload_n hx hb d_Md_shift_65 rfl (lv_at hl 0 rfl) ?_
            refine va_get (D := D) (ci := 9) (v := .int 3) (C := R_Md) (T := F_Md) (N := 17) hx hb hg in_Md hown hK hP 0 rfl rfl 0 (Nat.le_of_ble_eq_true rfl) (hg _ tw_706) (fun _ h9 => h9) rfl d_Md_shift_66 ?_
            refine lv_if_le (tgt := 73) hx hb d_Md_shift_69 (by decide) (fun hc => False.elim (by revert hc; decide)) (fun hc => ?_)
            rw [if_pos hc1, if_pos hc2, if_neg hc3, if_neg hc4, if_neg hc5] at hR
            subst hR
            exact W.vret hx hb hr (fun t9 ht hW => ⟨rfl, hS.F ht, by rw [ht]; exact hP⟩) hS.2.2 d_Md_shift_72
    · rw [show bI (okM u) = 0 from if_neg hc2]
      refine lv_if_ne (tgt := 26) hx hb d_Md_shift_19 (by decide) (fun hc => False.elim (by revert hc; decide)) (fun hc => ?_)
      refine lv_iconst (v := 1) hx hb d_Md_shift_22 (by decide) ?_
      refine lv_goto (tgt := 62) hx hb d_Md_shift_23 (by decide) ?_
      refine va_put (D := D) (ci := 9) (v := .int 1) (ty := .int) (C := R_Md) (T := F_Md) (N := 17) hx hb hg in_Md t_Md t_Md_ok n_Md hown hK hP hD hS 0 rfl rfl 0 (Nat.le_of_ble_eq_true rfl) (hg _ tw_706) (fun _ h9 => h9) rfl (by decide +kernel) rfl rfl (Nat.le_of_ble_eq_true rfl) d_Md_shift_62 (fun H locs hP hD hS => ?_)
      have hP : va_P D cls (wMo cI cJ cZ a 1 kn ed ct ti nm xa xb ma it vs se sm rs wk ors owk) H := hP
      have hD : va_D (blk a 15) (wMo cI cJ cZ a 1 kn ed ct ti nm xa xb ma it vs se sm rs wk ors owk) := hD
      refine lv_aload_n hx hb d_Md_shift_65 rfl (lv_at hl 0 rfl) ?_
      refine va_get (D := D) (ci := 9) (v := .int 1) (C := R_Md) (T := F_Md) (N := 17) hx hb hg in_Md hown hK hP 0 rfl rfl 0 (Nat.le_of_ble_eq_true rfl) (hg _ tw_706) (fun _ h9 => h9) rfl d_Md_shift_66 ?_
      refine lv_if_le (tgt := 73) hx hb d_Md_shift_69 (by decide) (fun hc => False.elim (by revert hc; decide)) (fun hc => ?_)
      rw [if_pos hc1, if_neg hc2] at hR
      subst hR
      exact W.vret hx hb hr (fun t9 ht hW => ⟨rfl, hS.F ht, by rw [ht]; exact hP⟩) hS.2.2 d_Md_shift_72
  · rw [show bI (okM t) = 0 from if_neg hc1]
    refine lv_if_eq (tgt := 22) hx hb d_Md_shift_12 (by decide) (fun hc => ?_) (fun hc => False.elim (by revert hc; decide))
    refine lv_iconst (v := 1) hx hb d_Md_shift_22 (by decide) ?_
    refine lv_goto (tgt := 62) hx hb d_Md_shift_23 (by decide) ?_
    refine va_put (D := D) (ci := 9) (v := .int 1) (ty := .int) (C := R_Md) (T := F_Md) (N := 17) hx hb hg in_Md t_Md t_Md_ok n_Md hown hK hP hD hS 0 rfl rfl 0 (Nat.le_of_ble_eq_true rfl) (hg _ tw_706) (fun _ h9 => h9) rfl (by decide +kernel) rfl rfl (Nat.le_of_ble_eq_true rfl) d_Md_shift_62 (fun H locs hP hD hS => ?_)
    have hP : va_P D cls (wMo cI cJ cZ a 1 kn ed ct ti nm xa xb ma it vs se sm rs wk ors owk) H := hP
    have hD : va_D (blk a 15) (wMo cI cJ cZ a 1 kn ed ct ti nm xa xb ma it vs se sm rs wk ors owk) := hD
    refine lv_aload_n hx hb d_Md_shift_65 rfl (lv_at hl 0 rfl) ?_
    refine va_get (D := D) (ci := 9) (v := .int 1) (C := R_Md) (T := F_Md) (N := 17) hx hb hg in_Md hown hK hP 0 rfl rfl 0 (Nat.le_of_ble_eq_true rfl) (hg _ tw_706) (fun _ h9 => h9) rfl d_Md_shift_66 ?_
    refine lv_if_le (tgt := 73) hx hb d_Md_shift_69 (by decide) (fun hc => False.elim (by revert hc; decide)) (fun hc => ?_)
    rw [if_neg hc1] at hR
    subst hR
    exact W.vret hx hb hr (fun t9 ht hW => ⟨rfl, hS.F ht, by rw [ht]; exact hP⟩) hS.2.2 d_Md_shift_72

def f_Mo_operation_b  : Unit := ()
set_option maxHeartbeats 4000000 in
set_option maxRecDepth 100000 in
theorem m_Mo_operation_b (l : Launch) (D : va_G) (cI cJ cZ cO : ClassId) (a : Nat) (code : Int32) (kn : Nat → Int32) (ed : Nat → Int32) (ct : Nat → Int32) (ti : Nat → Int32) (nm : Nat → Int32) (xa : Nat → Int32) (xb : Nat → Int32) (ma : Int32) (it : Nat → Int32) (vs : Nat → Int32) (se : Nat → Int32) (sm : Int64) (rs : Nat → Int64) (wk : Nat → Int32) (ors : Nat → Int64) (owk : Nat → Int32) (id : Int32) (i : Int32) (f : Int32) (hid : ¬ okI id) (R : Unit) (hR : f_Mo_operation_b = R) : Met l y_Md_operation (k_Md_operation :: gt) rm_Md_operation (Pc0 D cI cJ cZ cO [.ref a, .int id, .int i, .int f] (fun H => va_P D cls (wMo cI cJ cZ a code kn ed ct ti nm xa xb ma it vs se sm rs wk ors owk) H)) (Qd (blk a 15) (some (.int 0)) (fun H => va_P D cls (wMo cI cJ cZ a 1 kn ed ct ti nm xa xb ma it vs se sm rs wk ors owk) H)) 0 0 (blk a 15) := by
  refine Met.ofW (cc := c_Md_operation) (maxL := 5) (ret := (Option.some FieldType.int)) (by decide) rfl ?_
  intro p e s m args below meth c s₁ B hml hv
  obtain ⟨rfl, hKn, hP⟩ := hv
  have hx := B.exec
  have hb := B.bytes
  have hr := B.returns
  have hts := atoms_spec (ws := k_Md_operation :: gt) B.pre
  have hg : ∀ w ∈ gt, w.before _ s = true := fun w h => hts w (List.mem_cons_of_mem _ h)
  have hown : s.vm.findClass R_Md = some m.cls := findClass_of_methodNamed B.named
  have hlocks := B.notSynchronized
  have hK := hKn.1
  have hl := lv_entry ([.ref a, .int id, .int i, .int f]) (n := 5) (Nat.le_of_ble_eq_true rfl)
  rw [lg_entry_eq]
  generalize (lg_sl ([.ref a, .int id, .int i, .int f]) ++ List.replicate (5 - (lg_sl ([.ref a, .int id, .int i, .int f])).length) Slot.unset).toArray = ls at hl ⊢
  have hl : lv_has ls 5 [(0, .ref a), (1, .int id), (2, .int i), (3, .int f)] := hl
  have hS : va_S (blk a 15) s.heap s.heap [] := va_S.rf
  have hD : va_D (blk a 15) (wMo cI cJ cZ a code kn ed ct ti nm xa xb ma it vs se sm rs wk ors owk) := (blk_D (wMo_in))
  have hR : (()) = R := hR
  refine lv_aload_n hx hb d_Md_operation_0 rfl (lv_at hl 0 rfl) ?_
  refine lv_iload_n hx hb d_Md_operation_1 rfl (lv_at hl 1 rfl) ?_
  refine ep_callP (W.runS (As := [.int id]) (rest := [.ref a]) ⟨hx, hb, hml, hown, hg⟩ (m_Mo_isId l D cI cJ cZ cO id) (ep_cwS 1 hg tw_766 tw_767 tw_12 tk_Md_isId rfl rfl (by decide +kernel) ⟨(Nat.le_of_ble_eq_true rfl), (Nat.le_of_ble_eq_true rfl)⟩) ⟨ep_blind, ep_pre hKn (trivial)⟩ rfl rfl hl.1 rfl (lv_room (Nat.le_of_ble_eq_true rfl)) d_Md_operation_2 ⟨Nat.zero_le _, Nat.zero_le _⟩) ?_
  refine W.eq (g2 := F0 m 5 ls [.int (bI (okI id)), .ref a]) rfl ?_
  refine lv_topi (fun z8 e_z8 => ?_)
  obtain rfl : z8 = 0 := by rw [e_z8]; exact (if_neg hid)
  refine lv_if_eq (tgt := 17) hx hb d_Md_operation_5 (by decide) (fun hc => ?_) (fun hc => False.elim (by revert hc; decide))
  refine lv_iconst (v := 1) hx hb d_Md_operation_17 (by decide) ?_
  refine lv_goto (tgt := 53) hx hb d_Md_operation_18 (by decide) ?_
  refine va_put (D := D) (ci := 9) (v := .int 1) (ty := .int) (C := R_Md) (T := F_Md) (N := 17) hx hb hg in_Md t_Md t_Md_ok n_Md hown hK hP hD hS 0 rfl rfl 0 (Nat.le_of_ble_eq_true rfl) (hg _ tw_706) (fun _ h9 => h9) rfl (by decide +kernel) rfl rfl (Nat.le_of_ble_eq_true rfl) d_Md_operation_53 (fun H locs hP hD hS => ?_)
  have hP : va_P D cls (wMo cI cJ cZ a 1 kn ed ct ti nm xa xb ma it vs se sm rs wk ors owk) H := hP
  have hD : va_D (blk a 15) (wMo cI cJ cZ a 1 kn ed ct ti nm xa xb ma it vs se sm rs wk ors owk) := hD
  refine lv_aload_n hx hb d_Md_operation_56 rfl (lv_at hl 0 rfl) ?_
  refine va_get (D := D) (ci := 9) (v := .int 1) (C := R_Md) (T := F_Md) (N := 17) hx hb hg in_Md hown hK hP 0 rfl rfl 0 (Nat.le_of_ble_eq_true rfl) (hg _ tw_706) (fun _ h9 => h9) rfl d_Md_operation_57 ?_
  refine lv_if_le (tgt := 65) hx hb d_Md_operation_60 (by decide) (fun hc => False.elim (by revert hc; decide)) (fun hc => ?_)
  refine lv_iconst (v := 0) hx hb d_Md_operation_63 (by decide) ?_
  subst hR
  exact W.iret (v := 0) hx hb hr (fun t9 ht hW => ⟨rfl, hS.F ht, by rw [ht]; exact hP⟩) hS.2.2 d_Md_operation_64

def f_Mo_operation_m (kn : Nat → Int32) (j : Nat) (f : Int32) : Int32 := if f < 0 then (1) else (if f ≤ 3 then (if (kn j) = 0 then (2) else (3)) else (1))
set_option maxHeartbeats 4000000 in
set_option maxRecDepth 100000 in
theorem m_Mo_operation_m (l : Launch) (D : va_G) (cI cJ cZ cO : ClassId) (a : Nat) (code : Int32) (kn : Nat → Int32) (ed : Nat → Int32) (ct : Nat → Int32) (ti : Nat → Int32) (nm : Nat → Int32) (xa : Nat → Int32) (xb : Nat → Int32) (ma : Int32) (it : Nat → Int32) (vs : Nat → Int32) (se : Nat → Int32) (sm : Int64) (rs : Nat → Int64) (wk : Nat → Int32) (ors : Nat → Int64) (owk : Nat → Int32) (j : Nat) (i : Int32) (f : Int32) (hj : j < 4) (hi : i < 0) (R : Int32) (hR : f_Mo_operation_m kn j f = R) : Met l y_Md_operation (k_Md_operation :: gt) rm_Md_operation (Pc0 D cI cJ cZ cO [.ref a, .int (nI j), .int i, .int f] (fun H => va_P D cls (wMo cI cJ cZ a code kn ed ct ti nm xa xb ma it vs se sm rs wk ors owk) H)) (Qd (blk a 15) (some (.int 0)) (fun H => va_P D cls (wMo cI cJ cZ a R kn ed ct ti nm xa xb ma it vs se sm rs wk ors owk) H)) 0 0 (blk a 15) := by
  refine Met.ofW (cc := c_Md_operation) (maxL := 5) (ret := (Option.some FieldType.int)) (by decide) rfl ?_
  intro p e s m args below meth c s₁ B hml hv
  obtain ⟨rfl, hKn, hP⟩ := hv
  have hx := B.exec
  have hb := B.bytes
  have hr := B.returns
  have hts := atoms_spec (ws := k_Md_operation :: gt) B.pre
  have hg : ∀ w ∈ gt, w.before _ s = true := fun w h => hts w (List.mem_cons_of_mem _ h)
  have hown : s.vm.findClass R_Md = some m.cls := findClass_of_methodNamed B.named
  have hlocks := B.notSynchronized
  have hK := hKn.1
  have hl := lv_entry ([.ref a, .int (nI j), .int i, .int f]) (n := 5) (Nat.le_of_ble_eq_true rfl)
  rw [lg_entry_eq]
  generalize (lg_sl ([.ref a, .int (nI j), .int i, .int f]) ++ List.replicate (5 - (lg_sl ([.ref a, .int (nI j), .int i, .int f])).length) Slot.unset).toArray = ls at hl ⊢
  have hl : lv_has ls 5 [(0, .ref a), (1, .int (nI j)), (2, .int i), (3, .int f)] := hl
  have hS : va_S (blk a 15) s.heap s.heap [] := va_S.rf
  have hD : va_D (blk a 15) (wMo cI cJ cZ a code kn ed ct ti nm xa xb ma it vs se sm rs wk ors owk) := (blk_D (wMo_in))
  have hR : (if f < 0 then (1) else (if f ≤ 3 then (if (kn j) = 0 then (2) else (3)) else (1))) = R := hR
  refine lv_aload_n hx hb d_Md_operation_0 rfl (lv_at hl 0 rfl) ?_
  refine lv_iload_n hx hb d_Md_operation_1 rfl (lv_at hl 1 rfl) ?_
  refine ep_callP (W.runS (As := [.int (nI j)]) (rest := [.ref a]) ⟨hx, hb, hml, hown, hg⟩ (m_Mo_isId l D cI cJ cZ cO (nI j)) (ep_cwS 1 hg tw_766 tw_767 tw_12 tk_Md_isId rfl rfl (by decide +kernel) ⟨(Nat.le_of_ble_eq_true rfl), (Nat.le_of_ble_eq_true rfl)⟩) ⟨ep_blind, ep_pre hKn (trivial)⟩ rfl rfl hl.1 rfl (lv_room (Nat.le_of_ble_eq_true rfl)) d_Md_operation_2 ⟨Nat.zero_le _, Nat.zero_le _⟩) ?_
  refine W.eq (g2 := F0 m 5 ls [.int (bI (okI (nI j))), .ref a]) rfl ?_
  refine lv_topi (fun z8 e_z8 => ?_)
  obtain rfl : z8 = 1 := by rw [e_z8]; exact (if_pos (okI_n (by omega)))
  refine lv_if_eq (tgt := 17) hx hb d_Md_operation_5 (by decide) (fun hc => False.elim (by revert hc; decide)) (fun hc => ?_)
  refine lv_iload_n hx hb d_Md_operation_8 rfl (lv_at hl 3 rfl) ?_
  refine lv_if_lt (tgt := 17) hx hb d_Md_operation_9 (by decide) (fun hc1 => ?_) (fun hc1 => ?_)
  · have hc1 : f < 0 := hc1
    refine lv_iconst (v := 1) hx hb d_Md_operation_17 (by decide) ?_
    refine lv_goto (tgt := 53) hx hb d_Md_operation_18 (by decide) ?_
    refine va_put (D := D) (ci := 9) (v := .int 1) (ty := .int) (C := R_Md) (T := F_Md) (N := 17) hx hb hg in_Md t_Md t_Md_ok n_Md hown hK hP hD hS 0 rfl rfl 0 (Nat.le_of_ble_eq_true rfl) (hg _ tw_706) (fun _ h9 => h9) rfl (by decide +kernel) rfl rfl (Nat.le_of_ble_eq_true rfl) d_Md_operation_53 (fun H locs hP hD hS => ?_)
    have hP : va_P D cls (wMo cI cJ cZ a 1 kn ed ct ti nm xa xb ma it vs se sm rs wk ors owk) H := hP
    have hD : va_D (blk a 15) (wMo cI cJ cZ a 1 kn ed ct ti nm xa xb ma it vs se sm rs wk ors owk) := hD
    refine lv_aload_n hx hb d_Md_operation_56 rfl (lv_at hl 0 rfl) ?_
    refine va_get (D := D) (ci := 9) (v := .int 1) (C := R_Md) (T := F_Md) (N := 17) hx hb hg in_Md hown hK hP 0 rfl rfl 0 (Nat.le_of_ble_eq_true rfl) (hg _ tw_706) (fun _ h9 => h9) rfl d_Md_operation_57 ?_
    refine lv_if_le (tgt := 65) hx hb d_Md_operation_60 (by decide) (fun hc => False.elim (by revert hc; decide)) (fun hc => ?_)
    refine lv_iconst (v := 0) hx hb d_Md_operation_63 (by decide) ?_
    rw [if_pos hc1] at hR
    subst hR
    exact W.iret (v := 0) hx hb hr (fun t9 ht hW => ⟨rfl, hS.F ht, by rw [ht]; exact hP⟩) hS.2.2 d_Md_operation_64
  · have hc1 : ¬ (f < 0) := hc1
    refine lv_iload_n hx hb d_Md_operation_12 rfl (lv_at hl 3 rfl) ?_
    refine lv_iconst (v := 3) hx hb d_Md_operation_13 (by decide) ?_
    refine lv_icmp_le (tgt := 21) hx hb d_Md_operation_14 (by decide) (fun hc2 => ?_) (fun hc2 => ?_)
    · have hc2 : f ≤ 3 := hc2
      refine lv_aload_n hx hb d_Md_operation_21 rfl (lv_at hl 0 rfl) ?_
      refine va_get (D := D) (ci := 9) (v := .ref (a + 1)) (C := R_Md) (T := F_Md) (N := 17) hx hb hg in_Md hown hK hP 0 rfl rfl 1 (Nat.le_of_ble_eq_true rfl) (hg _ tw_707) (fun _ h9 => h9) rfl d_Md_operation_22 ?_
      refine lv_iload_n hx hb d_Md_operation_25 rfl (lv_at hl 1 rfl) ?_
      refine ep_iald hx hb hK hP 1 0 rfl rfl (i := j) (by omega) (by decide) d_Md_operation_26 ?_
      refine lv_if_ne (tgt := 34) hx hb d_Md_operation_27 (by decide) (fun hc3 => ?_) (fun hc3 => ?_)
      · have hc3 : ¬ ((kn j) = 0) := hc3
        refine lv_iload_n hx hb d_Md_operation_34 rfl (lv_at hl 2 rfl) ?_
        refine lv_if_lt (tgt := 48) hx hb d_Md_operation_35 (by decide) (fun hc => ?_) (fun hc => absurd hi hc)
        refine lv_iconst (v := 3) hx hb d_Md_operation_48 (by decide) ?_
        refine lv_goto (tgt := 53) hx hb d_Md_operation_49 (by decide) ?_
        refine va_put (D := D) (ci := 9) (v := .int 3) (ty := .int) (C := R_Md) (T := F_Md) (N := 17) hx hb hg in_Md t_Md t_Md_ok n_Md hown hK hP hD hS 0 rfl rfl 0 (Nat.le_of_ble_eq_true rfl) (hg _ tw_706) (fun _ h9 => h9) rfl (by decide +kernel) rfl rfl (Nat.le_of_ble_eq_true rfl) d_Md_operation_53 (fun H locs hP hD hS => ?_)
        have hP : va_P D cls (wMo cI cJ cZ a 3 kn ed ct ti nm xa xb ma it vs se sm rs wk ors owk) H := hP
        have hD : va_D (blk a 15) (wMo cI cJ cZ a 3 kn ed ct ti nm xa xb ma it vs se sm rs wk ors owk) := hD
        refine lv_aload_n hx hb d_Md_operation_56 rfl (lv_at hl 0 rfl) ?_
        refine va_get (D := D) (ci := 9) (v := .int 3) (C := R_Md) (T := F_Md) (N := 17) hx hb hg in_Md hown hK hP 0 rfl rfl 0 (Nat.le_of_ble_eq_true rfl) (hg _ tw_706) (fun _ h9 => h9) rfl d_Md_operation_57 ?_
        refine lv_if_le (tgt := 65) hx hb d_Md_operation_60 (by decide) (fun hc => False.elim (by revert hc; decide)) (fun hc => ?_)
        refine lv_iconst (v := 0) hx hb d_Md_operation_63 (by decide) ?_
        rw [if_neg hc1, if_pos hc2, if_neg hc3] at hR
        subst hR
        exact W.iret (v := 0) hx hb hr (fun t9 ht hW => ⟨rfl, hS.F ht, by rw [ht]; exact hP⟩) hS.2.2 d_Md_operation_64
      · have hc3 : (kn j) = 0 := hc3
        refine lv_iconst (v := 2) hx hb d_Md_operation_30 (by decide) ?_
        refine lv_goto (tgt := 53) hx hb d_Md_operation_31 (by decide) ?_
        refine va_put (D := D) (ci := 9) (v := .int 2) (ty := .int) (C := R_Md) (T := F_Md) (N := 17) hx hb hg in_Md t_Md t_Md_ok n_Md hown hK hP hD hS 0 rfl rfl 0 (Nat.le_of_ble_eq_true rfl) (hg _ tw_706) (fun _ h9 => h9) rfl (by decide +kernel) rfl rfl (Nat.le_of_ble_eq_true rfl) d_Md_operation_53 (fun H locs hP hD hS => ?_)
        have hP : va_P D cls (wMo cI cJ cZ a 2 kn ed ct ti nm xa xb ma it vs se sm rs wk ors owk) H := hP
        have hD : va_D (blk a 15) (wMo cI cJ cZ a 2 kn ed ct ti nm xa xb ma it vs se sm rs wk ors owk) := hD
        refine lv_aload_n hx hb d_Md_operation_56 rfl (lv_at hl 0 rfl) ?_
        refine va_get (D := D) (ci := 9) (v := .int 2) (C := R_Md) (T := F_Md) (N := 17) hx hb hg in_Md hown hK hP 0 rfl rfl 0 (Nat.le_of_ble_eq_true rfl) (hg _ tw_706) (fun _ h9 => h9) rfl d_Md_operation_57 ?_
        refine lv_if_le (tgt := 65) hx hb d_Md_operation_60 (by decide) (fun hc => False.elim (by revert hc; decide)) (fun hc => ?_)
        refine lv_iconst (v := 0) hx hb d_Md_operation_63 (by decide) ?_
        rw [if_neg hc1, if_pos hc2, if_pos hc3] at hR
        subst hR
        exact W.iret (v := 0) hx hb hr (fun t9 ht hW => ⟨rfl, hS.F ht, by rw [ht]; exact hP⟩) hS.2.2 d_Md_operation_64
    · have hc2 : ¬ (f ≤ 3) := hc2
      refine lv_iconst (v := 1) hx hb d_Md_operation_17 (by decide) ?_
      refine lv_goto (tgt := 53) hx hb d_Md_operation_18 (by decide) ?_
      refine va_put (D := D) (ci := 9) (v := .int 1) (ty := .int) (C := R_Md) (T := F_Md) (N := 17) hx hb hg in_Md t_Md t_Md_ok n_Md hown hK hP hD hS 0 rfl rfl 0 (Nat.le_of_ble_eq_true rfl) (hg _ tw_706) (fun _ h9 => h9) rfl (by decide +kernel) rfl rfl (Nat.le_of_ble_eq_true rfl) d_Md_operation_53 (fun H locs hP hD hS => ?_)
      have hP : va_P D cls (wMo cI cJ cZ a 1 kn ed ct ti nm xa xb ma it vs se sm rs wk ors owk) H := hP
      have hD : va_D (blk a 15) (wMo cI cJ cZ a 1 kn ed ct ti nm xa xb ma it vs se sm rs wk ors owk) := hD
      refine lv_aload_n hx hb d_Md_operation_56 rfl (lv_at hl 0 rfl) ?_
      refine va_get (D := D) (ci := 9) (v := .int 1) (C := R_Md) (T := F_Md) (N := 17) hx hb hg in_Md hown hK hP 0 rfl rfl 0 (Nat.le_of_ble_eq_true rfl) (hg _ tw_706) (fun _ h9 => h9) rfl d_Md_operation_57 ?_
      refine lv_if_le (tgt := 65) hx hb d_Md_operation_60 (by decide) (fun hc => False.elim (by revert hc; decide)) (fun hc => ?_)
      refine lv_iconst (v := 0) hx hb d_Md_operation_63 (by decide) ?_
      rw [if_neg hc1, if_neg hc2] at hR
      subst hR
      exact W.iret (v := 0) hx hb hr (fun t9 ht hW => ⟨rfl, hS.F ht, by rw [ht]; exact hP⟩) hS.2.2 d_Md_operation_64

def f_Mo_operation (kn : Nat → Int32) (ti : Nat → Int32) (nm : Nat → Int32) (xa : Nat → Int32) (xb : Nat → Int32) (n : Nat) (j : Nat) (i : Nat) (f : Int32) : Int32 × Int32 := if f < 0 then ((0, 1)) else (if f ≤ 3 then (if (kn j) = 0 then ((0, 2)) else (if i < n then (if f = 0 then ((ti (32 * j + i), 0)) else (if f = 1 then ((nm (32 * j + i), 0)) else (if f = 2 then ((xa (32 * j + i), 0)) else ((xb (32 * j + i), 0))))) else ((0, 3)))) else ((0, 1)))
set_option maxHeartbeats 4000000 in
set_option maxRecDepth 100000 in
theorem m_Mo_operation (l : Launch) (D : va_G) (cI cJ cZ cO : ClassId) (a : Nat) (code : Int32) (kn : Nat → Int32) (ed : Nat → Int32) (ct : Nat → Int32) (ti : Nat → Int32) (nm : Nat → Int32) (xa : Nat → Int32) (xb : Nat → Int32) (ma : Int32) (it : Nat → Int32) (vs : Nat → Int32) (se : Nat → Int32) (sm : Int64) (rs : Nat → Int64) (wk : Nat → Int32) (ors : Nat → Int64) (owk : Nat → Int32) (n : Nat) (j : Nat) (i : Nat) (f : Int32) (hj : j < 4) (hi : i < 2 ^ 31) (hct : ct j = nI n) (hn : n ≤ 32) (R : Int32 × Int32) (hR : f_Mo_operation kn ti nm xa xb n j i f = R) : Met l y_Md_operation (k_Md_operation :: gt) rm_Md_operation (Pc0 D cI cJ cZ cO [.ref a, .int (nI j), .int (nI i), .int f] (fun H => va_P D cls (wMo cI cJ cZ a code kn ed ct ti nm xa xb ma it vs se sm rs wk ors owk) H)) (Qd (blk a 15) (some (.int R.1)) (fun H => va_P D cls (wMo cI cJ cZ a R.2 kn ed ct ti nm xa xb ma it vs se sm rs wk ors owk) H)) 0 0 (blk a 15) := by
  refine Met.ofW (cc := c_Md_operation) (maxL := 5) (ret := (Option.some FieldType.int)) (by decide) rfl ?_
  intro p e s m args below meth c s₁ B hml hv
  obtain ⟨rfl, hKn, hP⟩ := hv
  have hx := B.exec
  have hb := B.bytes
  have hr := B.returns
  have hts := atoms_spec (ws := k_Md_operation :: gt) B.pre
  have hg : ∀ w ∈ gt, w.before _ s = true := fun w h => hts w (List.mem_cons_of_mem _ h)
  have hown : s.vm.findClass R_Md = some m.cls := findClass_of_methodNamed B.named
  have hlocks := B.notSynchronized
  have hK := hKn.1
  have hl := lv_entry ([.ref a, .int (nI j), .int (nI i), .int f]) (n := 5) (Nat.le_of_ble_eq_true rfl)
  rw [lg_entry_eq]
  generalize (lg_sl ([.ref a, .int (nI j), .int (nI i), .int f]) ++ List.replicate (5 - (lg_sl ([.ref a, .int (nI j), .int (nI i), .int f])).length) Slot.unset).toArray = ls at hl ⊢
  have hl : lv_has ls 5 [(0, .ref a), (1, .int (nI j)), (2, .int (nI i)), (3, .int f)] := hl
  have hS : va_S (blk a 15) s.heap s.heap [] := va_S.rf
  have hD : va_D (blk a 15) (wMo cI cJ cZ a code kn ed ct ti nm xa xb ma it vs se sm rs wk ors owk) := (blk_D (wMo_in))
  have hR : (if f < 0 then ((0, 1)) else (if f ≤ 3 then (if (kn j) = 0 then ((0, 2)) else (if i < n then (if f = 0 then ((ti (32 * j + i), 0)) else (if f = 1 then ((nm (32 * j + i), 0)) else (if f = 2 then ((xa (32 * j + i), 0)) else ((xb (32 * j + i), 0))))) else ((0, 3)))) else ((0, 1)))) = R := hR
  refine lv_aload_n hx hb d_Md_operation_0 rfl (lv_at hl 0 rfl) ?_
  refine lv_iload_n hx hb d_Md_operation_1 rfl (lv_at hl 1 rfl) ?_
  refine ep_callP (W.runS (As := [.int (nI j)]) (rest := [.ref a]) ⟨hx, hb, hml, hown, hg⟩ (m_Mo_isId l D cI cJ cZ cO (nI j)) (ep_cwS 1 hg tw_766 tw_767 tw_12 tk_Md_isId rfl rfl (by decide +kernel) ⟨(Nat.le_of_ble_eq_true rfl), (Nat.le_of_ble_eq_true rfl)⟩) ⟨ep_blind, ep_pre hKn (trivial)⟩ rfl rfl hl.1 rfl (lv_room (Nat.le_of_ble_eq_true rfl)) d_Md_operation_2 ⟨Nat.zero_le _, Nat.zero_le _⟩) ?_
  refine W.eq (g2 := F0 m 5 ls [.int (bI (okI (nI j))), .ref a]) rfl ?_
  refine lv_topi (fun z8 e_z8 => ?_)
  obtain rfl : z8 = 1 := by rw [e_z8]; exact (if_pos (okI_n (by omega)))
  refine lv_if_eq (tgt := 17) hx hb d_Md_operation_5 (by decide) (fun hc => False.elim (by revert hc; decide)) (fun hc => ?_)
  refine lv_iload_n hx hb d_Md_operation_8 rfl (lv_at hl 3 rfl) ?_
  refine lv_if_lt (tgt := 17) hx hb d_Md_operation_9 (by decide) (fun hc1 => ?_) (fun hc1 => ?_)
  · have hc1 : f < 0 := hc1
    refine lv_iconst (v := 1) hx hb d_Md_operation_17 (by decide) ?_
    refine lv_goto (tgt := 53) hx hb d_Md_operation_18 (by decide) ?_
    refine va_put (D := D) (ci := 9) (v := .int 1) (ty := .int) (C := R_Md) (T := F_Md) (N := 17) hx hb hg in_Md t_Md t_Md_ok n_Md hown hK hP hD hS 0 rfl rfl 0 (Nat.le_of_ble_eq_true rfl) (hg _ tw_706) (fun _ h9 => h9) rfl (by decide +kernel) rfl rfl (Nat.le_of_ble_eq_true rfl) d_Md_operation_53 (fun H locs hP hD hS => ?_)
    have hP : va_P D cls (wMo cI cJ cZ a 1 kn ed ct ti nm xa xb ma it vs se sm rs wk ors owk) H := hP
    have hD : va_D (blk a 15) (wMo cI cJ cZ a 1 kn ed ct ti nm xa xb ma it vs se sm rs wk ors owk) := hD
    refine lv_aload_n hx hb d_Md_operation_56 rfl (lv_at hl 0 rfl) ?_
    refine va_get (D := D) (ci := 9) (v := .int 1) (C := R_Md) (T := F_Md) (N := 17) hx hb hg in_Md hown hK hP 0 rfl rfl 0 (Nat.le_of_ble_eq_true rfl) (hg _ tw_706) (fun _ h9 => h9) rfl d_Md_operation_57 ?_
    refine lv_if_le (tgt := 65) hx hb d_Md_operation_60 (by decide) (fun hc => False.elim (by revert hc; decide)) (fun hc => ?_)
    refine lv_iconst (v := 0) hx hb d_Md_operation_63 (by decide) ?_
    rw [if_pos hc1] at hR
    subst hR
    exact W.iret (v := 0) hx hb hr (fun t9 ht hW => ⟨rfl, hS.F ht, by rw [ht]; exact hP⟩) hS.2.2 d_Md_operation_64
  · have hc1 : ¬ (f < 0) := hc1
    refine lv_iload_n hx hb d_Md_operation_12 rfl (lv_at hl 3 rfl) ?_
    refine lv_iconst (v := 3) hx hb d_Md_operation_13 (by decide) ?_
    refine lv_icmp_le (tgt := 21) hx hb d_Md_operation_14 (by decide) (fun hc2 => ?_) (fun hc2 => ?_)
    · have hc2 : f ≤ 3 := hc2
      refine lv_aload_n hx hb d_Md_operation_21 rfl (lv_at hl 0 rfl) ?_
      refine va_get (D := D) (ci := 9) (v := .ref (a + 1)) (C := R_Md) (T := F_Md) (N := 17) hx hb hg in_Md hown hK hP 0 rfl rfl 1 (Nat.le_of_ble_eq_true rfl) (hg _ tw_707) (fun _ h9 => h9) rfl d_Md_operation_22 ?_
      refine lv_iload_n hx hb d_Md_operation_25 rfl (lv_at hl 1 rfl) ?_
      refine ep_iald hx hb hK hP 1 0 rfl rfl (i := j) (by omega) (by decide) d_Md_operation_26 ?_
      refine lv_if_ne (tgt := 34) hx hb d_Md_operation_27 (by decide) (fun hc3 => ?_) (fun hc3 => ?_)
      · have hc3 : ¬ ((kn j) = 0) := hc3
        refine lv_iload_n hx hb d_Md_operation_34 rfl (lv_at hl 2 rfl) ?_
        refine lv_if_lt (tgt := 48) hx hb d_Md_operation_35 (by decide) (fun hc => False.elim (by have hc := (nI_ltI (a := i) (b := 0) (by omega) (by omega)).mp hc; omega)) (fun hc => ?_)
        refine lv_iload_n hx hb d_Md_operation_38 rfl (lv_at hl 2 rfl) ?_
        refine lv_aload_n hx hb d_Md_operation_39 rfl (lv_at hl 0 rfl) ?_
        refine va_get (D := D) (ci := 9) (v := .ref (a + 3)) (C := R_Md) (T := F_Md) (N := 17) hx hb hg in_Md hown hK hP 0 rfl rfl 3 (Nat.le_of_ble_eq_true rfl) (hg _ tw_709) (fun _ h9 => h9) rfl d_Md_operation_40 ?_
        refine lv_iload_n hx hb d_Md_operation_43 rfl (lv_at hl 1 rfl) ?_
        refine ep_iald hx hb hK hP 3 0 rfl rfl (i := j) (by omega) (by decide) d_Md_operation_44 ?_
        refine lv_topi (fun z9 e_z9 => ?_)
        obtain rfl : z9 = nI n := by rw [e_z9]; exact hct
        refine lv_icmp_lt (tgt := 52) hx hb d_Md_operation_45 (by decide) (fun hc4 => ?_) (fun hc4 => ?_)
        · have hc4 : i < n := (nI_ltI (a := i) (b := n) (by omega) (by omega)).mp hc4
          refine lv_iconst (v := 0) hx hb d_Md_operation_52 (by decide) ?_
          refine va_put (D := D) (ci := 9) (v := .int 0) (ty := .int) (C := R_Md) (T := F_Md) (N := 17) hx hb hg in_Md t_Md t_Md_ok n_Md hown hK hP hD hS 0 rfl rfl 0 (Nat.le_of_ble_eq_true rfl) (hg _ tw_706) (fun _ h9 => h9) rfl (by decide +kernel) rfl rfl (Nat.le_of_ble_eq_true rfl) d_Md_operation_53 (fun H locs hP hD hS => ?_)
          have hP : va_P D cls (wMo cI cJ cZ a 0 kn ed ct ti nm xa xb ma it vs se sm rs wk ors owk) H := hP
          have hD : va_D (blk a 15) (wMo cI cJ cZ a 0 kn ed ct ti nm xa xb ma it vs se sm rs wk ors owk) := hD
          refine lv_aload_n hx hb d_Md_operation_56 rfl (lv_at hl 0 rfl) ?_
          refine va_get (D := D) (ci := 9) (v := .int 0) (C := R_Md) (T := F_Md) (N := 17) hx hb hg in_Md hown hK hP 0 rfl rfl 0 (Nat.le_of_ble_eq_true rfl) (hg _ tw_706) (fun _ h9 => h9) rfl d_Md_operation_57 ?_
          refine lv_if_le (tgt := 65) hx hb d_Md_operation_60 (by decide) (fun hc => ?_) (fun hc => False.elim (by revert hc; decide))
          refine lv_bipush (v := 32) hx hb d_Md_operation_65 (by decide) ?_
          refine lv_iload_n hx hb d_Md_operation_67 rfl (lv_at hl 1 rfl) ?_
          refine lv_imul hx hb d_Md_operation_68 ?_
          refine lv_topi (fun z9 e_z9 => ?_)
          obtain rfl : z9 = nI (32 * j) := by rw [e_z9]; exact (nI_mul 32 j)
          refine lv_iload_n hx hb d_Md_operation_69 rfl (lv_at hl 2 rfl) ?_
          refine lv_iadd hx hb d_Md_operation_70 ?_
          refine lv_topi (fun z9 e_z9 => ?_)
          obtain rfl : z9 = nI (32 * j + i) := by rw [e_z9]; exact (nI_add (32 * j) i)
          refine lv_istore (lv' := [(4, .int (nI (32 * j + i))), (0, .ref a), (1, .int (nI j)), (2, .int (nI i)), (3, .int f)]) hx hb d_Md_operation_71 hl (by decide) rfl (fun ls hl => ?_)
          refine lv_iload_n hx hb d_Md_operation_73 rfl (lv_at hl 4 rfl) ?_
          refine lv_if_ne (tgt := 87) hx hb d_Md_operation_74 (by decide) (fun hc5 => ?_) (fun hc5 => ?_)
          · have hc5 : ¬ (f = 0) := hc5
            refine lv_iload_n hx hb d_Md_operation_87 rfl (lv_at hl 4 rfl) ?_
            refine lv_iconst (v := 1) hx hb d_Md_operation_88 (by decide) ?_
            refine lv_icmp_ne (tgt := 102) hx hb d_Md_operation_89 (by decide) (fun hc6 => ?_) (fun hc6 => ?_)
            · have hc6 : ¬ (f = 1) := hc6
              refine lv_iload_n hx hb d_Md_operation_102 rfl (lv_at hl 4 rfl) ?_
              refine lv_iconst (v := 2) hx hb d_Md_operation_103 (by decide) ?_
              refine lv_icmp_ne (tgt := 117) hx hb d_Md_operation_104 (by decide) (fun hc7 => ?_) (fun hc7 => ?_)
              · have hc7 : ¬ (f = 2) := hc7
                refine lv_aload_n hx hb d_Md_operation_117 rfl (lv_at hl 1 rfl) ?_
                refine va_get (D := D) (ci := 9) (v := .ref (a + 7)) (C := R_Md) (T := F_Md) (N := 17) hx hb hg in_Md hown hK hP 0 rfl rfl 7 (Nat.le_of_ble_eq_true rfl) (hg _ tw_713) (fun _ h9 => h9) rfl d_Md_operation_118 ?_
                refine lv_iload hx hb d_Md_operation_121 (lv_at hl 0 rfl) ?_
                refine ep_iald hx hb hK hP 7 0 rfl rfl (i := (32 * j + i)) (by omega) (by decide) d_Md_operation_123 ?_
                rw [if_neg hc1, if_pos hc2, if_neg hc3, if_pos hc4, if_neg hc5, if_neg hc6, if_neg hc7] at hR
                subst hR
                exact W.iret (v := (xb (32 * j + i))) hx hb hr (fun t9 ht hW => ⟨rfl, hS.F ht, by rw [ht]; exact hP⟩) hS.2.2 d_Md_operation_124
              · have hc7 : f = 2 := hc7
                refine lv_aload_n hx hb d_Md_operation_107 rfl (lv_at hl 1 rfl) ?_
                refine va_get (D := D) (ci := 9) (v := .ref (a + 6)) (C := R_Md) (T := F_Md) (N := 17) hx hb hg in_Md hown hK hP 0 rfl rfl 6 (Nat.le_of_ble_eq_true rfl) (hg _ tw_712) (fun _ h9 => h9) rfl d_Md_operation_108 ?_
                refine lv_iload hx hb d_Md_operation_111 (lv_at hl 0 rfl) ?_
                refine ep_iald hx hb hK hP 6 0 rfl rfl (i := (32 * j + i)) (by omega) (by decide) d_Md_operation_113 ?_
                refine lv_goto (tgt := 124) hx hb d_Md_operation_114 (by decide) ?_
                rw [if_neg hc1, if_pos hc2, if_neg hc3, if_pos hc4, if_neg hc5, if_neg hc6, if_pos hc7] at hR
                subst hR
                exact W.iret (v := (xa (32 * j + i))) hx hb hr (fun t9 ht hW => ⟨rfl, hS.F ht, by rw [ht]; exact hP⟩) hS.2.2 d_Md_operation_124
            · have hc6 : f = 1 := hc6
              refine lv_aload_n hx hb d_Md_operation_92 rfl (lv_at hl 1 rfl) ?_
              refine va_get (D := D) (ci := 9) (v := .ref (a + 5)) (C := R_Md) (T := F_Md) (N := 17) hx hb hg in_Md hown hK hP 0 rfl rfl 5 (Nat.le_of_ble_eq_true rfl) (hg _ tw_711) (fun _ h9 => h9) rfl d_Md_operation_93 ?_
              refine lv_iload hx hb d_Md_operation_96 (lv_at hl 0 rfl) ?_
              refine ep_iald hx hb hK hP 5 0 rfl rfl (i := (32 * j + i)) (by omega) (by decide) d_Md_operation_98 ?_
              refine lv_goto (tgt := 124) hx hb d_Md_operation_99 (by decide) ?_
              rw [if_neg hc1, if_pos hc2, if_neg hc3, if_pos hc4, if_neg hc5, if_pos hc6] at hR
              subst hR
              exact W.iret (v := (nm (32 * j + i))) hx hb hr (fun t9 ht hW => ⟨rfl, hS.F ht, by rw [ht]; exact hP⟩) hS.2.2 d_Md_operation_124
          · have hc5 : f = 0 := hc5
            refine lv_aload_n hx hb d_Md_operation_77 rfl (lv_at hl 1 rfl) ?_
            refine va_get (D := D) (ci := 9) (v := .ref (a + 4)) (C := R_Md) (T := F_Md) (N := 17) hx hb hg in_Md hown hK hP 0 rfl rfl 4 (Nat.le_of_ble_eq_true rfl) (hg _ tw_710) (fun _ h9 => h9) rfl d_Md_operation_78 ?_
            refine lv_iload hx hb d_Md_operation_81 (lv_at hl 0 rfl) ?_
            refine ep_iald hx hb hK hP 4 0 rfl rfl (i := (32 * j + i)) (by omega) (by decide) d_Md_operation_83 ?_
            refine lv_goto (tgt := 124) hx hb d_Md_operation_84 (by decide) ?_
            rw [if_neg hc1, if_pos hc2, if_neg hc3, if_pos hc4, if_pos hc5] at hR
            subst hR
            exact W.iret (v := (ti (32 * j + i))) hx hb hr (fun t9 ht hW => ⟨rfl, hS.F ht, by rw [ht]; exact hP⟩) hS.2.2 d_Md_operation_124
        · have hc4 : ¬ (i < n) := fun h9 => hc4 ((nI_ltI (a := i) (b := n) (by omega) (by omega)).mpr h9)
          refine lv_iconst (v := 3) hx hb d_Md_operation_48 (by decide) ?_
          refine lv_goto (tgt := 53) hx hb d_Md_operation_49 (by decide) ?_
          refine va_put (D := D) (ci := 9) (v := .int 3) (ty := .int) (C := R_Md) (T := F_Md) (N := 17) hx hb hg in_Md t_Md t_Md_ok n_Md hown hK hP hD hS 0 rfl rfl 0 (Nat.le_of_ble_eq_true rfl) (hg _ tw_706) (fun _ h9 => h9) rfl (by decide +kernel) rfl rfl (Nat.le_of_ble_eq_true rfl) d_Md_operation_53 (fun H locs hP hD hS => ?_)
          have hP : va_P D cls (wMo cI cJ cZ a 3 kn ed ct ti nm xa xb ma it vs se sm rs wk ors owk) H := hP
          have hD : va_D (blk a 15) (wMo cI cJ cZ a 3 kn ed ct ti nm xa xb ma it vs se sm rs wk ors owk) := hD
          refine lv_aload_n hx hb d_Md_operation_56 rfl (lv_at hl 0 rfl) ?_
          refine va_get (D := D) (ci := 9) (v := .int 3) (C := R_Md) (T := F_Md) (N := 17) hx hb hg in_Md hown hK hP 0 rfl rfl 0 (Nat.le_of_ble_eq_true rfl) (hg _ tw_706) (fun _ h9 => h9) rfl d_Md_operation_57 ?_
          refine lv_if_le (tgt := 65) hx hb d_Md_operation_60 (by decide) (fun hc => False.elim (by revert hc; decide)) (fun hc => ?_)
          refine lv_iconst (v := 0) hx hb d_Md_operation_63 (by decide) ?_
          rw [if_neg hc1, if_pos hc2, if_neg hc3, if_neg hc4] at hR
          subst hR
          exact W.iret (v := 0) hx hb hr (fun t9 ht hW => ⟨rfl, hS.F ht, by rw [ht]; exact hP⟩) hS.2.2 d_Md_operation_64
      · have hc3 : (kn j) = 0 := hc3
        refine lv_iconst (v := 2) hx hb d_Md_operation_30 (by decide) ?_
        refine lv_goto (tgt := 53) hx hb d_Md_operation_31 (by decide) ?_
        refine va_put (D := D) (ci := 9) (v := .int 2) (ty := .int) (C := R_Md) (T := F_Md) (N := 17) hx hb hg in_Md t_Md t_Md_ok n_Md hown hK hP hD hS 0 rfl rfl 0 (Nat.le_of_ble_eq_true rfl) (hg _ tw_706) (fun _ h9 => h9) rfl (by decide +kernel) rfl rfl (Nat.le_of_ble_eq_true rfl) d_Md_operation_53 (fun H locs hP hD hS => ?_)
        have hP : va_P D cls (wMo cI cJ cZ a 2 kn ed ct ti nm xa xb ma it vs se sm rs wk ors owk) H := hP
        have hD : va_D (blk a 15) (wMo cI cJ cZ a 2 kn ed ct ti nm xa xb ma it vs se sm rs wk ors owk) := hD
        refine lv_aload_n hx hb d_Md_operation_56 rfl (lv_at hl 0 rfl) ?_
        refine va_get (D := D) (ci := 9) (v := .int 2) (C := R_Md) (T := F_Md) (N := 17) hx hb hg in_Md hown hK hP 0 rfl rfl 0 (Nat.le_of_ble_eq_true rfl) (hg _ tw_706) (fun _ h9 => h9) rfl d_Md_operation_57 ?_
        refine lv_if_le (tgt := 65) hx hb d_Md_operation_60 (by decide) (fun hc => False.elim (by revert hc; decide)) (fun hc => ?_)
        refine lv_iconst (v := 0) hx hb d_Md_operation_63 (by decide) ?_
        rw [if_neg hc1, if_pos hc2, if_pos hc3] at hR
        subst hR
        exact W.iret (v := 0) hx hb hr (fun t9 ht hW => ⟨rfl, hS.F ht, by rw [ht]; exact hP⟩) hS.2.2 d_Md_operation_64
    · have hc2 : ¬ (f ≤ 3) := hc2
      refine lv_iconst (v := 1) hx hb d_Md_operation_17 (by decide) ?_
      refine lv_goto (tgt := 53) hx hb d_Md_operation_18 (by decide) ?_
      refine va_put (D := D) (ci := 9) (v := .int 1) (ty := .int) (C := R_Md) (T := F_Md) (N := 17) hx hb hg in_Md t_Md t_Md_ok n_Md hown hK hP hD hS 0 rfl rfl 0 (Nat.le_of_ble_eq_true rfl) (hg _ tw_706) (fun _ h9 => h9) rfl (by decide +kernel) rfl rfl (Nat.le_of_ble_eq_true rfl) d_Md_operation_53 (fun H locs hP hD hS => ?_)
      have hP : va_P D cls (wMo cI cJ cZ a 1 kn ed ct ti nm xa xb ma it vs se sm rs wk ors owk) H := hP
      have hD : va_D (blk a 15) (wMo cI cJ cZ a 1 kn ed ct ti nm xa xb ma it vs se sm rs wk ors owk) := hD
      refine lv_aload_n hx hb d_Md_operation_56 rfl (lv_at hl 0 rfl) ?_
      refine va_get (D := D) (ci := 9) (v := .int 1) (C := R_Md) (T := F_Md) (N := 17) hx hb hg in_Md hown hK hP 0 rfl rfl 0 (Nat.le_of_ble_eq_true rfl) (hg _ tw_706) (fun _ h9 => h9) rfl d_Md_operation_57 ?_
      refine lv_if_le (tgt := 65) hx hb d_Md_operation_60 (by decide) (fun hc => False.elim (by revert hc; decide)) (fun hc => ?_)
      refine lv_iconst (v := 0) hx hb d_Md_operation_63 (by decide) ?_
      rw [if_neg hc1, if_neg hc2] at hR
      subst hR
      exact W.iret (v := 0) hx hb hr (fun t9 ht hW => ⟨rfl, hS.F ht, by rw [ht]; exact hP⟩) hS.2.2 d_Md_operation_64
