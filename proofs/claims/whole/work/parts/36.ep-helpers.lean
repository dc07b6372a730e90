/-! EditablePast (by wip/whole/gen/ep.py) -/
set_option maxHeartbeats 4000000 in
set_option maxRecDepth 100000 in
theorem m_EP_checkMoment_ok (l : Launch) (D : va_G) (cI cJ cZ cO : ClassId) (t : Int32) (hm : okM t) : Met l y_EP_checkMoment (k_EP_checkMoment :: gt) rm_EP_checkMoment (Pc0 D cI cJ cZ cO [.int t] (fun H => True)) (Qp none) 0 0 (fun _ => False) := by
  refine Met.ofW (cc := c_EP_checkMoment) (maxL := 1) (ret := none) (by decide) rfl ?_
  intro p e s m args below meth c s₁ B hml hv
  obtain ⟨rfl, hKn, -⟩ := hv
  have hx := B.exec
  have hb := B.bytes
  have hr := B.returns
  have hts := atoms_spec (ws := k_EP_checkMoment :: gt) B.pre
  have hg : ∀ w ∈ gt, w.before _ s = true := fun w h => hts w (List.mem_cons_of_mem _ h)
  have hown : s.vm.findClass R_EP = some m.cls := findClass_of_methodNamed B.named
  have hlocks := B.notSynchronized
  have hK := hKn.1
  have hl := lv_entry ([.int t]) (n := 1) (Nat.le_of_ble_eq_true rfl)
  rw [lg_entry_eq]
  generalize (lg_sl ([.int t]) ++ List.replicate (1 - (lg_sl ([.int t])).length) Slot.unset).toArray = ls at hl ⊢
  have hl : lv_has ls 1 [(0, .int t)] := hl
  refine lv_iload_n hx hb d_EP_checkMoment_0 rfl (lv_at hl 0 rfl) ?_
  refine lv_iconst (v := 1) hx hb d_EP_checkMoment_1 (by decide) ?_
  refine lv_icmp_lt (tgt := 11) hx hb d_EP_checkMoment_2 (by decide) (fun hc => absurd hc hm.1) (fun hc => ?_)
  refine lv_iload_n hx hb d_EP_checkMoment_5 rfl (lv_at hl 0 rfl) ?_
  refine lv_ldc (v := 1000000000) hx hb hown (hg _ tw_343) d_EP_checkMoment_6 ?_
  refine lv_icmp_le (tgt := 21) hx hb d_EP_checkMoment_8 (by decide) (fun hc => ?_) (fun hc => absurd (Int32.not_lt.mp hm.2) hc)
  exact W.vret hx hb hr (fun t9 ht hW => ⟨rfl, ht⟩) (fun q h => nomatch h) d_EP_checkMoment_21

set_option maxHeartbeats 4000000 in
set_option maxRecDepth 100000 in
theorem m_EP_checkMoment_x (l : Launch) (hlt : l.stackTraces = false) (D : va_G) (cI cJ cZ cO : ClassId) (t : Int32) (hm : ¬ okM t) : vx_Met l y_EP_checkMoment (k_EP_checkMoment :: gt) rx_EP_checkMoment (PcX D cI cJ cZ cO (fun _ => False) [.int t] (fun H => True)) (Qn) (Xd (fun _ => False) E_IAE) 1 6 (fun _ => False) := by
  refine vx_ofW (cc := c_EP_checkMoment) (maxL := 1) (ret := none) (by decide) rfl ?_
  intro p e s m args below meth c s₁ B hml hno hv
  obtain ⟨rfl, hKn, hZ, -⟩ := hv
  have hx := B.exec
  have hb := B.bytes
  have hr := B.returns
  have hts := atoms_spec (ws := k_EP_checkMoment :: gt) B.pre
  have hg : ∀ w ∈ gt, w.before _ s = true := fun w h => hts w (List.mem_cons_of_mem _ h)
  have hown : s.vm.findClass R_EP = some m.cls := findClass_of_methodNamed B.named
  have hlocks := B.notSynchronized
  have hK := hKn.1
  have hl := lv_entry ([.int t]) (n := 1) (Nat.le_of_ble_eq_true rfl)
  rw [lg_entry_eq]
  generalize (lg_sl ([.int t]) ++ List.replicate (1 - (lg_sl ([.int t])).length) Slot.unset).toArray = ls at hl ⊢
  have hl : lv_has ls 1 [(0, .int t)] := hl
  have hS : va_S (fun _ => False) s.heap s.heap [] := va_S.rf
  refine lv_iload_n hx hb d_EP_checkMoment_0 rfl (lv_at hl 0 rfl) ?_
  refine lv_iconst (v := 1) hx hb d_EP_checkMoment_1 (by decide) ?_
  refine lv_icmp_lt (tgt := 11) hx hb d_EP_checkMoment_2 (by decide) (fun hc1 => ?_) (fun hc1 => ?_)
  · have hc1 : t < 1 := hc1
    obtain ⟨sa, hsa⟩ := hKn.2.2.2.2.2 ("EditablePast", 228, "there is no such moment") (by decide +kernel)
    exact vx_throwS (text := "there is no such moment") (names := th_n) hx hb hlt hown (by decide +kernel) (by decide +kernel) (hg _ tw_229) (hg _ tw_16) hsa (ta_IAE hg hKn) ta_IAE_o hZ.1 hZ.2 hS (hl.1.trans hml.symm) d_EP_checkMoment_11 d_EP_checkMoment_14 d_EP_checkMoment_15 d_EP_checkMoment_17 d_EP_checkMoment_20 (fun x h => (hno x h).elim) (Nat.le_of_ble_eq_true rfl) (Nat.le_of_ble_eq_true rfl) (Nat.le_of_ble_eq_true rfl) (Nat.le_of_ble_eq_true rfl) hlocks (fun t9 hv h1 h2 => ⟨rfl, F_ext hS h1 h2⟩) hS.2.2 (Nat.le_of_ble_eq_true rfl) (Nat.le_of_ble_eq_true rfl)
  · have hc1 : ¬ (t < 1) := hc1
    refine lv_iload_n hx hb d_EP_checkMoment_5 rfl (lv_at hl 0 rfl) ?_
    refine lv_ldc (v := 1000000000) hx hb hown (hg _ tw_343) d_EP_checkMoment_6 ?_
    refine lv_icmp_le (tgt := 21) hx hb d_EP_checkMoment_8 (by decide) (fun hc2 => ?_) (fun hc2 => ?_)
    · have hc2 : t ≤ 1000000000 := hc2
      exact (hm ⟨hc1, Int32.not_lt.mpr hc2⟩).elim
    · have hc2 : ¬ (t ≤ 1000000000) := hc2
      obtain ⟨sa, hsa⟩ := hKn.2.2.2.2.2 ("EditablePast", 228, "there is no such moment") (by decide +kernel)
      exact vx_throwS (text := "there is no such moment") (names := th_n) hx hb hlt hown (by decide +kernel) (by decide +kernel) (hg _ tw_229) (hg _ tw_16) hsa (ta_IAE hg hKn) ta_IAE_o hZ.1 hZ.2 hS (hl.1.trans hml.symm) d_EP_checkMoment_11 d_EP_checkMoment_14 d_EP_checkMoment_15 d_EP_checkMoment_17 d_EP_checkMoment_20 (fun x h => (hno x h).elim) (Nat.le_of_ble_eq_true rfl) (Nat.le_of_ble_eq_true rfl) (Nat.le_of_ble_eq_true rfl) (Nat.le_of_ble_eq_true rfl) hlocks (fun t9 hv h1 h2 => ⟨rfl, F_ext hS h1 h2⟩) hS.2.2 (Nat.le_of_ble_eq_true rfl) (Nat.le_of_ble_eq_true rfl)

set_option maxHeartbeats 4000000 in
set_option maxRecDepth 100000 in
theorem m_EP_checkKind_1 (l : Launch) (D : va_G) (cI cJ cZ cO : ClassId)  : Met l y_EP_checkKind (k_EP_checkKind :: gt) rm_EP_checkKind (Pc0 D cI cJ cZ cO [.int 1] (fun H => True)) (Qp none) 0 0 (fun _ => False) := by
  refine Met.ofW (cc := c_EP_checkKind) (maxL := 1) (ret := none) (by decide) rfl ?_
  intro p e s m args below meth c s₁ B hml hv
  obtain ⟨rfl, hKn, -⟩ := hv
  have hx := B.exec
  have hb := B.bytes
  have hr := B.returns
  have hts := atoms_spec (ws := k_EP_checkKind :: gt) B.pre
  have hg : ∀ w ∈ gt, w.before _ s = true := fun w h => hts w (List.mem_cons_of_mem _ h)
  have hown : s.vm.findClass R_EP = some m.cls := findClass_of_methodNamed B.named
  have hlocks := B.notSynchronized
  have hK := hKn.1
  have hl := lv_entry ([.int 1]) (n := 1) (Nat.le_of_ble_eq_true rfl)
  rw [lg_entry_eq]
  generalize (lg_sl ([.int 1]) ++ List.replicate (1 - (lg_sl ([.int 1])).length) Slot.unset).toArray = ls at hl ⊢
  have hl : lv_has ls 1 [(0, .int 1)] := hl
  refine lv_iload_n hx hb d_EP_checkKind_0 rfl (lv_at hl 0 rfl) ?_
  refine lv_if_ne (tgt := 14) hx hb d_EP_checkKind_1 (by decide) (fun hc => ?_) (fun hc => False.elim (by revert hc; decide))
  exact W.vret hx hb hr (fun t9 ht hW => ⟨rfl, ht⟩) (fun q h => nomatch h) d_EP_checkKind_14

set_option maxHeartbeats 4000000 in
set_option maxRecDepth 100000 in
theorem m_EP_checkKind_0 (l : Launch) (hlt : l.stackTraces = false) (D : va_G) (cI cJ cZ cO : ClassId)  : vx_Met l y_EP_checkKind (k_EP_checkKind :: gt) rx_EP_checkKind (PcX D cI cJ cZ cO (fun _ => False) [.int 0] (fun H => True)) (Qn) (Xd (fun _ => False) E_ISE) 1 6 (fun _ => False) := by
  refine vx_ofW (cc := c_EP_checkKind) (maxL := 1) (ret := none) (by decide) rfl ?_
  intro p e s m args below meth c s₁ B hml hno hv
  obtain ⟨rfl, hKn, hZ, -⟩ := hv
  have hx := B.exec
  have hb := B.bytes
  have hr := B.returns
  have hts := atoms_spec (ws := k_EP_checkKind :: gt) B.pre
  have hg : ∀ w ∈ gt, w.before _ s = true := fun w h => hts w (List.mem_cons_of_mem _ h)
  have hown : s.vm.findClass R_EP = some m.cls := findClass_of_methodNamed B.named
  have hlocks := B.notSynchronized
  have hK := hKn.1
  have hl := lv_entry ([.int 0]) (n := 1) (Nat.le_of_ble_eq_true rfl)
  rw [lg_entry_eq]
  generalize (lg_sl ([.int 0]) ++ List.replicate (1 - (lg_sl ([.int 0])).length) Slot.unset).toArray = ls at hl ⊢
  have hl : lv_has ls 1 [(0, .int 0)] := hl
  have hS : va_S (fun _ => False) s.heap s.heap [] := va_S.rf
  refine lv_iload_n hx hb d_EP_checkKind_0 rfl (lv_at hl 0 rfl) ?_
  refine lv_if_ne (tgt := 14) hx hb d_EP_checkKind_1 (by decide) (fun hc => False.elim (by revert hc; decide)) (fun hc => ?_)
  obtain ⟨sa, hsa⟩ := hKn.2.2.2.2.2 ("EditablePast", 230, "the call is not for collections of this kind") (by decide +kernel)
  exact vx_throwS (text := "the call is not for collections of this kind") (names := th_n) hx hb hlt hown (by decide +kernel) (by decide +kernel) (hg _ tw_304) (hg _ tw_17) hsa (ta_ISE hg hKn) ta_ISE_o hZ.1 hZ.2 hS (hl.1.trans hml.symm) d_EP_checkKind_4 d_EP_checkKind_7 d_EP_checkKind_8 d_EP_checkKind_10 d_EP_checkKind_13 (fun x h => (hno x h).elim) (Nat.le_of_ble_eq_true rfl) (Nat.le_of_ble_eq_true rfl) (Nat.le_of_ble_eq_true rfl) (Nat.le_of_ble_eq_true rfl) hlocks (fun t9 hv h1 h2 => ⟨rfl, F_ext hS h1 h2⟩) hS.2.2 (Nat.le_of_ble_eq_true rfl) (Nat.le_of_ble_eq_true rfl)

set_option maxHeartbeats 4000000 in
set_option maxRecDepth 100000 in
theorem m_EP_checkFree_ok (l : Launch) (D : va_G) (cI cJ cZ cO : ClassId) (a : Nat) (n : Nat) (mo : Nat → Int32) (na : Nat → Int32) (aa : Nat → Int32) (bb : Nat → Int32) (re : Nat → Int64) (ef : Nat → Int32) (t : Int32) (hn : n ≤ 32) (hf : pat mo t n = -1) : Met l y_EP_checkFree (k_EP_checkFree :: gt) rm_EP_checkFree (Pc0 D cI cJ cZ cO [.ref a, .int t] (fun H => va_P D cls (wLi cI cJ cZ a n mo na aa bb re ef) H)) (Qp none) 0 0 (fun _ => False) := by
  refine Met.ofW (cc := c_EP_checkFree) (maxL := 2) (ret := none) (by decide) rfl ?_
  intro p e s m args below meth c s₁ B hml hv
  obtain ⟨rfl, hKn, hN⟩ := hv
  have hx := B.exec
  have hb := B.bytes
  have hr := B.returns
  have hts := atoms_spec (ws := k_EP_checkFree :: gt) B.pre
  have hg : ∀ w ∈ gt, w.before _ s = true := fun w h => hts w (List.mem_cons_of_mem _ h)
  have hown : s.vm.findClass R_EP = some m.cls := findClass_of_methodNamed B.named
  have hlocks := B.notSynchronized
  have hK := hKn.1
  have hl := lv_entry ([.ref a, .int t]) (n := 2) (Nat.le_of_ble_eq_true rfl)
  rw [lg_entry_eq]
  generalize (lg_sl ([.ref a, .int t]) ++ List.replicate (2 - (lg_sl ([.ref a, .int t])).length) Slot.unset).toArray = ls at hl ⊢
  have hl : lv_has ls 2 [(0, .ref a), (1, .int t)] := hl
  refine lv_aload_n hx hb d_EP_checkFree_0 rfl (lv_at hl 0 rfl) ?_
  refine lv_iload_n hx hb d_EP_checkFree_1 rfl (lv_at hl 1 rfl) ?_
  refine ep_callP (W.runV (As := [.int t]) (rest := []) ⟨hx, hb, hml, hown, hg⟩ (m_Li_placeAt l D cI cJ cZ cO a n mo na aa bb re ef t hn) (ep_cwV 1 hg tw_348 tw_349 tw_350 tw_3 tk_Li_placeAt rfl rfl (by decide +kernel) ⟨(Nat.le_of_ble_eq_true rfl), (Nat.le_of_ble_eq_true rfl)⟩) ⟨ep_blind, va_recv (q0 := 0) (ci := 1) hK hN rfl rfl, ep_pre hKn (hN)⟩ rfl rfl hl.1 rfl (lv_room (Nat.le_of_ble_eq_true rfl)) d_EP_checkFree_2 ⟨Nat.zero_le _, Nat.zero_le _⟩) ?_
  refine W.eq (g2 := F0 m 5 ls [.int (pat mo t n)]) rfl ?_
  refine lv_topi (fun z9 e_z9 => ?_)
  obtain rfl : z9 = (-1) := by rw [e_z9]; exact hf
  refine lv_iconst (v := (-1)) hx hb d_EP_checkFree_5 (by decide) ?_
  refine lv_icmp_eq (tgt := 19) hx hb d_EP_checkFree_6 (by decide) (fun hc => ?_) (fun hc => False.elim (by revert hc; decide))
  exact W.vret hx hb hr (fun t9 ht hW => ⟨rfl, ht⟩) (fun q h => nomatch h) d_EP_checkFree_19

set_option maxHeartbeats 4000000 in
set_option maxRecDepth 100000 in
theorem m_EP_checkFree_x (l : Launch) (hlt : l.stackTraces = false) (D : va_G) (cI cJ cZ cO : ClassId) (a : Nat) (n : Nat) (mo : Nat → Int32) (na : Nat → Int32) (aa : Nat → Int32) (bb : Nat → Int32) (re : Nat → Int64) (ef : Nat → Int32) (t : Int32) (hn : n ≤ 32) (hf : ¬ pat mo t n = -1) : vx_Met l y_EP_checkFree (k_EP_checkFree :: gt) rx_EP_checkFree (PcX D cI cJ cZ cO (fun _ => False) [.ref a, .int t] (fun H => va_P D cls (wLi cI cJ cZ a n mo na aa bb re ef) H)) (Qn) (Xd (fun _ => False) E_ISE) 1 6 (fun _ => False) := by
  refine vx_ofW (cc := c_EP_checkFree) (maxL := 2) (ret := none) (by decide) rfl ?_
  intro p e s m args below meth c s₁ B hml hno hv
  obtain ⟨rfl, hKn, hZ, hN⟩ := hv
  have hx := B.exec
  have hb := B.bytes
  have hr := B.returns
  have hts := atoms_spec (ws := k_EP_checkFree :: gt) B.pre
  have hg : ∀ w ∈ gt, w.before _ s = true := fun w h => hts w (List.mem_cons_of_mem _ h)
  have hown : s.vm.findClass R_EP = some m.cls := findClass_of_methodNamed B.named
  have hlocks := B.notSynchronized
  have hK := hKn.1
  have hl := lv_entry ([.ref a, .int t]) (n := 2) (Nat.le_of_ble_eq_true rfl)
  rw [lg_entry_eq]
  generalize (lg_sl ([.ref a, .int t]) ++ List.replicate (2 - (lg_sl ([.ref a, .int t])).length) Slot.unset).toArray = ls at hl ⊢
  have hl : lv_has ls 2 [(0, .ref a), (1, .int t)] := hl
  have hS : va_S (fun _ => False) s.heap s.heap [] := va_S.rf
  refine lv_aload_n hx hb d_EP_checkFree_0 rfl (lv_at hl 0 rfl) ?_
  refine lv_iload_n hx hb d_EP_checkFree_1 rfl (lv_at hl 1 rfl) ?_
  refine ep_callP (W.runV (As := [.int t]) (rest := []) ⟨hx, hb, hml, hown, hg⟩ (m_Li_placeAt l D cI cJ cZ cO a n mo na aa bb re ef t hn) (ep_cwV 1 hg tw_348 tw_349 tw_350 tw_3 tk_Li_placeAt rfl rfl (by decide +kernel) ⟨(Nat.le_of_ble_eq_true rfl), (Nat.le_of_ble_eq_true rfl)⟩) ⟨ep_blind, va_recv (q0 := 0) (ci := 1) hK hN rfl rfl, ep_pre hKn (hN)⟩ rfl rfl hl.1 rfl (lv_room (Nat.le_of_ble_eq_true rfl)) d_EP_checkFree_2 ⟨Nat.zero_le _, Nat.zero_le _⟩) ?_
  refine W.eq (g2 := F0 m 5 ls [.int (pat mo t n)]) rfl ?_
  refine lv_iconst (v := (-1)) hx hb d_EP_checkFree_5 (by decide) ?_
  refine lv_icmp_eq (tgt := 19) hx hb d_EP_checkFree_6 (by decide) (fun hc => absurd hc hf) (fun hc => ?_)
  obtain ⟨sa, hsa⟩ := hKn.2.2.2.2.2 ("EditablePast", 232, "the moment is taken") (by decide +kernel)
  exact vx_throwS (text := "the moment is taken") (names := th_n) hx hb hlt hown (by decide +kernel) (by decide +kernel) (hg _ tw_304) (hg _ tw_17) hsa (ta_ISE hg hKn) ta_ISE_o hZ.1 hZ.2 hS (hl.1.trans hml.symm) d_EP_checkFree_9 d_EP_checkFree_12 d_EP_checkFree_13 d_EP_checkFree_15 d_EP_checkFree_18 (fun x h => (hno x h).elim) (Nat.le_of_ble_eq_true rfl) (Nat.le_of_ble_eq_true rfl) (Nat.le_of_ble_eq_true rfl) (Nat.le_of_ble_eq_true rfl) hlocks (fun t9 hv h1 h2 => ⟨rfl, F_ext hS h1 h2⟩) hS.2.2 (Nat.le_of_ble_eq_true rfl) (Nat.le_of_ble_eq_true rfl)

set_option maxHeartbeats 4000000 in
set_option maxRecDepth 100000 in
theorem m_EP_takenPlace_ok (l : Launch) (D : va_G) (cI cJ cZ cO : ClassId) (a : Nat) (n : Nat) (mo : Nat → Int32) (na : Nat → Int32) (aa : Nat → Int32) (bb : Nat → Int32) (re : Nat → Int64) (ef : Nat → Int32) (t : Int32) (p9 : Nat) (hn : n ≤ 32) (hp9 : p9 < n) (hf : pat mo t n = nI p9) : Met l y_EP_takenPlace (k_EP_takenPlace :: gt) rm_EP_takenPlace (Pc0 D cI cJ cZ cO [.ref a, .int t] (fun H => va_P D cls (wLi cI cJ cZ a n mo na aa bb re ef) H)) (Qp (some (.int (nI p9)))) 0 0 (fun _ => False) := by
  refine Met.ofW (cc := c_EP_takenPlace) (maxL := 3) (ret := (Option.some FieldType.int)) (by decide) rfl ?_
  intro p e s m args below meth c s₁ B hml hv
  obtain ⟨rfl, hKn, hN⟩ := hv
  have hx := B.exec
  have hb := B.bytes
  have hr := B.returns
  have hts := atoms_spec (ws := k_EP_takenPlace :: gt) B.pre
  have hg : ∀ w ∈ gt, w.before _ s = true := fun w h => hts w (List.mem_cons_of_mem _ h)
  have hown : s.vm.findClass R_EP = some m.cls := findClass_of_methodNamed B.named
  have hlocks := B.notSynchronized
  have hK := hKn.1
  have hl := lv_entry ([.ref a, .int t]) (n := 3) (Nat.le_of_ble_eq_true rfl)
  rw [lg_entry_eq]
  generalize (lg_sl ([.ref a, .int t]) ++ List.replicate (3 - (lg_sl ([.ref a, .int t])).length) Slot.unset).toArray = ls at hl ⊢
  have hl : lv_has ls 3 [(0, .ref a), (1, .int t)] := hl
  refine lv_aload_n hx hb d_EP_takenPlace_0 rfl (lv_at hl 0 rfl) ?_
  refine lv_iload_n hx hb d_EP_takenPlace_1 rfl (lv_at hl 1 rfl) ?_
  refine ep_callP (W.runV (As := [.int t]) (rest := []) ⟨hx, hb, hml, hown, hg⟩ (m_Li_placeAt l D cI cJ cZ cO a n mo na aa bb re ef t hn) (ep_cwV 1 hg tw_348 tw_349 tw_350 tw_3 tk_Li_placeAt rfl rfl (by decide +kernel) ⟨(Nat.le_of_ble_eq_true rfl), (Nat.le_of_ble_eq_true rfl)⟩) ⟨ep_blind, va_recv (q0 := 0) (ci := 1) hK hN rfl rfl, ep_pre hKn (hN)⟩ rfl rfl hl.1 rfl (lv_room (Nat.le_of_ble_eq_true rfl)) d_EP_takenPlace_2 ⟨Nat.zero_le _, Nat.zero_le _⟩) ?_
  refine W.eq (g2 := F0 m 5 ls [.int (pat mo t n)]) rfl ?_
  refine lv_topi (fun z9 e_z9 => ?_)
  obtain rfl : z9 = nI p9 := by rw [e_z9]; exact hf
  refine lv_istore_n (lv' := [(2, .int (nI p9)), (0, .ref a), (1, .int t)]) hx hb d_EP_takenPlace_5 rfl hl (by decide) rfl (fun ls hl => ?_)
  refine lv_iload_n hx hb d_EP_takenPlace_6 rfl (lv_at hl 0 rfl) ?_
  refine lv_iconst (v := (-1)) hx hb d_EP_takenPlace_7 (by decide) ?_
  refine lv_icmp_ne (tgt := 21) hx hb d_EP_takenPlace_8 (by decide) (fun hc => ?_) (fun hc => absurd hc (nI_ne_m1 (by omega)))
  refine lv_iload_n hx hb d_EP_takenPlace_21 rfl (lv_at hl 0 rfl) ?_
  exact W.iret (v := (nI p9)) hx hb hr (fun t9 ht hW => ⟨rfl, ht⟩) (fun q h => nomatch h) d_EP_takenPlace_22

set_option maxHeartbeats 4000000 in
set_option maxRecDepth 100000 in
theorem m_EP_takenPlace_x (l : Launch) (hlt : l.stackTraces = false) (D : va_G) (cI cJ cZ cO : ClassId) (a : Nat) (n : Nat) (mo : Nat → Int32) (na : Nat → Int32) (aa : Nat → Int32) (bb : Nat → Int32) (re : Nat → Int64) (ef : Nat → Int32) (t : Int32) (hn : n ≤ 32) (hf : pat mo t n = -1) : vx_Met l y_EP_takenPlace (k_EP_takenPlace :: gt) rx_EP_takenPlace (PcX D cI cJ cZ cO (fun _ => False) [.ref a, .int t] (fun H => va_P D cls (wLi cI cJ cZ a n mo na aa bb re ef) H)) (Qn) (Xd (fun _ => False) E_NSE) 1 6 (fun _ => False) := by
  refine vx_ofW (cc := c_EP_takenPlace) (maxL := 3) (ret := (Option.some FieldType.int)) (by decide) rfl ?_
  intro p e s m args below meth c s₁ B hml hno hv
  obtain ⟨rfl, hKn, hZ, hN⟩ := hv
  have hx := B.exec
  have hb := B.bytes
  have hr := B.returns
  have hts := atoms_spec (ws := k_EP_takenPlace :: gt) B.pre
  have hg : ∀ w ∈ gt, w.before _ s = true := fun w h => hts w (List.mem_cons_of_mem _ h)
  have hown : s.vm.findClass R_EP = some m.cls := findClass_of_methodNamed B.named
  have hlocks := B.notSynchronized
  have hK := hKn.1
  have hl := lv_entry ([.ref a, .int t]) (n := 3) (Nat.le_of_ble_eq_true rfl)
  rw [lg_entry_eq]
  generalize (lg_sl ([.ref a, .int t]) ++ List.replicate (3 - (lg_sl ([.ref a, .int t])).length) Slot.unset).toArray = ls at hl ⊢
  have hl : lv_has ls 3 [(0, .ref a), (1, .int t)] := hl
  have hS : va_S (fun _ => False) s.heap s.heap [] := va_S.rf
  refine lv_aload_n hx hb d_EP_takenPlace_0 rfl (lv_at hl 0 rfl) ?_
  refine lv_iload_n hx hb d_EP_takenPlace_1 rfl (lv_at hl 1 rfl) ?_
  refine ep_callP (W.runV (As := [.int t]) (rest := []) ⟨hx, hb, hml, hown, hg⟩ (m_Li_placeAt l D cI cJ cZ cO a n mo na aa bb re ef t hn) (ep_cwV 1 hg tw_348 tw_349 tw_350 tw_3 tk_Li_placeAt rfl rfl (by decide +kernel) ⟨(Nat.le_of_ble_eq_true rfl), (Nat.le_of_ble_eq_true rfl)⟩) ⟨ep_blind, va_recv (q0 := 0) (ci := 1) hK hN rfl rfl, ep_pre hKn (hN)⟩ rfl rfl hl.1 rfl (lv_room (Nat.le_of_ble_eq_true rfl)) d_EP_takenPlace_2 ⟨Nat.zero_le _, Nat.zero_le _⟩) ?_
  refine W.eq (g2 := F0 m 5 ls [.int (pat mo t n)]) rfl ?_
  refine lv_topi (fun z9 e_z9 => ?_)
  obtain rfl : z9 = (-1) := by rw [e_z9]; exact hf
  refine lv_istore_n (lv' := [(2, .int (-1)), (0, .ref a), (1, .int t)]) hx hb d_EP_takenPlace_5 rfl hl (by decide) rfl (fun ls hl => ?_)
  refine lv_iload_n hx hb d_EP_takenPlace_6 rfl (lv_at hl 0 rfl) ?_
  refine lv_iconst (v := (-1)) hx hb d_EP_takenPlace_7 (by decide) ?_
  refine lv_icmp_ne (tgt := 21) hx hb d_EP_takenPlace_8 (by decide) (fun hc => False.elim (by revert hc; decide)) (fun hc => ?_)
  obtain ⟨sa, hsa⟩ := hKn.2.2.2.2.2 ("EditablePast", 234, "there is no operation at the moment") (by decide +kernel)
  exact tn_throw (text := "there is no operation at the moment") (names := ["java/lang/Exception"]) hx hb hlt hown (by decide +kernel) (by decide +kernel) (by decide +kernel) (by decide +kernel) (by decide +kernel) (by decide +kernel) (by decide +kernel) (hg _ tw_542) (hg _ tw_20) hsa (ta_NSE hg hKn) ta_NSE_o hZ.1 hZ.2 hS (hl.1.trans hml.symm) d_EP_takenPlace_11 d_EP_takenPlace_14 d_EP_takenPlace_15 d_EP_takenPlace_17 d_EP_takenPlace_20 (fun x h => (hno x h).elim) (Nat.le_of_ble_eq_true rfl) (Nat.le_of_ble_eq_true rfl) (Nat.le_of_ble_eq_true rfl) (Nat.le_of_ble_eq_true rfl) hlocks (fun t9 hv h1 h2 => ⟨rfl, F_ext hS h1 h2⟩) hS.2.2 (Nat.le_of_ble_eq_true rfl) (Nat.le_of_ble_eq_true rfl)

set_option maxHeartbeats 4000000 in
set_option maxRecDepth 100000 in
theorem m_EP_isValue (l : Launch) (D : va_G) (cI cJ cZ cO : ClassId) (x : Int32) : Met l y_EP_isValue (k_EP_isValue :: gt) rm_EP_isValue (Pc0 D cI cJ cZ cO [.int x] (fun H => True)) (Qp (some (.int (bI (okV x))))) 0 0 (fun _ => False) := by
  refine Met.ofW (cc := c_EP_isValue) (maxL := 1) (ret := (Option.some FieldType.boolean)) (by decide) rfl ?_
  intro p e s m args below meth c s₁ B hml hv
  obtain ⟨rfl, hKn, -⟩ := hv
  have hx := B.exec
  have hb := B.bytes
  have hr := B.returns
  have hts := atoms_spec (ws := k_EP_isValue :: gt) B.pre
  have hg : ∀ w ∈ gt, w.before _ s = true := fun w h => hts w (List.mem_cons_of_mem _ h)
  have hown : s.vm.findClass R_EP = some m.cls := findClass_of_methodNamed B.named
  have hlocks := B.notSynchronized
  have hK := hKn.1
  have hl := lv_entry ([.int x]) (n := 1) (Nat.le_of_ble_eq_true rfl)
  rw [lg_entry_eq]
  generalize (lg_sl ([.int x]) ++ List.replicate (1 - (lg_sl ([.int x])).length) Slot.unset).toArray = ls at hl ⊢
  have hl : lv_has ls 1 [(0, .int x)] := hl
  refine lv_iload_n hx hb d_EP_isValue_0 rfl (lv_at hl 0 rfl) ?_
  refine lv_if_lt (tgt := 14) hx hb d_EP_isValue_1 (by decide) (fun hc1 => ?_) (fun hc1 => ?_)
  · have hc1 : x < 0 := hc1
    refine lv_iconst (v := 0) hx hb d_EP_isValue_14 (by decide) ?_
    exact W.zret (v := 0) hx hb hr (by decide) (fun t9 ht hW => ⟨by rw [show bI (okV x) = 0 from if_neg (by simp [okV, hc1])], ht⟩) (fun q h => nomatch h) d_EP_isValue_15
  · have hc1 : ¬ (x < 0) := hc1
    refine lv_iload_n hx hb d_EP_isValue_4 rfl (lv_at hl 0 rfl) ?_
    refine lv_ldc (v := 1000000000) hx hb hown (hg _ tw_343) d_EP_isValue_5 ?_
    refine lv_icmp_gt (tgt := 14) hx hb d_EP_isValue_7 (by decide) (fun hc2 => ?_) (fun hc2 => ?_)
    · have hc2 : 1000000000 < x := hc2
      refine lv_iconst (v := 0) hx hb d_EP_isValue_14 (by decide) ?_
      exact W.zret (v := 0) hx hb hr (by decide) (fun t9 ht hW => ⟨by rw [show bI (okV x) = 0 from if_neg (by simp [okV, hc1, hc2])], ht⟩) (fun q h => nomatch h) d_EP_isValue_15
    · have hc2 : ¬ (1000000000 < x) := hc2
      refine lv_iconst (v := 1) hx hb d_EP_isValue_10 (by decide) ?_
      refine lv_goto (tgt := 15) hx hb d_EP_isValue_11 (by decide) ?_
      exact W.zret (v := 1) hx hb hr (by decide) (fun t9 ht hW => ⟨by rw [show bI (okV x) = 1 from if_pos (by simp [okV, hc1, hc2])], ht⟩) (fun q h => nomatch h) d_EP_isValue_15

set_option maxHeartbeats 4000000 in
set_option maxRecDepth 100000 in
theorem m_EP_isElement (l : Launch) (D : va_G) (cI cJ cZ cO : ClassId) (x : Int32) : Met l y_EP_isElement (k_EP_isElement :: gt) rm_EP_isElement (Pc0 D cI cJ cZ cO [.int x] (fun H => True)) (Qp (some (.int (bI (okE x))))) 0 0 (fun _ => False) := by
  refine Met.ofW (cc := c_EP_isElement) (maxL := 1) (ret := (Option.some FieldType.boolean)) (by decide) rfl ?_
  intro p e s m args below meth c s₁ B hml hv
  obtain ⟨rfl, hKn, -⟩ := hv
  have hx := B.exec
  have hb := B.bytes
  have hr := B.returns
  have hts := atoms_spec (ws := k_EP_isElement :: gt) B.pre
  have hg : ∀ w ∈ gt, w.before _ s = true := fun w h => hts w (List.mem_cons_of_mem _ h)
  have hown : s.vm.findClass R_EP = some m.cls := findClass_of_methodNamed B.named
  have hlocks := B.notSynchronized
  have hK := hKn.1
  have hl := lv_entry ([.int x]) (n := 1) (Nat.le_of_ble_eq_true rfl)
  rw [lg_entry_eq]
  generalize (lg_sl ([.int x]) ++ List.replicate (1 - (lg_sl ([.int x])).length) Slot.unset).toArray = ls at hl ⊢
  have hl : lv_has ls 1 [(0, .int x)] := hl
  refine lv_iload_n hx hb d_EP_isElement_0 rfl (lv_at hl 0 rfl) ?_
  refine lv_if_lt (tgt := 14) hx hb d_EP_isElement_1 (by decide) (fun hc1 => ?_) (fun hc1 => ?_)
  · have hc1 : x < 0 := hc1
    refine lv_iconst (v := 0) hx hb d_EP_isElement_14 (by decide) ?_
    exact W.zret (v := 0) hx hb hr (by decide) (fun t9 ht hW => ⟨by rw [show bI (okE x) = 0 from if_neg (by simp [okE, hc1])], ht⟩) (fun q h => nomatch h) d_EP_isElement_15
  · have hc1 : ¬ (x < 0) := hc1
    refine lv_iload_n hx hb d_EP_isElement_4 rfl (lv_at hl 0 rfl) ?_
    refine lv_bipush (v := 16) hx hb d_EP_isElement_5 (by decide) ?_
    refine lv_icmp_ge (tgt := 14) hx hb d_EP_isElement_7 (by decide) (fun hc2 => ?_) (fun hc2 => ?_)
    · have hc2 : 16 ≤ x := hc2
      refine lv_iconst (v := 0) hx hb d_EP_isElement_14 (by decide) ?_
      exact W.zret (v := 0) hx hb hr (by decide) (fun t9 ht hW => ⟨by rw [show bI (okE x) = 0 from if_neg (by simp [okE, hc1, hc2])], ht⟩) (fun q h => nomatch h) d_EP_isElement_15
    · have hc2 : ¬ (16 ≤ x) := hc2
      refine lv_iconst (v := 1) hx hb d_EP_isElement_10 (by decide) ?_
      refine lv_goto (tgt := 15) hx hb d_EP_isElement_11 (by decide) ?_
      exact W.zret (v := 1) hx hb hr (by decide) (fun t9 ht hW => ⟨by rw [show bI (okE x) = 1 from if_pos (by simp [okE, hc1, hc2])], ht⟩) (fun q h => nomatch h) d_EP_isElement_15

set_option maxHeartbeats 4000000 in
set_option maxRecDepth 100000 in
theorem m_EP_collectionOf_ok (l : Launch) (D : va_G) (cI cJ cZ cO : ClassId) (o : Nat) (j : Nat) (hj : j < 4) : Met l y_EP_collectionOf (k_EP_collectionOf :: gt) rm_EP_collectionOf (Pc0 D cI cJ cZ cO [.ref o, .int (nI j)] (fun H => va_P D cls (wEP cO o) H)) (Qp (some (.ref (o + 2 + 15 * j)))) 0 0 (fun _ => False) := by
  refine Met.ofW (cc := c_EP_collectionOf) (maxL := 2) (ret := (Option.some (FieldType.object "EditablePast$Collection"))) (by decide) rfl ?_
  intro p e s m args below meth c s₁ B hml hv
  obtain ⟨rfl, hKn, hE⟩ := hv
  have hx := B.exec
  have hb := B.bytes
  have hr := B.returns
  have hts := atoms_spec (ws := k_EP_collectionOf :: gt) B.pre
  have hg : ∀ w ∈ gt, w.before _ s = true := fun w h => hts w (List.mem_cons_of_mem _ h)
  have hown : s.vm.findClass R_EP = some m.cls := findClass_of_methodNamed B.named
  have hlocks := B.notSynchronized
  have hK := hKn.1
  have hl := lv_entry ([.ref o, .int (nI j)]) (n := 2) (Nat.le_of_ble_eq_true rfl)
  rw [lg_entry_eq]
  generalize (lg_sl ([.ref o, .int (nI j)]) ++ List.replicate (2 - (lg_sl ([.ref o, .int (nI j)])).length) Slot.unset).toArray = ls at hl ⊢
  have hl : lv_has ls 2 [(0, .ref o), (1, .int (nI j))] := hl
  refine lv_iload_n hx hb d_EP_collectionOf_0 rfl (lv_at hl 1 rfl) ?_
  refine lv_if_lt (tgt := 9) hx hb d_EP_collectionOf_1 (by decide) (fun hc => False.elim (by have hc := (nI_ltI (a := j) (b := 0) (by omega) (by omega)).mp hc; omega)) (fun hc => ?_)
  refine lv_iload_n hx hb d_EP_collectionOf_4 rfl (lv_at hl 1 rfl) ?_
  refine lv_iconst (v := 4) hx hb d_EP_collectionOf_5 (by decide) ?_
  refine lv_icmp_lt (tgt := 19) hx hb d_EP_collectionOf_6 (by decide) (fun hc => ?_) (fun hc => False.elim (by have hc : ¬ (j < 4) := fun h => hc (by exact (nI_ltI (a := j) (b := 4) (by omega) (by omega)).mpr h); omega))
  refine lv_aload_n hx hb d_EP_collectionOf_19 rfl (lv_at hl 0 rfl) ?_
  refine va_get (D := D) (ci := 8) (v := .ref (o + 1)) (C := R_EP) (T := F_EP) (N := 7) hx hb hg in_EP hown hK hE 0 rfl rfl 0 (Nat.le_of_ble_eq_true rfl) (hg _ tw_198) (fun _ h9 => h9) rfl d_EP_collectionOf_20 ?_
  refine lv_iload_n hx hb d_EP_collectionOf_23 rfl (lv_at hl 1 rfl) ?_
  refine ep_aald hx hb hK hE 1 3 rfl rfl (i := j) (b := (o + 2 + 15 * j)) rfl (by omega) (by decide) d_EP_collectionOf_24 ?_
  exact W.aret (v := .ref (o + 2 + 15 * j)) hx hb hr (Or.inl ⟨_, rfl⟩) (Or.inr ⟨_, rfl⟩) (fun t9 ht hW => ⟨rfl, ht⟩) (fun q h => nomatch h) d_EP_collectionOf_25

set_option maxHeartbeats 4000000 in
set_option maxRecDepth 100000 in
theorem m_EP_collectionOf_x (l : Launch) (hlt : l.stackTraces = false) (D : va_G) (cI cJ cZ cO : ClassId) (o : Nat) (id : Int32) (hid : ¬ okI id) : vx_Met l y_EP_collectionOf (k_EP_collectionOf :: gt) rx_EP_collectionOf (PcX D cI cJ cZ cO (fun _ => False) [.ref o, .int id] (fun H => va_P D cls (wEP cO o) H)) (Qn) (Xd (fun _ => False) E_IAE) 1 6 (fun _ => False) := by
  refine vx_ofW (cc := c_EP_collectionOf) (maxL := 2) (ret := (Option.some (FieldType.object "EditablePast$Collection"))) (by decide) rfl ?_
  intro p e s m args below meth c s₁ B hml hno hv
  obtain ⟨rfl, hKn, hZ, hE⟩ := hv
  have hx := B.exec
  have hb := B.bytes
  have hr := B.returns
  have hts := atoms_spec (ws := k_EP_collectionOf :: gt) B.pre
  have hg : ∀ w ∈ gt, w.before _ s = true := fun w h => hts w (List.mem_cons_of_mem _ h)
  have hown : s.vm.findClass R_EP = some m.cls := findClass_of_methodNamed B.named
  have hlocks := B.notSynchronized
  have hK := hKn.1
  have hl := lv_entry ([.ref o, .int id]) (n := 2) (Nat.le_of_ble_eq_true rfl)
  rw [lg_entry_eq]
  generalize (lg_sl ([.ref o, .int id]) ++ List.replicate (2 - (lg_sl ([.ref o, .int id])).length) Slot.unset).toArray = ls at hl ⊢
  have hl : lv_has ls 2 [(0, .ref o), (1, .int id)] := hl
  have hS : va_S (fun _ => False) s.heap s.heap [] := va_S.rf
  refine lv_iload_n hx hb d_EP_collectionOf_0 rfl (lv_at hl 1 rfl) ?_
  refine lv_if_lt (tgt := 9) hx hb d_EP_collectionOf_1 (by decide) (fun hc1 => ?_) (fun hc1 => ?_)
  · have hc1 : id < 0 := hc1
    obtain ⟨sa, hsa⟩ := hKn.2.2.2.2.2 ("EditablePast", 223, "there is no such collection") (by decide +kernel)
    exact vx_throwS (text := "there is no such collection") (names := th_n) hx hb hlt hown (by decide +kernel) (by decide +kernel) (hg _ tw_229) (hg _ tw_16) hsa (ta_IAE hg hKn) ta_IAE_o hZ.1 hZ.2 hS (hl.1.trans hml.symm) d_EP_collectionOf_9 d_EP_collectionOf_12 d_EP_collectionOf_13 d_EP_collectionOf_15 d_EP_collectionOf_18 (fun x h => (hno x h).elim) (Nat.le_of_ble_eq_true rfl) (Nat.le_of_ble_eq_true rfl) (Nat.le_of_ble_eq_true rfl) (Nat.le_of_ble_eq_true rfl) hlocks (fun t9 hv h1 h2 => ⟨rfl, F_ext hS h1 h2⟩) hS.2.2 (Nat.le_of_ble_eq_true rfl) (Nat.le_of_ble_eq_true rfl)
  · have hc1 : ¬ (id < 0) := hc1
    refine lv_iload_n hx hb d_EP_collectionOf_4 rfl (lv_at hl 1 rfl) ?_
    refine lv_iconst (v := 4) hx hb d_EP_collectionOf_5 (by decide) ?_
    refine lv_icmp_lt (tgt := 19) hx hb d_EP_collectionOf_6 (by decide) (fun hc2 => ?_) (fun hc2 => ?_)
    · have hc2 : id < 4 := hc2
      exact (hid ⟨hc1, k2_nle hc2⟩).elim
    · have hc2 : ¬ (id < 4) := hc2
      obtain ⟨sa, hsa⟩ := hKn.2.2.2.2.2 ("EditablePast", 223, "there is no such collection") (by decide +kernel)
      exact vx_throwS (text := "there is no such collection") (names := th_n) hx hb hlt hown (by decide +kernel) (by decide +kernel) (hg _ tw_229) (hg _ tw_16) hsa (ta_IAE hg hKn) ta_IAE_o hZ.1 hZ.2 hS (hl.1.trans hml.symm) d_EP_collectionOf_9 d_EP_collectionOf_12 d_EP_collectionOf_13 d_EP_collectionOf_15 d_EP_collectionOf_18 (fun x h => (hno x h).elim) (Nat.le_of_ble_eq_true rfl) (Nat.le_of_ble_eq_true rfl) (Nat.le_of_ble_eq_true rfl) (Nat.le_of_ble_eq_true rfl) hlocks (fun t9 hv h1 h2 => ⟨rfl, F_ext hS h1 h2⟩) hS.2.2 (Nat.le_of_ble_eq_true rfl) (Nat.le_of_ble_eq_true rfl)

set_option maxHeartbeats 4000000 in
set_option maxRecDepth 100000 in
theorem m_EP_openCollection_ok (l : Launch) (D : va_G) (cI cJ cZ cO : ClassId) (o : Nat) (j : Nat) (kd : Int32) (hj : j < 4) (hkd : ¬ kd = -1) : Met l y_EP_openCollection (k_EP_openCollection :: gt) rm_EP_openCollection (Pc0 D cI cJ cZ cO [.ref o, .int (nI j)] (fun H => va_P D cls (wEP cO o) H ∧ va_P D cls (wCo (o + 2 + 15 * j) kd) H)) (Qp (some (.ref (o + 2 + 15 * j)))) 0 0 (fun _ => False) := by
  refine Met.ofW (cc := c_EP_openCollection) (maxL := 3) (ret := (Option.some (FieldType.object "EditablePast$Collection"))) (by decide) rfl ?_
  intro p e s m args below meth c s₁ B hml hv
  obtain ⟨rfl, hKn, hE, hC⟩ := hv
  have hx := B.exec
  have hb := B.bytes
  have hr := B.returns
  have hts := atoms_spec (ws := k_EP_openCollection :: gt) B.pre
  have hg : ∀ w ∈ gt, w.before _ s = true := fun w h => hts w (List.mem_cons_of_mem _ h)
  have hown : s.vm.findClass R_EP = some m.cls := findClass_of_methodNamed B.named
  have hlocks := B.notSynchronized
  have hK := hKn.1
  have hl := lv_entry ([.ref o, .int (nI j)]) (n := 3) (Nat.le_of_ble_eq_true rfl)
  rw [lg_entry_eq]
  generalize (lg_sl ([.ref o, .int (nI j)]) ++ List.replicate (3 - (lg_sl ([.ref o, .int (nI j)])).length) Slot.unset).toArray = ls at hl ⊢
  have hl : lv_has ls 3 [(0, .ref o), (1, .int (nI j))] := hl
  refine lv_aload_n hx hb d_EP_openCollection_0 rfl (lv_at hl 0 rfl) ?_
  refine lv_iload_n hx hb d_EP_openCollection_1 rfl (lv_at hl 1 rfl) ?_
  refine ep_callP (W.runV (As := [.int (nI j)]) (rest := []) ⟨hx, hb, hml, hown, hg⟩ (m_EP_collectionOf_ok l D cI cJ cZ cO o j (by omega)) (ep_cwV 1 hg tw_299 tw_301 ts_1 tw_1 tk_EP_collectionOf rfl rfl (by decide +kernel) ⟨(Nat.le_of_ble_eq_true rfl), (Nat.le_of_ble_eq_true rfl)⟩) ⟨ep_blind, va_recv (q0 := 0) (ci := 8) hK hE rfl rfl, ep_pre hKn (hE)⟩ rfl rfl hl.1 rfl (lv_room (Nat.le_of_ble_eq_true rfl)) d_EP_openCollection_2 ⟨Nat.zero_le _, Nat.zero_le _⟩) ?_
  refine W.eq (g2 := F0 m 5 ls [.ref (o + 2 + 15 * j)]) rfl ?_
  refine lv_astore_n (lv' := [(2, .ref (o + 2 + 15 * j)), (0, .ref o), (1, .int (nI j))]) hx hb d_EP_openCollection_5 rfl hl (by decide) rfl (fun ls hl => ?_)
  refine lv_aload_n hx hb d_EP_openCollection_6 rfl (lv_at hl 0 rfl) ?_
  refine va_get (D := D) (ci := 0) (v := .int kd) (C := R_Co) (T := F_Co) (N := 3) hx hb hg in_Co hown hK hC 0 rfl rfl 0 (Nat.le_of_ble_eq_true rfl) (hg _ tw_76) (fun _ h9 => h9) rfl d_EP_openCollection_7 ?_
  refine lv_iconst (v := (-1)) hx hb d_EP_openCollection_10 (by decide) ?_
  refine lv_icmp_ne (tgt := 24) hx hb d_EP_openCollection_11 (by decide) (fun hc => ?_) (fun hc => absurd hc hkd)
  refine lv_aload_n hx hb d_EP_openCollection_24 rfl (lv_at hl 0 rfl) ?_
  exact W.aret (v := .ref (o + 2 + 15 * j)) hx hb hr (Or.inl ⟨_, rfl⟩) (Or.inr ⟨_, rfl⟩) (fun t9 ht hW => ⟨rfl, ht⟩) (fun q h => nomatch h) d_EP_openCollection_25

set_option maxHeartbeats 4000000 in
set_option maxRecDepth 100000 in
theorem m_EP_openCollection_b (l : Launch) (hlt : l.stackTraces = false) (D : va_G) (cI cJ cZ cO : ClassId) (o : Nat) (id : Int32) (hid : ¬ okI id) : vx_Met l y_EP_openCollection (k_EP_openCollection :: gt) rx_EP_openCollection (PcX D cI cJ cZ cO (fun _ => False) [.ref o, .int id] (fun H => va_P D cls (wEP cO o) H)) (Qn) (Xd (fun _ => False) E_IAE) 1 6 (fun _ => False) := by
  refine vx_ofW (cc := c_EP_openCollection) (maxL := 3) (ret := (Option.some (FieldType.object "EditablePast$Collection"))) (by decide) rfl ?_
  intro p e s m args below meth c s₁ B hml hno hv
  obtain ⟨rfl, hKn, hZ, hE⟩ := hv
  have hx := B.exec
  have hb := B.bytes
  have hr := B.returns
  have hts := atoms_spec (ws := k_EP_openCollection :: gt) B.pre
  have hg : ∀ w ∈ gt, w.before _ s = true := fun w h => hts w (List.mem_cons_of_mem _ h)
  have hown : s.vm.findClass R_EP = some m.cls := findClass_of_methodNamed B.named
  have hlocks := B.notSynchronized
  have hK := hKn.1
  have hl := lv_entry ([.ref o, .int id]) (n := 3) (Nat.le_of_ble_eq_true rfl)
  rw [lg_entry_eq]
  generalize (lg_sl ([.ref o, .int id]) ++ List.replicate (3 - (lg_sl ([.ref o, .int id])).length) Slot.unset).toArray = ls at hl ⊢
  have hl : lv_has ls 3 [(0, .ref o), (1, .int id)] := hl
  have hS : va_S (fun _ => False) s.heap s.heap [] := va_S.rf
  refine lv_aload_n hx hb d_EP_openCollection_0 rfl (lv_at hl 0 rfl) ?_
  refine lv_iload_n hx hb d_EP_openCollection_1 rfl (lv_at hl 1 rfl) ?_
  refine ep_callX (E := E_IAE) (vx_runV (As := [.int id]) (rest := []) ⟨hx, hb, hml, hown, hg⟩ (m_EP_collectionOf_x l hlt D cI cJ cZ cO o id hid) (ep_cwV 1 hg tw_299 tw_301 ts_1 tw_1 tk_EP_collectionOf rfl rfl (by decide +kernel) ⟨(Nat.le_of_ble_eq_true rfl), (Nat.le_of_ble_eq_true rfl)⟩) ⟨ep_blindX, va_recv (q0 := 0) (ci := 8) hK hE rfl rfl, ep_preX hKn (Zs.kept hZ hS (fun q h => h.elim)) (hE)⟩ rfl rfl hl.1 rfl (lv_room (Nat.le_of_ble_eq_true rfl)) d_EP_openCollection_2 ⟨(Nat.le_of_ble_eq_true rfl), (Nat.le_of_ble_eq_true rfl)⟩) hS (fun q h => h.elim) (fun ce q9 H1 locs1 hz1 hk1 hS1 hce hcv hcl => ?_)
  exact vx_out (fun x h => (hno x h).elim) hlocks hce hcv hcl (fun t9 ht hv => ⟨rfl, hS1.F ht⟩) hS1.2.2 (Nat.le_of_ble_eq_true rfl) (Nat.le_of_ble_eq_true rfl)

set_option maxHeartbeats 4000000 in
set_option maxRecDepth 100000 in
theorem m_EP_openCollection_c (l : Launch) (hlt : l.stackTraces = false) (D : va_G) (cI cJ cZ cO : ClassId) (o : Nat) (j : Nat) (hj : j < 4) : vx_Met l y_EP_openCollection (k_EP_openCollection :: gt) rx_EP_openCollection (PcX D cI cJ cZ cO (fun _ => False) [.ref o, .int (nI j)] (fun H => va_P D cls (wEP cO o) H ∧ va_P D cls (wCo (o + 2 + 15 * j) (-1)) H)) (Qn) (Xd (fun _ => False) E_ISE) 1 6 (fun _ => False) := by
  refine vx_ofW (cc := c_EP_openCollection) (maxL := 3) (ret := (Option.some (FieldType.object "EditablePast$Collection"))) (by decide) rfl ?_
  intro p e s m args below meth c s₁ B hml hno hv
  obtain ⟨rfl, hKn, hZ, hE, hC⟩ := hv
  have hx := B.exec
  have hb := B.bytes
  have hr := B.returns
  have hts := atoms_spec (ws := k_EP_openCollection :: gt) B.pre
  have hg : ∀ w ∈ gt, w.before _ s = true := fun w h => hts w (List.mem_cons_of_mem _ h)
  have hown : s.vm.findClass R_EP = some m.cls := findClass_of_methodNamed B.named
  have hlocks := B.notSynchronized
  have hK := hKn.1
  have hl := lv_entry ([.ref o, .int (nI j)]) (n := 3) (Nat.le_of_ble_eq_true rfl)
  rw [lg_entry_eq]
  generalize (lg_sl ([.ref o, .int (nI j)]) ++ List.replicate (3 - (lg_sl ([.ref o, .int (nI j)])).length) Slot.unset).toArray = ls at hl ⊢
  have hl : lv_has ls 3 [(0, .ref o), (1, .int (nI j))] := hl
  have hS : va_S (fun _ => False) s.heap s.heap [] := va_S.rf
  refine lv_aload_n hx hb d_EP_openCollection_0 rfl (lv_at hl 0 rfl) ?_
  refine lv_iload_n hx hb d_EP_openCollection_1 rfl (lv_at hl 1 rfl) ?_
  refine ep_callP (W.runV (As := [.int (nI j)]) (rest := []) ⟨hx, hb, hml, hown, hg⟩ (m_EP_collectionOf_ok l D cI cJ cZ cO o j (by omega)) (ep_cwV 1 hg tw_299 tw_301 ts_1 tw_1 tk_EP_collectionOf rfl rfl (by decide +kernel) ⟨(Nat.le_of_ble_eq_true rfl), (Nat.le_of_ble_eq_true rfl)⟩) ⟨ep_blind, va_recv (q0 := 0) (ci := 8) hK hE rfl rfl, ep_pre hKn (hE)⟩ rfl rfl hl.1 rfl (lv_room (Nat.le_of_ble_eq_true rfl)) d_EP_openCollection_2 ⟨Nat.zero_le _, Nat.zero_le _⟩) ?_
  refine W.eq (g2 := F0 m 5 ls [.ref (o + 2 + 15 * j)]) rfl ?_
  refine lv_astore_n (lv' := [(2, .ref (o + 2 + 15 * j)), (0, .ref o), (1, .int (nI j))]) hx hb d_EP_openCollection_5 rfl hl (by decide) rfl (fun ls hl => ?_)
  refine lv_aload_n hx hb d_EP_openCollection_6 rfl (lv_at hl 0 rfl) ?_
  refine va_get (D := D) (ci := 0) (v := .int (-1)) (C := R_Co) (T := F_Co) (N := 3) hx hb hg in_Co hown hK hC 0 rfl rfl 0 (Nat.le_of_ble_eq_true rfl) (hg _ tw_76) (fun _ h9 => h9) rfl d_EP_openCollection_7 ?_
  refine lv_iconst (v := (-1)) hx hb d_EP_openCollection_10 (by decide) ?_
  refine lv_icmp_ne (tgt := 24) hx hb d_EP_openCollection_11 (by decide) (fun hc => False.elim (by revert hc; decide)) (fun hc => ?_)
  obtain ⟨sa, hsa⟩ := hKn.2.2.2.2.2 ("EditablePast", 225, "the collection is not open") (by decide +kernel)
  exact vx_throwS (text := "the collection is not open") (names := th_n) hx hb hlt hown (by decide +kernel) (by decide +kernel) (hg _ tw_304) (hg _ tw_17) hsa (ta_ISE hg hKn) ta_ISE_o hZ.1 hZ.2 hS (hl.1.trans hml.symm) d_EP_openCollection_14 d_EP_openCollection_17 d_EP_openCollection_18 d_EP_openCollection_20 d_EP_openCollection_23 (fun x h => (hno x h).elim) (Nat.le_of_ble_eq_true rfl) (Nat.le_of_ble_eq_true rfl) (Nat.le_of_ble_eq_true rfl) (Nat.le_of_ble_eq_true rfl) hlocks (fun t9 hv h1 h2 => ⟨rfl, F_ext hS h1 h2⟩) hS.2.2 (Nat.le_of_ble_eq_true rfl) (Nat.le_of_ble_eq_true rfl)

set_option maxHeartbeats 4000000 in
set_option maxRecDepth 100000 in
theorem m_EP_contentsOf_0 (l : Launch) (D : va_G) (cI cJ cZ cO : ClassId) (o : Nat) : Met l y_EP_contentsOf (k_EP_contentsOf :: gt) rm_EP_contentsOf (Pc0 D cI cJ cZ cO [.ref o, .int 0] (fun H => va_P D cls (wEP cO o) H)) (Qp (some (.ref (o + 62)))) 0 0 (fun _ => False) := by
  refine Met.ofW (cc := c_EP_contentsOf) (maxL := 2) (ret := (Option.some (FieldType.object "EditablePast$Contents"))) (by decide) rfl ?_
  intro p e s m args below meth c s₁ B hml hv
  obtain ⟨rfl, hKn, hE⟩ := hv
  have hx := B.exec
  have hb := B.bytes
  have hr := B.returns
  have hts := atoms_spec (ws := k_EP_contentsOf :: gt) B.pre
  have hg : ∀ w ∈ gt, w.before _ s = true := fun w h => hts w (List.mem_cons_of_mem _ h)
  have hown : s.vm.findClass R_EP = some m.cls := findClass_of_methodNamed B.named
  have hlocks := B.notSynchronized
  have hK := hKn.1
  have hl := lv_entry ([.ref o, .int 0]) (n := 2) (Nat.le_of_ble_eq_true rfl)
  rw [lg_entry_eq]
  generalize (lg_sl ([.ref o, .int 0]) ++ List.replicate (2 - (lg_sl ([.ref o, .int 0])).length) Slot.unset).toArray = ls at hl ⊢
  have hl : lv_has ls 2 [(0, .ref o), (1, .int 0)] := hl
  refine lv_iload_n hx hb d_EP_contentsOf_0 rfl (lv_at hl 1 rfl) ?_
  refine lv_tableIn (tgt := 36) hx hb d_EP_contentsOf_1 (by decide) (by decide) rfl (by decide) ?_
  refine lv_aload_n hx hb d_EP_contentsOf_36 rfl (lv_at hl 0 rfl) ?_
  refine va_get (D := D) (ci := 8) (v := .ref (o + 62)) (C := R_EP) (T := F_EP) (N := 7) hx hb hg in_EP hown hK hE 0 rfl rfl 1 (Nat.le_of_ble_eq_true rfl) (hg _ tw_199) (fun _ h9 => h9) rfl d_EP_contentsOf_37 ?_
  exact W.aret (v := .ref (o + 62)) hx hb hr (Or.inl ⟨_, rfl⟩) (Or.inr ⟨_, rfl⟩) (fun t9 ht hW => ⟨rfl, ht⟩) (fun q h => nomatch h) d_EP_contentsOf_40

set_option maxHeartbeats 4000000 in
set_option maxRecDepth 100000 in
theorem m_EP_contentsOf_1 (l : Launch) (D : va_G) (cI cJ cZ cO : ClassId) (o : Nat) : Met l y_EP_contentsOf (k_EP_contentsOf :: gt) rm_EP_contentsOf (Pc0 D cI cJ cZ cO [.ref o, .int 1] (fun H => va_P D cls (wEP cO o) H)) (Qp (some (.ref (o + 64)))) 0 0 (fun _ => False) := by
  refine Met.ofW (cc := c_EP_contentsOf) (maxL := 2) (ret := (Option.some (FieldType.object "EditablePast$Contents"))) (by decide) rfl ?_
  intro p e s m args below meth c s₁ B hml hv
  obtain ⟨rfl, hKn, hE⟩ := hv
  have hx := B.exec
  have hb := B.bytes
  have hr := B.returns
  have hts := atoms_spec (ws := k_EP_contentsOf :: gt) B.pre
  have hg : ∀ w ∈ gt, w.before _ s = true := fun w h => hts w (List.mem_cons_of_mem _ h)
  have hown : s.vm.findClass R_EP = some m.cls := findClass_of_methodNamed B.named
  have hlocks := B.notSynchronized
  have hK := hKn.1
  have hl := lv_entry ([.ref o, .int 1]) (n := 2) (Nat.le_of_ble_eq_true rfl)
  rw [lg_entry_eq]
  generalize (lg_sl ([.ref o, .int 1]) ++ List.replicate (2 - (lg_sl ([.ref o, .int 1])).length) Slot.unset).toArray = ls at hl ⊢
  have hl : lv_has ls 2 [(0, .ref o), (1, .int 1)] := hl
  refine lv_iload_n hx hb d_EP_contentsOf_0 rfl (lv_at hl 1 rfl) ?_
  refine lv_tableIn (tgt := 41) hx hb d_EP_contentsOf_1 (by decide) (by decide) rfl (by decide) ?_
  refine lv_aload_n hx hb d_EP_contentsOf_41 rfl (lv_at hl 0 rfl) ?_
  refine va_get (D := D) (ci := 8) (v := .ref (o + 64)) (C := R_EP) (T := F_EP) (N := 7) hx hb hg in_EP hown hK hE 0 rfl rfl 2 (Nat.le_of_ble_eq_true rfl) (hg _ tw_200) (fun _ h9 => h9) rfl d_EP_contentsOf_42 ?_
  exact W.aret (v := .ref (o + 64)) hx hb hr (Or.inl ⟨_, rfl⟩) (Or.inr ⟨_, rfl⟩) (fun t9 ht hW => ⟨rfl, ht⟩) (fun q h => nomatch h) d_EP_contentsOf_45

set_option maxHeartbeats 4000000 in
set_option maxRecDepth 100000 in
theorem m_EP_contentsOf_2 (l : Launch) (D : va_G) (cI cJ cZ cO : ClassId) (o : Nat) : Met l y_EP_contentsOf (k_EP_contentsOf :: gt) rm_EP_contentsOf (Pc0 D cI cJ cZ cO [.ref o, .int 2] (fun H => va_P D cls (wEP cO o) H)) (Qp (some (.ref (o + 66)))) 0 0 (fun _ => False) := by
  refine Met.ofW (cc := c_EP_contentsOf) (maxL := 2) (ret := (Option.some (FieldType.object "EditablePast$Contents"))) (by decide) rfl ?_
  intro p e s m args below meth c s₁ B hml hv
  obtain ⟨rfl, hKn, hE⟩ := hv
  have hx := B.exec
  have hb := B.bytes
  have hr := B.returns
  have hts := atoms_spec (ws := k_EP_contentsOf :: gt) B.pre
  have hg : ∀ w ∈ gt, w.before _ s = true := fun w h => hts w (List.mem_cons_of_mem _ h)
  have hown : s.vm.findClass R_EP = some m.cls := findClass_of_methodNamed B.named
  have hlocks := B.notSynchronized
  have hK := hKn.1
  have hl := lv_entry ([.ref o, .int 2]) (n := 2) (Nat.le_of_ble_eq_true rfl)
  rw [lg_entry_eq]
  generalize (lg_sl ([.ref o, .int 2]) ++ List.replicate (2 - (lg_sl ([.ref o, .int 2])).length) Slot.unset).toArray = ls at hl ⊢
  have hl : lv_has ls 2 [(0, .ref o), (1, .int 2)] := hl
  refine lv_iload_n hx hb d_EP_contentsOf_0 rfl (lv_at hl 1 rfl) ?_
  refine lv_tableIn (tgt := 46) hx hb d_EP_contentsOf_1 (by decide) (by decide) rfl (by decide) ?_
  refine lv_aload_n hx hb d_EP_contentsOf_46 rfl (lv_at hl 0 rfl) ?_
  refine va_get (D := D) (ci := 8) (v := .ref (o + 66)) (C := R_EP) (T := F_EP) (N := 7) hx hb hg in_EP hown hK hE 0 rfl rfl 3 (Nat.le_of_ble_eq_true rfl) (hg _ tw_201) (fun _ h9 => h9) rfl d_EP_contentsOf_47 ?_
  exact W.aret (v := .ref (o + 66)) hx hb hr (Or.inl ⟨_, rfl⟩) (Or.inr ⟨_, rfl⟩) (fun t9 ht hW => ⟨rfl, ht⟩) (fun q h => nomatch h) d_EP_contentsOf_50

set_option maxHeartbeats 4000000 in
set_option maxRecDepth 100000 in
theorem m_EP_contentsOf_3 (l : Launch) (D : va_G) (cI cJ cZ cO : ClassId) (o : Nat) : Met l y_EP_contentsOf (k_EP_contentsOf :: gt) rm_EP_contentsOf (Pc0 D cI cJ cZ cO [.ref o, .int 3] (fun H => va_P D cls (wEP cO o) H)) (Qp (some (.ref (o + 69)))) 0 0 (fun _ => False) := by
  refine Met.ofW (cc := c_EP_contentsOf) (maxL := 2) (ret := (Option.some (FieldType.object "EditablePast$Contents"))) (by decide) rfl ?_
  intro p e s m args below meth c s₁ B hml hv
  obtain ⟨rfl, hKn, hE⟩ := hv
  have hx := B.exec
  have hb := B.bytes
  have hr := B.returns
  have hts := atoms_spec (ws := k_EP_contentsOf :: gt) B.pre
  have hg : ∀ w ∈ gt, w.before _ s = true := fun w h => hts w (List.mem_cons_of_mem _ h)
  have hown : s.vm.findClass R_EP = some m.cls := findClass_of_methodNamed B.named
  have hlocks := B.notSynchronized
  have hK := hKn.1
  have hl := lv_entry ([.ref o, .int 3]) (n := 2) (Nat.le_of_ble_eq_true rfl)
  rw [lg_entry_eq]
  generalize (lg_sl ([.ref o, .int 3]) ++ List.replicate (2 - (lg_sl ([.ref o, .int 3])).length) Slot.unset).toArray = ls at hl ⊢
  have hl : lv_has ls 2 [(0, .ref o), (1, .int 3)] := hl
  refine lv_iload_n hx hb d_EP_contentsOf_0 rfl (lv_at hl 1 rfl) ?_
  refine lv_tableIn (tgt := 51) hx hb d_EP_contentsOf_1 (by decide) (by decide) rfl (by decide) ?_
  refine lv_aload_n hx hb d_EP_contentsOf_51 rfl (lv_at hl 0 rfl) ?_
  refine va_get (D := D) (ci := 8) (v := .ref (o + 69)) (C := R_EP) (T := F_EP) (N := 7) hx hb hg in_EP hown hK hE 0 rfl rfl 4 (Nat.le_of_ble_eq_true rfl) (hg _ tw_202) (fun _ h9 => h9) rfl d_EP_contentsOf_52 ?_
  exact W.aret (v := .ref (o + 69)) hx hb hr (Or.inl ⟨_, rfl⟩) (Or.inr ⟨_, rfl⟩) (fun t9 ht hW => ⟨rfl, ht⟩) (fun q h => nomatch h) d_EP_contentsOf_55

set_option maxHeartbeats 4000000 in
set_option maxRecDepth 100000 in
theorem m_EP_contentsOf_4 (l : Launch) (D : va_G) (cI cJ cZ cO : ClassId) (o : Nat) : Met l y_EP_contentsOf (k_EP_contentsOf :: gt) rm_EP_contentsOf (Pc0 D cI cJ cZ cO [.ref o, .int 4] (fun H => va_P D cls (wEP cO o) H)) (Qp (some (.ref (o + 71)))) 0 0 (fun _ => False) := by
  refine Met.ofW (cc := c_EP_contentsOf) (maxL := 2) (ret := (Option.some (FieldType.object "EditablePast$Contents"))) (by decide) rfl ?_
  intro p e s m args below meth c s₁ B hml hv
  obtain ⟨rfl, hKn, hE⟩ := hv
  have hx := B.exec
  have hb := B.bytes
  have hr := B.returns
  have hts := atoms_spec (ws := k_EP_contentsOf :: gt) B.pre
  have hg : ∀ w ∈ gt, w.before _ s = true := fun w h => hts w (List.mem_cons_of_mem _ h)
  have hown : s.vm.findClass R_EP = some m.cls := findClass_of_methodNamed B.named
  have hlocks := B.notSynchronized
  have hK := hKn.1
  have hl := lv_entry ([.ref o, .int 4]) (n := 2) (Nat.le_of_ble_eq_true rfl)
  rw [lg_entry_eq]
  generalize (lg_sl ([.ref o, .int 4]) ++ List.replicate (2 - (lg_sl ([.ref o, .int 4])).length) Slot.unset).toArray = ls at hl ⊢
  have hl : lv_has ls 2 [(0, .ref o), (1, .int 4)] := hl
  refine lv_iload_n hx hb d_EP_contentsOf_0 rfl (lv_at hl 1 rfl) ?_
  refine lv_tableIn (tgt := 56) hx hb d_EP_contentsOf_1 (by decide) (by decide) rfl (by decide) ?_
  refine lv_aload_n hx hb d_EP_contentsOf_56 rfl (lv_at hl 0 rfl) ?_
  refine va_get (D := D) (ci := 8) (v := .ref (o + 71)) (C := R_EP) (T := F_EP) (N := 7) hx hb hg in_EP hown hK hE 0 rfl rfl 5 (Nat.le_of_ble_eq_true rfl) (hg _ tw_203) (fun _ h9 => h9) rfl d_EP_contentsOf_57 ?_
  exact W.aret (v := .ref (o + 71)) hx hb hr (Or.inl ⟨_, rfl⟩) (Or.inr ⟨_, rfl⟩) (fun t9 ht hW => ⟨rfl, ht⟩) (fun q h => nomatch h) d_EP_contentsOf_60

set_option maxHeartbeats 4000000 in
set_option maxRecDepth 100000 in
theorem m_EP_contentsOf_5 (l : Launch) (D : va_G) (cI cJ cZ cO : ClassId) (o : Nat) : Met l y_EP_contentsOf (k_EP_contentsOf :: gt) rm_EP_contentsOf (Pc0 D cI cJ cZ cO [.ref o, .int 5] (fun H => va_P D cls (wEP cO o) H)) (Qp (some (.ref (o + 72)))) 0 0 (fun _ => False) := by
  refine Met.ofW (cc := c_EP_contentsOf) (maxL := 2) (ret := (Option.some (FieldType.object "EditablePast$Contents"))) (by decide) rfl ?_
  intro p e s m args below meth c s₁ B hml hv
  obtain ⟨rfl, hKn, hE⟩ := hv
  have hx := B.exec
  have hb := B.bytes
  have hr := B.returns
  have hts := atoms_spec (ws := k_EP_contentsOf :: gt) B.pre
  have hg : ∀ w ∈ gt, w.before _ s = true := fun w h => hts w (List.mem_cons_of_mem _ h)
  have hown : s.vm.findClass R_EP = some m.cls := findClass_of_methodNamed B.named
  have hlocks := B.notSynchronized
  have hK := hKn.1
  have hl := lv_entry ([.ref o, .int 5]) (n := 2) (Nat.le_of_ble_eq_true rfl)
  rw [lg_entry_eq]
  generalize (lg_sl ([.ref o, .int 5]) ++ List.replicate (2 - (lg_sl ([.ref o, .int 5])).length) Slot.unset).toArray = ls at hl ⊢
  have hl : lv_has ls 2 [(0, .ref o), (1, .int 5)] := hl
  refine lv_iload_n hx hb d_EP_contentsOf_0 rfl (lv_at hl 1 rfl) ?_
  refine lv_tableOut (tgt := 61) hx hb d_EP_contentsOf_1 (by decide) (by decide) ?_
  refine lv_aload_n hx hb d_EP_contentsOf_61 rfl (lv_at hl 0 rfl) ?_
  refine va_get (D := D) (ci := 8) (v := .ref (o + 72)) (C := R_EP) (T := F_EP) (N := 7) hx hb hg in_EP hown hK hE 0 rfl rfl 6 (Nat.le_of_ble_eq_true rfl) (hg _ tw_204) (fun _ h9 => h9) rfl d_EP_contentsOf_62 ?_
  exact W.aret (v := .ref (o + 72)) hx hb hr (Or.inl ⟨_, rfl⟩) (Or.inr ⟨_, rfl⟩) (fun t9 ht hW => ⟨rfl, ht⟩) (fun q h => nomatch h) d_EP_contentsOf_65
