/-! EditablePast (by wip/whole/gen/ep.py) -/
def f_EP_front_b (t : Int32) : Nat × Int32 := if okM t then ((1, 0)) else ((1, 0))

set_option maxHeartbeats 4000000 in
set_option maxRecDepth 100000 in
theorem m_EP_front_b (l : Launch) (hlt : l.stackTraces = false) (D : va_G) (cI cJ cZ cO : ClassId) (o : Nat) (id : Int32) (t : Int32) (hid : ¬ okI id) (R : Nat × Int32) (hR : f_EP_front_b t = R) : vx_Met l y_EP_front (k_EP_front :: gt) rx_EP_front (PcX D cI cJ cZ cO (fun _ => False) [.ref o, .int id, .int t] (fun H => va_P D cls (wEP cO o) H)) (Qt R.1 (fun _ => False) (some (.int R.2)) (fun H => True)) (Xt R.1 E_NSE (fun _ => False) (fun H => True)) 1 6 (fun _ => False) := by
  refine vx_ofW (cc := c_EP_front) (maxL := 5) (ret := (Option.some FieldType.int)) (by decide) rfl ?_
  intro p e s m args below meth c s₁ B hml hno hv
  obtain ⟨rfl, hKn, hZ, hE⟩ := hv
  have hx := B.exec
  have hb := B.bytes
  have hr := B.returns
  have hts := atoms_spec (ws := k_EP_front :: gt) B.pre
  have hg : ∀ w ∈ gt, w.before _ s = true := fun w h => hts w (List.mem_cons_of_mem _ h)
  have hown : s.vm.findClass R_EP = some m.cls := findClass_of_methodNamed B.named
  have hlocks := B.notSynchronized
  have hK := hKn.1
  have hl := lv_entry ([.ref o, .int id, .int t]) (n := 5) (Nat.le_of_ble_eq_true rfl)
  rw [lg_entry_eq]
  generalize (lg_sl ([.ref o, .int id, .int t]) ++ List.replicate (5 - (lg_sl ([.ref o, .int id, .int t])).length) Slot.unset).toArray = ls at hl ⊢
  have hl : lv_has ls 5 [(0, .ref o), (1, .int id), (2, .int t)] := hl
  have hS : va_S (fun _ => False) s.heap s.heap [] := va_S.rf
  have hR : (if okM t then ((1, 0)) else ((1, 0))) = R := hR
  refine lv_iload_n hx hb d_EP_front_0 rfl (lv_at hl 2 rfl) ?_
  by_cases hc1 : okM t
  · refine ep_callP (W.runS (As := [.int t]) (rest := []) ⟨hx, hb, hml, hown, hg⟩ (m_EP_checkMoment_ok l D cI cJ cZ cO t hc1) (ep_cwS 1 hg tw_340 tw_341 tw_1 tk_EP_checkMoment rfl rfl (by decide +kernel) ⟨(Nat.le_of_ble_eq_true rfl), (Nat.le_of_ble_eq_true rfl)⟩) ⟨ep_blind, ep_pre hKn (trivial)⟩ rfl rfl hl.1 rfl (lv_room (Nat.le_of_ble_eq_true rfl)) d_EP_front_1 ⟨Nat.zero_le _, Nat.zero_le _⟩) ?_
    refine W.eq (g2 := F0 m 4 ls []) rfl ?_
    refine lv_aload_n hx hb d_EP_front_4 rfl (lv_at hl 0 rfl) ?_
    refine lv_iload_n hx hb d_EP_front_5 rfl (lv_at hl 1 rfl) ?_
    rw [if_pos hc1] at hR
    subst hR
    refine ep_callX (E := E_IAE) (vx_runV (As := [.int id]) (rest := []) ⟨hx, hb, hml, hown, hg⟩ (m_EP_openCollection_b l hlt D cI cJ cZ cO o id hid) (ep_cwV 1 hg tw_327 tw_329 ts_2 tw_1 tk_EP_openCollection rfl rfl (by decide +kernel) ⟨(Nat.le_of_ble_eq_true rfl), (Nat.le_of_ble_eq_true rfl)⟩) ⟨ep_blindX, va_recv (q0 := 0) (ci := 8) hK hE rfl rfl, ep_preX hKn (Zs.kept hZ hS (fun q h => h.elim)) (hE)⟩ rfl rfl hl.1 rfl (lv_room (Nat.le_of_ble_eq_true rfl)) d_EP_front_6 ⟨(Nat.le_of_ble_eq_true rfl), (Nat.le_of_ble_eq_true rfl)⟩) hS (fun q h => h.elim) (fun ce q9 H1 locs1 hz1 hk1 hS1 hce hcv hcl => ?_)
    exact vx_out (fun x h => (hno x h).elim) hlocks hce hcv hcl (fun t9 ht hv => ⟨by show (1 : Nat) ≠ 0; decide, rfl, hS1.F ht, trivial⟩) hS1.2.2 (Nat.le_of_ble_eq_true rfl) (Nat.le_of_ble_eq_true rfl)
  · rw [if_neg hc1] at hR
    subst hR
    refine ep_callX (E := E_IAE) (vx_runS (As := [.int t]) (rest := []) ⟨hx, hb, hml, hown, hg⟩ (m_EP_checkMoment_x l hlt D cI cJ cZ cO t hc1) (ep_cwS 1 hg tw_340 tw_341 tw_1 tk_EP_checkMoment rfl rfl (by decide +kernel) ⟨(Nat.le_of_ble_eq_true rfl), (Nat.le_of_ble_eq_true rfl)⟩) ⟨ep_blindX, ep_preX hKn (Zs.kept hZ hS (fun q h => h.elim)) (trivial)⟩ rfl rfl hl.1 rfl (lv_room (Nat.le_of_ble_eq_true rfl)) d_EP_front_1 ⟨(Nat.le_of_ble_eq_true rfl), (Nat.le_of_ble_eq_true rfl)⟩) hS (fun q h => h.elim) (fun ce q9 H1 locs1 hz1 hk1 hS1 hce hcv hcl => ?_)
    exact vx_out (fun x h => (hno x h).elim) hlocks hce hcv hcl (fun t9 ht hv => ⟨by show (1 : Nat) ≠ 0; decide, rfl, hS1.F ht, trivial⟩) hS1.2.2 (Nat.le_of_ble_eq_true rfl) (Nat.le_of_ble_eq_true rfl)

def f_EP_front_c (t : Int32) : Nat × Int32 := if okM t then ((2, 0)) else ((1, 0))

set_option maxHeartbeats 4000000 in
set_option maxRecDepth 100000 in
theorem m_EP_front_c (l : Launch) (hlt : l.stackTraces = false) (D : va_G) (cI cJ cZ cO : ClassId) (o : Nat) (j : Nat) (t : Int32) (hj : j < 4) (R : Nat × Int32) (hR : f_EP_front_c t = R) : vx_Met l y_EP_front (k_EP_front :: gt) rx_EP_front (PcX D cI cJ cZ cO (fun _ => False) [.ref o, .int (nI j), .int t] (fun H => va_P D cls (wEP cO o) H ∧ va_P D cls (wCo (o + 2 + 15 * j) (-1)) H)) (Qt R.1 (fun _ => False) (some (.int R.2)) (fun H => True)) (Xt R.1 E_NSE (fun _ => False) (fun H => True)) 1 6 (fun _ => False) := by
  refine vx_ofW (cc := c_EP_front) (maxL := 5) (ret := (Option.some FieldType.int)) (by decide) rfl ?_
  intro p e s m args below meth c s₁ B hml hno hv
  obtain ⟨rfl, hKn, hZ, hE, hC⟩ := hv
  have hx := B.exec
  have hb := B.bytes
  have hr := B.returns
  have hts := atoms_spec (ws := k_EP_front :: gt) B.pre
  have hg : ∀ w ∈ gt, w.before _ s = true := fun w h => hts w (List.mem_cons_of_mem _ h)
  have hown : s.vm.findClass R_EP = some m.cls := findClass_of_methodNamed B.named
  have hlocks := B.notSynchronized
  have hK := hKn.1
  have hl := lv_entry ([.ref o, .int (nI j), .int t]) (n := 5) (Nat.le_of_ble_eq_true rfl)
  rw [lg_entry_eq]
  generalize (lg_sl ([.ref o, .int (nI j), .int t]) ++ List.replicate (5 - (lg_sl ([.ref o, .int (nI j), .int t])).length) Slot.unset).toArray = ls at hl ⊢
  have hl : lv_has ls 5 [(0, .ref o), (1, .int (nI j)), (2, .int t)] := hl
  have hS : va_S (fun _ => False) s.heap s.heap [] := va_S.rf
  have hR : (if okM t then ((2, 0)) else ((1, 0))) = R := hR
  refine lv_iload_n hx hb d_EP_front_0 rfl (lv_at hl 2 rfl) ?_
  by_cases hc1 : okM t
  · refine ep_callP (W.runS (As := [.int t]) (rest := []) ⟨hx, hb, hml, hown, hg⟩ (m_EP_checkMoment_ok l D cI cJ cZ cO t hc1) (ep_cwS 1 hg tw_340 tw_341 tw_1 tk_EP_checkMoment rfl rfl (by decide +kernel) ⟨(Nat.le_of_ble_eq_true rfl), (Nat.le_of_ble_eq_true rfl)⟩) ⟨ep_blind, ep_pre hKn (trivial)⟩ rfl rfl hl.1 rfl (lv_room (Nat.le_of_ble_eq_true rfl)) d_EP_front_1 ⟨Nat.zero_le _, Nat.zero_le _⟩) ?_
    refine W.eq (g2 := F0 m 4 ls []) rfl ?_
    refine lv_aload_n hx hb d_EP_front_4 rfl (lv_at hl 0 rfl) ?_
    refine lv_iload_n hx hb d_EP_front_5 rfl (lv_at hl 1 rfl) ?_
    rw [if_pos hc1] at hR
    subst hR
    refine ep_callX (E := E_ISE) (vx_runV (As := [.int (nI j)]) (rest := []) ⟨hx, hb, hml, hown, hg⟩ (m_EP_openCollection_c l hlt D cI cJ cZ cO o j (by omega)) (ep_cwV 1 hg tw_327 tw_329 ts_2 tw_1 tk_EP_openCollection rfl rfl (by decide +kernel) ⟨(Nat.le_of_ble_eq_true rfl), (Nat.le_of_ble_eq_true rfl)⟩) ⟨ep_blindX, va_recv (q0 := 0) (ci := 8) hK hE rfl rfl, ep_preX hKn (Zs.kept hZ hS (fun q h => h.elim)) (⟨hE, hC⟩)⟩ rfl rfl hl.1 rfl (lv_room (Nat.le_of_ble_eq_true rfl)) d_EP_front_6 ⟨(Nat.le_of_ble_eq_true rfl), (Nat.le_of_ble_eq_true rfl)⟩) hS (fun q h => h.elim) (fun ce q9 H1 locs1 hz1 hk1 hS1 hce hcv hcl => ?_)
    exact vx_out (fun x h => (hno x h).elim) hlocks hce hcv hcl (fun t9 ht hv => ⟨by show (2 : Nat) ≠ 0; decide, rfl, hS1.F ht, trivial⟩) hS1.2.2 (Nat.le_of_ble_eq_true rfl) (Nat.le_of_ble_eq_true rfl)
  · rw [if_neg hc1] at hR
    subst hR
    refine ep_callX (E := E_IAE) (vx_runS (As := [.int t]) (rest := []) ⟨hx, hb, hml, hown, hg⟩ (m_EP_checkMoment_x l hlt D cI cJ cZ cO t hc1) (ep_cwS 1 hg tw_340 tw_341 tw_1 tk_EP_checkMoment rfl rfl (by decide +kernel) ⟨(Nat.le_of_ble_eq_true rfl), (Nat.le_of_ble_eq_true rfl)⟩) ⟨ep_blindX, ep_preX hKn (Zs.kept hZ hS (fun q h => h.elim)) (trivial)⟩ rfl rfl hl.1 rfl (lv_room (Nat.le_of_ble_eq_true rfl)) d_EP_front_1 ⟨(Nat.le_of_ble_eq_true rfl), (Nat.le_of_ble_eq_true rfl)⟩) hS (fun q h => h.elim) (fun ce q9 H1 locs1 hz1 hk1 hS1 hce hcv hcl => ?_)
    exact vx_out (fun x h => (hno x h).elim) hlocks hce hcv hcl (fun t9 ht hv => ⟨by show (1 : Nat) ≠ 0; decide, rfl, hS1.F ht, trivial⟩) hS1.2.2 (Nat.le_of_ble_eq_true rfl) (Nat.le_of_ble_eq_true rfl)

def f_EP_front_w (t : Int32) : Nat × Int32 := if okM t then ((2, 0)) else ((1, 0))

set_option maxHeartbeats 4000000 in
set_option maxRecDepth 100000 in
theorem m_EP_front_w (l : Launch) (hlt : l.stackTraces = false) (D : va_G) (cI cJ cZ cO : ClassId) (o : Nat) (j : Nat) (kd : Int32) (t : Int32) (hj : j < 4) (hkd : ¬ kd = -1) (hk0 : ¬ kd = 0) (hk1 : ¬ kd = 1) (R : Nat × Int32) (hR : f_EP_front_w t = R) : vx_Met l y_EP_front (k_EP_front :: gt) rx_EP_front (PcX D cI cJ cZ cO (fun _ => False) [.ref o, .int (nI j), .int t] (fun H => va_P D cls (wEP cO o) H ∧ va_P D cls (wCo (o + 2 + 15 * j) kd) H)) (Qt R.1 (fun _ => False) (some (.int R.2)) (fun H => True)) (Xt R.1 E_NSE (fun _ => False) (fun H => True)) 1 6 (fun _ => False) := by
  refine vx_ofW (cc := c_EP_front) (maxL := 5) (ret := (Option.some FieldType.int)) (by decide) rfl ?_
  intro p e s m args below meth c s₁ B hml hno hv
  obtain ⟨rfl, hKn, hZ, hE, hC⟩ := hv
  have hx := B.exec
  have hb := B.bytes
  have hr := B.returns
  have hts := atoms_spec (ws := k_EP_front :: gt) B.pre
  have hg : ∀ w ∈ gt, w.before _ s = true := fun w h => hts w (List.mem_cons_of_mem _ h)
  have hown : s.vm.findClass R_EP = some m.cls := findClass_of_methodNamed B.named
  have hlocks := B.notSynchronized
  have hK := hKn.1
  have hl := lv_entry ([.ref o, .int (nI j), .int t]) (n := 5) (Nat.le_of_ble_eq_true rfl)
  rw [lg_entry_eq]
  generalize (lg_sl ([.ref o, .int (nI j), .int t]) ++ List.replicate (5 - (lg_sl ([.ref o, .int (nI j), .int t])).length) Slot.unset).toArray = ls at hl ⊢
  have hl : lv_has ls 5 [(0, .ref o), (1, .int (nI j)), (2, .int t)] := hl
  have hS : va_S (fun _ => False) s.heap s.heap [] := va_S.rf
  have hR : (if okM t then ((2, 0)) else ((1, 0))) = R := hR
  refine lv_iload_n hx hb d_EP_front_0 rfl (lv_at hl 2 rfl) ?_
  by_cases hc1 : okM t
  · refine ep_callP (W.runS (As := [.int t]) (rest := []) ⟨hx, hb, hml, hown, hg⟩ (m_EP_checkMoment_ok l D cI cJ cZ cO t hc1) (ep_cwS 1 hg tw_340 tw_341 tw_1 tk_EP_checkMoment rfl rfl (by decide +kernel) ⟨(Nat.le_of_ble_eq_true rfl), (Nat.le_of_ble_eq_true rfl)⟩) ⟨ep_blind, ep_pre hKn (trivial)⟩ rfl rfl hl.1 rfl (lv_room (Nat.le_of_ble_eq_true rfl)) d_EP_front_1 ⟨Nat.zero_le _, Nat.zero_le _⟩) ?_
    refine W.eq (g2 := F0 m 4 ls []) rfl ?_
    refine lv_aload_n hx hb d_EP_front_4 rfl (lv_at hl 0 rfl) ?_
    refine lv_iload_n hx hb d_EP_front_5 rfl (lv_at hl 1 rfl) ?_
    refine ep_callP (W.runV (As := [.int (nI j)]) (rest := []) ⟨hx, hb, hml, hown, hg⟩ (m_EP_openCollection_ok l D cI cJ cZ cO o j kd (by omega) hkd) (ep_cwV 1 hg tw_327 tw_329 ts_2 tw_1 tk_EP_openCollection rfl rfl (by decide +kernel) ⟨(Nat.le_of_ble_eq_true rfl), (Nat.le_of_ble_eq_true rfl)⟩) ⟨ep_blind, va_recv (q0 := 0) (ci := 8) hK hE rfl rfl, ep_pre hKn (⟨hE, hC⟩)⟩ rfl rfl hl.1 rfl (lv_room (Nat.le_of_ble_eq_true rfl)) d_EP_front_6 ⟨Nat.zero_le _, Nat.zero_le _⟩) ?_
    refine W.eq (g2 := F0 m 9 ls [.ref (o + 2 + 15 * j)]) rfl ?_
    refine lv_astore_n (lv' := [(3, .ref (o + 2 + 15 * j)), (0, .ref o), (1, .int (nI j)), (2, .int t)]) hx hb d_EP_front_9 rfl hl (by decide) rfl (fun ls hl => ?_)
    refine lv_aload_n hx hb d_EP_front_10 rfl (lv_at hl 0 rfl) ?_
    refine va_get (D := D) (ci := 0) (v := .int kd) (C := R_Co) (T := F_Co) (N := 3) hx hb hg in_Co hown hK hC 0 rfl rfl 0 (Nat.le_of_ble_eq_true rfl) (hg _ tw_76) (fun _ h9 => h9) rfl d_EP_front_11 ?_
    refine lv_if_eq (tgt := 25) hx hb d_EP_front_14 (by decide) (fun hc => absurd hc hk0) (fun hc => ?_)
    refine lv_aload_n hx hb d_EP_front_17 rfl (lv_at hl 0 rfl) ?_
    refine va_get (D := D) (ci := 0) (v := .int kd) (C := R_Co) (T := F_Co) (N := 3) hx hb hg in_Co hown hK hC 0 rfl rfl 0 (Nat.le_of_ble_eq_true rfl) (hg _ tw_76) (fun _ h9 => h9) rfl d_EP_front_18 ?_
    refine lv_iconst (v := 1) hx hb d_EP_front_21 (by decide) ?_
    refine lv_icmp_ne (tgt := 29) hx hb d_EP_front_22 (by decide) (fun hc => ?_) (fun hc => absurd hc hk1)
    refine lv_iconst (v := 0) hx hb d_EP_front_29 (by decide) ?_
    rw [if_pos hc1] at hR
    subst hR
    refine ep_callX (E := E_ISE) (vx_runS (As := [.int 0]) (rest := []) ⟨hx, hb, hml, hown, hg⟩ (m_EP_checkKind_0 l hlt D cI cJ cZ cO) (ep_cwS 1 hg tw_571 tw_572 tw_1 tk_EP_checkKind rfl rfl (by decide +kernel) ⟨(Nat.le_of_ble_eq_true rfl), (Nat.le_of_ble_eq_true rfl)⟩) ⟨ep_blindX, ep_preX hKn (Zs.kept hZ hS (fun q h => h.elim)) (trivial)⟩ rfl rfl hl.1 rfl (lv_room (Nat.le_of_ble_eq_true rfl)) d_EP_front_30 ⟨(Nat.le_of_ble_eq_true rfl), (Nat.le_of_ble_eq_true rfl)⟩) hS (fun q h => h.elim) (fun ce q9 H1 locs1 hz1 hk1 hS1 hce hcv hcl => ?_)
    exact vx_out (fun x h => (hno x h).elim) hlocks hce hcv hcl (fun t9 ht hv => ⟨by show (2 : Nat) ≠ 0; decide, rfl, hS1.F ht, trivial⟩) hS1.2.2 (Nat.le_of_ble_eq_true rfl) (Nat.le_of_ble_eq_true rfl)
  · rw [if_neg hc1] at hR
    subst hR
    refine ep_callX (E := E_IAE) (vx_runS (As := [.int t]) (rest := []) ⟨hx, hb, hml, hown, hg⟩ (m_EP_checkMoment_x l hlt D cI cJ cZ cO t hc1) (ep_cwS 1 hg tw_340 tw_341 tw_1 tk_EP_checkMoment rfl rfl (by decide +kernel) ⟨(Nat.le_of_ble_eq_true rfl), (Nat.le_of_ble_eq_true rfl)⟩) ⟨ep_blindX, ep_preX hKn (Zs.kept hZ hS (fun q h => h.elim)) (trivial)⟩ rfl rfl hl.1 rfl (lv_room (Nat.le_of_ble_eq_true rfl)) d_EP_front_1 ⟨(Nat.le_of_ble_eq_true rfl), (Nat.le_of_ble_eq_true rfl)⟩) hS (fun q h => h.elim) (fun ce q9 H1 locs1 hz1 hk1 hS1 hce hcv hcl => ?_)
    exact vx_out (fun x h => (hno x h).elim) hlocks hce hcv hcl (fun t9 ht hv => ⟨by show (1 : Nat) ≠ 0; decide, rfl, hS1.F ht, trivial⟩) hS1.2.2 (Nat.le_of_ble_eq_true rfl) (Nat.le_of_ble_eq_true rfl)

def f_EP_front_0 (n : Nat) (mo : Nat → Int32) (na : Nat → Int32) (aa : Nat → Int32) (bb : Nat → Int32) (qv : Nat → Int32) (qr : Int64) (qf : Int32) (t : Int32) : Nat × Int32 := if okM t then (if (rut (fun nm x _ => bgS 2 nm x) mo na aa bb t n 0 ((0, qv), qr, qf)).1.1 = 0 then ((3, 0)) else ((0, ((rut (fun nm x _ => bgS 2 nm x) mo na aa bb t n 0 ((0, qv), qr, qf)).1.2) 0))) else ((1, 0))

set_option maxHeartbeats 4000000 in
set_option maxRecDepth 100000 in
theorem m_EP_front_0 (l : Launch) (hlt : l.stackTraces = false) (D : va_G) (cI cJ cZ cO : ClassId) (o : Nat) (j : Nat) (n : Nat) (mo : Nat → Int32) (na : Nat → Int32) (aa : Nat → Int32) (bb : Nat → Int32) (re : Nat → Int64) (ef : Nat → Int32) (qn : Nat) (qv : Nat → Int32) (qr : Int64) (qf : Int32) (t : Int32) (hj : j < 4) (hn : n ≤ 32) (R : Nat × Int32) (hR : f_EP_front_0 n mo na aa bb qv qr qf t = R) : vx_Met l y_EP_front (k_EP_front :: gt) rx_EP_front (PcX D cI cJ cZ cO (fun q => blk (o + 62) 2 q) [.ref o, .int (nI j), .int t] (fun H => va_P D cls (wEP cO o) H ∧ va_P D cls (wCo (o + 2 + 15 * j) 0) H ∧ va_P D cls (wLi cI cJ cZ (o + 2 + 15 * j + 1) n mo na aa bb re ef) H ∧ va_P D cls (wBa cI 2 (o + 62) qn qv qr qf) H)) (Qt R.1 (fun q => blk (o + 62) 2 q) (some (.int R.2)) (fun H => (∃ (qn : Nat) (qv : Nat → Int32) (qr : Int64) (qf : Int32), va_P D cls (wBa cI 2 (o + 62) qn qv qr qf) H))) (Xt R.1 E_NSE (fun q => blk (o + 62) 2 q) (fun H => (∃ (qn : Nat) (qv : Nat → Int32) (qr : Int64) (qf : Int32), va_P D cls (wBa cI 2 (o + 62) qn qv qr qf) H))) 1 6 (fun q => blk (o + 62) 2 q) := by
  refine vx_ofW (cc := c_EP_front) (maxL := 5) (ret := (Option.some FieldType.int)) (by decide) rfl ?_
  intro p e s m args below meth c s₁ B hml hno hv
  obtain ⟨rfl, hKn, hZ, hE, hC, hN, hQ⟩ := hv
  have hx := B.exec
  have hb := B.bytes
  have hr := B.returns
  have hts := atoms_spec (ws := k_EP_front :: gt) B.pre
  have hg : ∀ w ∈ gt, w.before _ s = true := fun w h => hts w (List.mem_cons_of_mem _ h)
  have hown : s.vm.findClass R_EP = some m.cls := findClass_of_methodNamed B.named
  have hlocks := B.notSynchronized
  have hK := hKn.1
  have hl := lv_entry ([.ref o, .int (nI j), .int t]) (n := 5) (Nat.le_of_ble_eq_true rfl)
  rw [lg_entry_eq]
  generalize (lg_sl ([.ref o, .int (nI j), .int t]) ++ List.replicate (5 - (lg_sl ([.ref o, .int (nI j), .int t])).length) Slot.unset).toArray = ls at hl ⊢
  have hl : lv_has ls 5 [(0, .ref o), (1, .int (nI j)), (2, .int t)] := hl
  have hS : va_S (fun q => blk (o + 62) 2 q) s.heap s.heap [] := va_S.rf
  have hR : (if okM t then (if (rut (fun nm x _ => bgS 2 nm x) mo na aa bb t n 0 ((0, qv), qr, qf)).1.1 = 0 then ((3, 0)) else ((0, ((rut (fun nm x _ => bgS 2 nm x) mo na aa bb t n 0 ((0, qv), qr, qf)).1.2) 0))) else ((1, 0))) = R := hR
  refine lv_iload_n hx hb d_EP_front_0 rfl (lv_at hl 2 rfl) ?_
  by_cases hc1 : okM t
  · refine ep_callP (W.runS (As := [.int t]) (rest := []) ⟨hx, hb, hml, hown, hg⟩ (m_EP_checkMoment_ok l D cI cJ cZ cO t hc1) (ep_cwS 1 hg tw_340 tw_341 tw_1 tk_EP_checkMoment rfl rfl (by decide +kernel) ⟨(Nat.le_of_ble_eq_true rfl), (Nat.le_of_ble_eq_true rfl)⟩) ⟨ep_blind, ep_pre hKn (trivial)⟩ rfl rfl hl.1 rfl (lv_room (Nat.le_of_ble_eq_true rfl)) d_EP_front_1 ⟨Nat.zero_le _, Nat.zero_le _⟩) ?_
    refine W.eq (g2 := F0 m 4 ls []) rfl ?_
    refine lv_aload_n hx hb d_EP_front_4 rfl (lv_at hl 0 rfl) ?_
    refine lv_iload_n hx hb d_EP_front_5 rfl (lv_at hl 1 rfl) ?_
    refine ep_callP (W.runV (As := [.int (nI j)]) (rest := []) ⟨hx, hb, hml, hown, hg⟩ (m_EP_openCollection_ok l D cI cJ cZ cO o j 0 (by omega) (by decide)) (ep_cwV 1 hg tw_327 tw_329 ts_2 tw_1 tk_EP_openCollection rfl rfl (by decide +kernel) ⟨(Nat.le_of_ble_eq_true rfl), (Nat.le_of_ble_eq_true rfl)⟩) ⟨ep_blind, va_recv (q0 := 0) (ci := 8) hK hE rfl rfl, ep_pre hKn (⟨hE, hC⟩)⟩ rfl rfl hl.1 rfl (lv_room (Nat.le_of_ble_eq_true rfl)) d_EP_front_6 ⟨Nat.zero_le _, Nat.zero_le _⟩) ?_
    refine W.eq (g2 := F0 m 9 ls [.ref (o + 2 + 15 * j)]) rfl ?_
    refine lv_astore_n (lv' := [(3, .ref (o + 2 + 15 * j)), (0, .ref o), (1, .int (nI j)), (2, .int t)]) hx hb d_EP_front_9 rfl hl (by decide) rfl (fun ls hl => ?_)
    refine lv_aload_n hx hb d_EP_front_10 rfl (lv_at hl 0 rfl) ?_
    refine va_get (D := D) (ci := 0) (v := .int 0) (C := R_Co) (T := F_Co) (N := 3) hx hb hg in_Co hown hK hC 0 rfl rfl 0 (Nat.le_of_ble_eq_true rfl) (hg _ tw_76) (fun _ h9 => h9) rfl d_EP_front_11 ?_
    refine lv_if_eq (tgt := 25) hx hb d_EP_front_14 (by decide) (fun hc => ?_) (fun hc => False.elim (by revert hc; decide))
    refine lv_iconst (v := 1) hx hb d_EP_front_25 (by decide) ?_
    refine lv_goto (tgt := 30) hx hb d_EP_front_26 (by decide) ?_
    refine ep_callP (W.runS (As := [.int 1]) (rest := []) ⟨hx, hb, hml, hown, hg⟩ (m_EP_checkKind_1 l D cI cJ cZ cO) (ep_cwS 1 hg tw_571 tw_572 tw_1 tk_EP_checkKind rfl rfl (by decide +kernel) ⟨(Nat.le_of_ble_eq_true rfl), (Nat.le_of_ble_eq_true rfl)⟩) ⟨ep_blind, ep_pre hKn (trivial)⟩ rfl rfl hl.1 rfl (lv_room (Nat.le_of_ble_eq_true rfl)) d_EP_front_30 ⟨Nat.zero_le _, Nat.zero_le _⟩) ?_
    refine W.eq (g2 := F0 m 33 ls []) rfl ?_
    refine lv_aload_n hx hb d_EP_front_33 rfl (lv_at hl 0 rfl) ?_
    refine va_get (D := D) (ci := 0) (v := .int 0) (C := R_Co) (T := F_Co) (N := 3) hx hb hg in_Co hown hK hC 0 rfl rfl 0 (Nat.le_of_ble_eq_true rfl) (hg _ tw_76) (fun _ h9 => h9) rfl d_EP_front_34 ?_
    refine lv_if_ne (tgt := 47) hx hb d_EP_front_37 (by decide) (fun hc => False.elim (by revert hc; decide)) (fun hc => ?_)
    refine lv_aload_n hx hb d_EP_front_40 rfl (lv_at hl 1 rfl) ?_
    refine va_get (D := D) (ci := 8) (v := .ref (o + 62)) (C := R_EP) (T := F_EP) (N := 7) hx hb hg in_EP hown hK hE 0 rfl rfl 1 (Nat.le_of_ble_eq_true rfl) (hg _ tw_199) (fun _ h9 => h9) rfl d_EP_front_41 ?_
    refine lv_goto (tgt := 51) hx hb d_EP_front_44 (by decide) ?_
    refine lv_astore (lv' := [(4, .ref (o + 62)), (3, .ref (o + 2 + 15 * j)), (0, .ref o), (1, .int (nI j)), (2, .int t)]) hx hb d_EP_front_51 hl (by decide) rfl (fun ls hl => ?_)
    refine lv_aload_n hx hb d_EP_front_53 rfl (lv_at hl 1 rfl) ?_
    refine va_get (D := D) (ci := 0) (v := .ref (o + 2 + 15 * j + 1)) (C := R_Co) (T := F_Co) (N := 3) hx hb hg in_Co hown hK hC 0 rfl rfl 1 (Nat.le_of_ble_eq_true rfl) (hg _ tw_78) (fun _ h9 => h9) rfl d_EP_front_54 ?_
    refine lv_iload_n hx hb d_EP_front_57 rfl (lv_at hl 4 rfl) ?_
    refine lv_aload hx hb d_EP_front_58 (lv_at hl 0 rfl) ?_
    refine ep_callH (W.runV (As := [.int t, .ref (o + 62)]) (rest := []) ⟨hx, hb, hml, hown, hg⟩ (m_Li_runUpTo_Qu l D cI cJ cZ cO (o + 2 + 15 * j + 1) n mo na aa bb re ef (o + 62) qn qv qr qf t (by omega) (by omega) _ rfl) (ep_cwV 2 hg tw_575 tw_576 tw_577 tw_3 tk_Li_runUpTo rfl rfl (by decide +kernel) ⟨(Nat.le_of_ble_eq_true rfl), (Nat.le_of_ble_eq_true rfl)⟩) ⟨ep_blind, va_recv (q0 := 0) (ci := 1) hK hN rfl rfl, ep_pre hKn (hN.app hQ)⟩ rfl rfl hl.1 rfl (lv_room (Nat.le_of_ble_eq_true rfl)) d_EP_front_60 ⟨Nat.zero_le _, Nat.zero_le _⟩) hS ((by intro q h; simp only [blk] at h ⊢; omega)) (fun H locs hsz9 hk1 hP1 hS => ?_)
    refine W.eq (g2 := F0 m 63 ls []) rfl ?_
    have hE := wo_kc hE hk1 (off_in (rng_of wEP_in) (by intro q h1 h2 h3; simp only [blk] at h3; omega))
    have hC := wo_kc hC hk1 (off_in (rng_of wCo_in) (by intro q h1 h2 h3; simp only [blk] at h3; omega))
    have hN : va_P D cls (wLi cI cJ cZ (o + 2 + 15 * j + 1) n mo na aa bb re ef) H := wo_l hP1
    have hQ : va_P D cls (wBa cI 2 (o + 62) ((rut (fun nm x _ => bgS 2 nm x) mo na aa bb t n 0 ((0, qv), qr, qf)).1.1) ((rut (fun nm x _ => bgS 2 nm x) mo na aa bb t n 0 ((0, qv), qr, qf)).1.2) ((rut (fun nm x _ => bgS 2 nm x) mo na aa bb t n 0 ((0, qv), qr, qf)).2.1) ((rut (fun nm x _ => bgS 2 nm x) mo na aa bb t n 0 ((0, qv), qr, qf)).2.2)) H := wo_r hP1
    have hm9 : (rut (fun nm x _ => bgS 2 nm x) mo na aa bb t n 0 ((0, qv), qr, qf)).1.1 ≤ n := rut_le_0
    refine lv_aload hx hb d_EP_front_63 (lv_at hl 0 rfl) ?_
    refine va_get (D := D) (ci := 2) (v := .int (nI ((rut (fun nm x _ => bgS 2 nm x) mo na aa bb t n 0 ((0, qv), qr, qf)).1.1))) (C := R_Qu) (T := F_Qu) (N := 4) hx hb hg in_Qu hown hK hQ 0 rfl rfl 1 (Nat.le_of_ble_eq_true rfl) (hg _ tw_115) (fun x9 h9 => u_same (hg _ tw_114) x9 h9) rfl d_EP_front_65 ?_
    refine lv_if_ne (tgt := 81) hx hb d_EP_front_68 (by decide) (fun hc2 => ?_) (fun hc2 => ?_)
    · have hc2 : ¬ ((rut (fun nm x _ => bgS 2 nm x) mo na aa bb t n 0 ((0, qv), qr, qf)).1.1 = 0) := fun h9 => hc2 ((nI_eq (a := (rut (fun nm x _ => bgS 2 nm x) mo na aa bb t n 0 ((0, qv), qr, qf)).1.1) (b := 0) (by omega) (by omega)).mpr h9)
      refine lv_aload hx hb d_EP_front_81 (lv_at hl 0 rfl) ?_
      refine va_get (D := D) (ci := 2) (v := .ref (o + 62 + 1)) (C := R_Qu) (T := F_Qu) (N := 4) hx hb hg in_Qu hown hK hQ 0 rfl rfl 0 (Nat.le_of_ble_eq_true rfl) (hg _ tw_103) (fun _ h9 => h9) rfl d_EP_front_83 ?_
      refine lv_iconst (v := 0) hx hb d_EP_front_86 (by decide) ?_
      refine lv_topi (fun z7 e_z7 => ?_)
      obtain rfl : z7 = nI 0 := by rw [e_z7]; exact nI_0.symm
      refine ep_iald hx hb hK hQ 1 0 rfl rfl (i := 0) (by omega) (by decide) d_EP_front_87 ?_
      rw [if_pos hc1, if_neg hc2] at hR
      subst hR
      refine vx_ret ?_
      refine W.widen (k := 1) (n := 6) (Nat.le_of_ble_eq_true rfl) (Nat.le_of_ble_eq_true rfl) ?_
      exact W.iret (v := (((rut (fun nm x _ => bgS 2 nm x) mo na aa bb t n 0 ((0, qv), qr, qf)).1.2) 0)) hx hb hr (fun t9 ht hW => ⟨rfl, rfl, hS.F ht, ⟨_, _, _, _, by rw [ht]; exact hQ⟩⟩) hS.2.2 d_EP_front_88
    · have hc2 : (rut (fun nm x _ => bgS 2 nm x) mo na aa bb t n 0 ((0, qv), qr, qf)).1.1 = 0 := (nI_eq (a := (rut (fun nm x _ => bgS 2 nm x) mo na aa bb t n 0 ((0, qv), qr, qf)).1.1) (b := 0) (by omega) (by omega)).mp hc2
      rw [if_pos hc1, if_pos hc2] at hR
      subst hR
      obtain ⟨sa, hsa⟩ := hKn.2.2.2.2.2 ("EditablePast", 158, "nothing is in") (by decide +kernel)
      exact tn_throw (text := "nothing is in") (names := ["java/lang/Exception"]) hx hb hlt hown (by decide +kernel) (by decide +kernel) (by decide +kernel) (by decide +kernel) (by decide +kernel) (by decide +kernel) (by decide +kernel) (hg _ tw_542) (hg _ tw_20) hsa (ta_NSE hg hKn) ta_NSE_o hZ.1 hZ.2 hS (hl.1.trans hml.symm) d_EP_front_71 d_EP_front_74 d_EP_front_75 d_EP_front_77 d_EP_front_80 (fun x h => (hno x h).elim) (Nat.le_of_ble_eq_true rfl) (Nat.le_of_ble_eq_true rfl) (Nat.le_of_ble_eq_true rfl) (Nat.le_of_ble_eq_true rfl) hlocks (fun t9 hv h1 h2 => ⟨by show (3 : Nat) ≠ 0; decide, rfl, F_ext hS h1 h2, ⟨_, _, _, _, wo_kx hQ h2⟩⟩) hS.2.2 (Nat.le_of_ble_eq_true rfl) (Nat.le_of_ble_eq_true rfl)
  · rw [if_neg hc1] at hR
    subst hR
    refine ep_callX (E := E_IAE) (vx_runS (As := [.int t]) (rest := []) ⟨hx, hb, hml, hown, hg⟩ (m_EP_checkMoment_x l hlt D cI cJ cZ cO t hc1) (ep_cwS 1 hg tw_340 tw_341 tw_1 tk_EP_checkMoment rfl rfl (by decide +kernel) ⟨(Nat.le_of_ble_eq_true rfl), (Nat.le_of_ble_eq_true rfl)⟩) ⟨ep_blindX, ep_preX hKn (Zs.kept hZ hS (fun q h => h.elim)) (trivial)⟩ rfl rfl hl.1 rfl (lv_room (Nat.le_of_ble_eq_true rfl)) d_EP_front_1 ⟨(Nat.le_of_ble_eq_true rfl), (Nat.le_of_ble_eq_true rfl)⟩) hS (fun q h => h.elim) (fun ce q9 H1 locs1 hz1 hk1 hS1 hce hcv hcl => ?_)
    exact vx_out (fun x h => (hno x h).elim) hlocks hce hcv hcl (fun t9 ht hv => ⟨by show (1 : Nat) ≠ 0; decide, rfl, hS1.F ht, ⟨_, _, _, _, by rw [ht]; exact wo_kx hQ (fun q h => hk1 q h (fun z => z))⟩⟩) hS1.2.2 (Nat.le_of_ble_eq_true rfl) (Nat.le_of_ble_eq_true rfl)

def f_EP_front_1 (n : Nat) (mo : Nat → Int32) (na : Nat → Int32) (aa : Nat → Int32) (bb : Nat → Int32) (qv : Nat → Int32) (qr : Int64) (qf : Int32) (t : Int32) : Nat × Int32 := if okM t then (if (rut (fun nm x _ => bgS 3 nm x) mo na aa bb t n 0 ((0, qv), qr, qf)).1.1 = 0 then ((3, 0)) else ((0, ((rut (fun nm x _ => bgS 3 nm x) mo na aa bb t n 0 ((0, qv), qr, qf)).1.2) 0))) else ((1, 0))

set_option maxHeartbeats 4000000 in
set_option maxRecDepth 100000 in
theorem m_EP_front_1 (l : Launch) (hlt : l.stackTraces = false) (D : va_G) (cI cJ cZ cO : ClassId) (o : Nat) (j : Nat) (n : Nat) (mo : Nat → Int32) (na : Nat → Int32) (aa : Nat → Int32) (bb : Nat → Int32) (re : Nat → Int64) (ef : Nat → Int32) (qn : Nat) (qv : Nat → Int32) (qr : Int64) (qf : Int32) (t : Int32) (hj : j < 4) (hn : n ≤ 32) (R : Nat × Int32) (hR : f_EP_front_1 n mo na aa bb qv qr qf t = R) : vx_Met l y_EP_front (k_EP_front :: gt) rx_EP_front (PcX D cI cJ cZ cO (fun q => blk (o + 64) 2 q) [.ref o, .int (nI j), .int t] (fun H => va_P D cls (wEP cO o) H ∧ va_P D cls (wCo (o + 2 + 15 * j) 1) H ∧ va_P D cls (wLi cI cJ cZ (o + 2 + 15 * j + 1) n mo na aa bb re ef) H ∧ va_P D cls (wBa cI 3 (o + 64) qn qv qr qf) H)) (Qt R.1 (fun q => blk (o + 64) 2 q) (some (.int R.2)) (fun H => (∃ (qn : Nat) (qv : Nat → Int32) (qr : Int64) (qf : Int32), va_P D cls (wBa cI 3 (o + 64) qn qv qr qf) H))) (Xt R.1 E_NSE (fun q => blk (o + 64) 2 q) (fun H => (∃ (qn : Nat) (qv : Nat → Int32) (qr : Int64) (qf : Int32), va_P D cls (wBa cI 3 (o + 64) qn qv qr qf) H))) 1 6 (fun q => blk (o + 64) 2 q) := by
  refine vx_ofW (cc := c_EP_front) (maxL := 5) (ret := (Option.some FieldType.int)) (by decide) rfl ?_
  intro p e s m args below meth c s₁ B hml hno hv
  obtain ⟨rfl, hKn, hZ, hE, hC, hN, hQ⟩ := hv
  have hx := B.exec
  have hb := B.bytes
  have hr := B.returns
  have hts := atoms_spec (ws := k_EP_front :: gt) B.pre
  have hg : ∀ w ∈ gt, w.before _ s = true := fun w h => hts w (List.mem_cons_of_mem _ h)
  have hown : s.vm.findClass R_EP = some m.cls := findClass_of_methodNamed B.named
  have hlocks := B.notSynchronized
  have hK := hKn.1
  have hl := lv_entry ([.ref o, .int (nI j), .int t]) (n := 5) (Nat.le_of_ble_eq_true rfl)
  rw [lg_entry_eq]
  generalize (lg_sl ([.ref o, .int (nI j), .int t]) ++ List.replicate (5 - (lg_sl ([.ref o, .int (nI j), .int t])).length) Slot.unset).toArray = ls at hl ⊢
  have hl : lv_has ls 5 [(0, .ref o), (1, .int (nI j)), (2, .int t)] := hl
  have hS : va_S (fun q => blk (o + 64) 2 q) s.heap s.heap [] := va_S.rf
  have hR : (if okM t then (if (rut (fun nm x _ => bgS 3 nm x) mo na aa bb t n 0 ((0, qv), qr, qf)).1.1 = 0 then ((3, 0)) else ((0, ((rut (fun nm x _ => bgS 3 nm x) mo na aa bb t n 0 ((0, qv), qr, qf)).1.2) 0))) else ((1, 0))) = R := hR
  refine lv_iload_n hx hb d_EP_front_0 rfl (lv_at hl 2 rfl) ?_
  by_cases hc1 : okM t
  · refine ep_callP (W.runS (As := [.int t]) (rest := []) ⟨hx, hb, hml, hown, hg⟩ (m_EP_checkMoment_ok l D cI cJ cZ cO t hc1) (ep_cwS 1 hg tw_340 tw_341 tw_1 tk_EP_checkMoment rfl rfl (by decide +kernel) ⟨(Nat.le_of_ble_eq_true rfl), (Nat.le_of_ble_eq_true rfl)⟩) ⟨ep_blind, ep_pre hKn (trivial)⟩ rfl rfl hl.1 rfl (lv_room (Nat.le_of_ble_eq_true rfl)) d_EP_front_1 ⟨Nat.zero_le _, Nat.zero_le _⟩) ?_
    refine W.eq (g2 := F0 m 4 ls []) rfl ?_
    refine lv_aload_n hx hb d_EP_front_4 rfl (lv_at hl 0 rfl) ?_
    refine lv_iload_n hx hb d_EP_front_5 rfl (lv_at hl 1 rfl) ?_
    refine ep_callP (W.runV (As := [.int (nI j)]) (rest := []) ⟨hx, hb, hml, hown, hg⟩ (m_EP_openCollection_ok l D cI cJ cZ cO o j 1 (by omega) (by decide)) (ep_cwV 1 hg tw_327 tw_329 ts_2 tw_1 tk_EP_openCollection rfl rfl (by decide +kernel) ⟨(Nat.le_of_ble_eq_true rfl), (Nat.le_of_ble_eq_true rfl)⟩) ⟨ep_blind, va_recv (q0 := 0) (ci := 8) hK hE rfl rfl, ep_pre hKn (⟨hE, hC⟩)⟩ rfl rfl hl.1 rfl (lv_room (Nat.le_of_ble_eq_true rfl)) d_EP_front_6 ⟨Nat.zero_le _, Nat.zero_le _⟩) ?_
    refine W.eq (g2 := F0 m 9 ls [.ref (o + 2 + 15 * j)]) rfl ?_
    refine lv_astore_n (lv' := [(3, .ref (o + 2 + 15 * j)), (0, .ref o), (1, .int (nI j)), (2, .int t)]) hx hb d_EP_front_9 rfl hl (by decide) rfl (fun ls hl => ?_)
    refine lv_aload_n hx hb d_EP_front_10 rfl (lv_at hl 0 rfl) ?_
    refine va_get (D := D) (ci := 0) (v := .int 1) (C := R_Co) (T := F_Co) (N := 3) hx hb hg in_Co hown hK hC 0 rfl rfl 0 (Nat.le_of_ble_eq_true rfl) (hg _ tw_76) (fun _ h9 => h9) rfl d_EP_front_11 ?_
    refine lv_if_eq (tgt := 25) hx hb d_EP_front_14 (by decide) (fun hc => False.elim (by revert hc; decide)) (fun hc => ?_)
    refine lv_aload_n hx hb d_EP_front_17 rfl (lv_at hl 0 rfl) ?_
    refine va_get (D := D) (ci := 0) (v := .int 1) (C := R_Co) (T := F_Co) (N := 3) hx hb hg in_Co hown hK hC 0 rfl rfl 0 (Nat.le_of_ble_eq_true rfl) (hg _ tw_76) (fun _ h9 => h9) rfl d_EP_front_18 ?_
    refine lv_iconst (v := 1) hx hb d_EP_front_21 (by decide) ?_
    refine lv_icmp_ne (tgt := 29) hx hb d_EP_front_22 (by decide) (fun hc => False.elim (by revert hc; decide)) (fun hc => ?_)
    refine lv_iconst (v := 1) hx hb d_EP_front_25 (by decide) ?_
    refine lv_goto (tgt := 30) hx hb d_EP_front_26 (by decide) ?_
    refine ep_callP (W.runS (As := [.int 1]) (rest := []) ⟨hx, hb, hml, hown, hg⟩ (m_EP_checkKind_1 l D cI cJ cZ cO) (ep_cwS 1 hg tw_571 tw_572 tw_1 tk_EP_checkKind rfl rfl (by decide +kernel) ⟨(Nat.le_of_ble_eq_true rfl), (Nat.le_of_ble_eq_true rfl)⟩) ⟨ep_blind, ep_pre hKn (trivial)⟩ rfl rfl hl.1 rfl (lv_room (Nat.le_of_ble_eq_true rfl)) d_EP_front_30 ⟨Nat.zero_le _, Nat.zero_le _⟩) ?_
    refine W.eq (g2 := F0 m 33 ls []) rfl ?_
    refine lv_aload_n hx hb d_EP_front_33 rfl (lv_at hl 0 rfl) ?_
    refine va_get (D := D) (ci := 0) (v := .int 1) (C := R_Co) (T := F_Co) (N := 3) hx hb hg in_Co hown hK hC 0 rfl rfl 0 (Nat.le_of_ble_eq_true rfl) (hg _ tw_76) (fun _ h9 => h9) rfl d_EP_front_34 ?_
    refine lv_if_ne (tgt := 47) hx hb d_EP_front_37 (by decide) (fun hc => ?_) (fun hc => False.elim (by revert hc; decide))
    refine lv_aload_n hx hb d_EP_front_47 rfl (lv_at hl 1 rfl) ?_
    refine va_get (D := D) (ci := 8) (v := .ref (o + 64)) (C := R_EP) (T := F_EP) (N := 7) hx hb hg in_EP hown hK hE 0 rfl rfl 2 (Nat.le_of_ble_eq_true rfl) (hg _ tw_200) (fun _ h9 => h9) rfl d_EP_front_48 ?_
    refine lv_astore (lv' := [(4, .ref (o + 64)), (3, .ref (o + 2 + 15 * j)), (0, .ref o), (1, .int (nI j)), (2, .int t)]) hx hb d_EP_front_51 hl (by decide) rfl (fun ls hl => ?_)
    refine lv_aload_n hx hb d_EP_front_53 rfl (lv_at hl 1 rfl) ?_
    refine va_get (D := D) (ci := 0) (v := .ref (o + 2 + 15 * j + 1)) (C := R_Co) (T := F_Co) (N := 3) hx hb hg in_Co hown hK hC 0 rfl rfl 1 (Nat.le_of_ble_eq_true rfl) (hg _ tw_78) (fun _ h9 => h9) rfl d_EP_front_54 ?_
    refine lv_iload_n hx hb d_EP_front_57 rfl (lv_at hl 4 rfl) ?_
    refine lv_aload hx hb d_EP_front_58 (lv_at hl 0 rfl) ?_
    refine ep_callH (W.runV (As := [.int t, .ref (o + 64)]) (rest := []) ⟨hx, hb, hml, hown, hg⟩ (m_Li_runUpTo_St l D cI cJ cZ cO (o + 2 + 15 * j + 1) n mo na aa bb re ef (o + 64) qn qv qr qf t (by omega) (by omega) _ rfl) (ep_cwV 2 hg tw_575 tw_576 tw_577 tw_3 tk_Li_runUpTo rfl rfl (by decide +kernel) ⟨(Nat.le_of_ble_eq_true rfl), (Nat.le_of_ble_eq_true rfl)⟩) ⟨ep_blind, va_recv (q0 := 0) (ci := 1) hK hN rfl rfl, ep_pre hKn (hN.app hQ)⟩ rfl rfl hl.1 rfl (lv_room (Nat.le_of_ble_eq_true rfl)) d_EP_front_60 ⟨Nat.zero_le _, Nat.zero_le _⟩) hS ((by intro q h; simp only [blk] at h ⊢; omega)) (fun H locs hsz9 hk1 hP1 hS => ?_)
    refine W.eq (g2 := F0 m 63 ls []) rfl ?_
    have hE := wo_kc hE hk1 (off_in (rng_of wEP_in) (by intro q h1 h2 h3; simp only [blk] at h3; omega))
    have hC := wo_kc hC hk1 (off_in (rng_of wCo_in) (by intro q h1 h2 h3; simp only [blk] at h3; omega))
    have hN : va_P D cls (wLi cI cJ cZ (o + 2 + 15 * j + 1) n mo na aa bb re ef) H := wo_l hP1
    have hQ : va_P D cls (wBa cI 3 (o + 64) ((rut (fun nm x _ => bgS 3 nm x) mo na aa bb t n 0 ((0, qv), qr, qf)).1.1) ((rut (fun nm x _ => bgS 3 nm x) mo na aa bb t n 0 ((0, qv), qr, qf)).1.2) ((rut (fun nm x _ => bgS 3 nm x) mo na aa bb t n 0 ((0, qv), qr, qf)).2.1) ((rut (fun nm x _ => bgS 3 nm x) mo na aa bb t n 0 ((0, qv), qr, qf)).2.2)) H := wo_r hP1
    have hm9 : (rut (fun nm x _ => bgS 3 nm x) mo na aa bb t n 0 ((0, qv), qr, qf)).1.1 ≤ n := rut_le_1
    refine lv_aload hx hb d_EP_front_63 (lv_at hl 0 rfl) ?_
    refine va_get (D := D) (ci := 3) (v := .int (nI ((rut (fun nm x _ => bgS 3 nm x) mo na aa bb t n 0 ((0, qv), qr, qf)).1.1))) (C := R_St) (T := F_St) (N := 4) hx hb hg in_St hown hK hQ 0 rfl rfl 1 (Nat.le_of_ble_eq_true rfl) (hg _ tw_115) (fun x9 h9 => u_same (hg _ tw_114) x9 h9) rfl d_EP_front_65 ?_
    refine lv_if_ne (tgt := 81) hx hb d_EP_front_68 (by decide) (fun hc2 => ?_) (fun hc2 => ?_)
    · have hc2 : ¬ ((rut (fun nm x _ => bgS 3 nm x) mo na aa bb t n 0 ((0, qv), qr, qf)).1.1 = 0) := fun h9 => hc2 ((nI_eq (a := (rut (fun nm x _ => bgS 3 nm x) mo na aa bb t n 0 ((0, qv), qr, qf)).1.1) (b := 0) (by omega) (by omega)).mpr h9)
      refine lv_aload hx hb d_EP_front_81 (lv_at hl 0 rfl) ?_
      refine va_get (D := D) (ci := 3) (v := .ref (o + 64 + 1)) (C := R_St) (T := F_St) (N := 4) hx hb hg in_St hown hK hQ 0 rfl rfl 0 (Nat.le_of_ble_eq_true rfl) (hg _ tw_103) (fun _ h9 => h9) rfl d_EP_front_83 ?_
      refine lv_iconst (v := 0) hx hb d_EP_front_86 (by decide) ?_
      refine lv_topi (fun z7 e_z7 => ?_)
      obtain rfl : z7 = nI 0 := by rw [e_z7]; exact nI_0.symm
      refine ep_iald hx hb hK hQ 1 0 rfl rfl (i := 0) (by omega) (by decide) d_EP_front_87 ?_
      rw [if_pos hc1, if_neg hc2] at hR
      subst hR
      refine vx_ret ?_
      refine W.widen (k := 1) (n := 6) (Nat.le_of_ble_eq_true rfl) (Nat.le_of_ble_eq_true rfl) ?_
      exact W.iret (v := (((rut (fun nm x _ => bgS 3 nm x) mo na aa bb t n 0 ((0, qv), qr, qf)).1.2) 0)) hx hb hr (fun t9 ht hW => ⟨rfl, rfl, hS.F ht, ⟨_, _, _, _, by rw [ht]; exact hQ⟩⟩) hS.2.2 d_EP_front_88
    · have hc2 : (rut (fun nm x _ => bgS 3 nm x) mo na aa bb t n 0 ((0, qv), qr, qf)).1.1 = 0 := (nI_eq (a := (rut (fun nm x _ => bgS 3 nm x) mo na aa bb t n 0 ((0, qv), qr, qf)).1.1) (b := 0) (by omega) (by omega)).mp hc2
      rw [if_pos hc1, if_pos hc2] at hR
      subst hR
      obtain ⟨sa, hsa⟩ := hKn.2.2.2.2.2 ("EditablePast", 158, "nothing is in") (by decide +kernel)
      exact tn_throw (text := "nothing is in") (names := ["java/lang/Exception"]) hx hb hlt hown (by decide +kernel) (by decide +kernel) (by decide +kernel) (by decide +kernel) (by decide +kernel) (by decide +kernel) (by decide +kernel) (hg _ tw_542) (hg _ tw_20) hsa (ta_NSE hg hKn) ta_NSE_o hZ.1 hZ.2 hS (hl.1.trans hml.symm) d_EP_front_71 d_EP_front_74 d_EP_front_75 d_EP_front_77 d_EP_front_80 (fun x h => (hno x h).elim) (Nat.le_of_ble_eq_true rfl) (Nat.le_of_ble_eq_true rfl) (Nat.le_of_ble_eq_true rfl) (Nat.le_of_ble_eq_true rfl) hlocks (fun t9 hv h1 h2 => ⟨by show (3 : Nat) ≠ 0; decide, rfl, F_ext hS h1 h2, ⟨_, _, _, _, wo_kx hQ h2⟩⟩) hS.2.2 (Nat.le_of_ble_eq_true rfl) (Nat.le_of_ble_eq_true rfl)
  · rw [if_neg hc1] at hR
    subst hR
    refine ep_callX (E := E_IAE) (vx_runS (As := [.int t]) (rest := []) ⟨hx, hb, hml, hown, hg⟩ (m_EP_checkMoment_x l hlt D cI cJ cZ cO t hc1) (ep_cwS 1 hg tw_340 tw_341 tw_1 tk_EP_checkMoment rfl rfl (by decide +kernel) ⟨(Nat.le_of_ble_eq_true rfl), (Nat.le_of_ble_eq_true rfl)⟩) ⟨ep_blindX, ep_preX hKn (Zs.kept hZ hS (fun q h => h.elim)) (trivial)⟩ rfl rfl hl.1 rfl (lv_room (Nat.le_of_ble_eq_true rfl)) d_EP_front_1 ⟨(Nat.le_of_ble_eq_true rfl), (Nat.le_of_ble_eq_true rfl)⟩) hS (fun q h => h.elim) (fun ce q9 H1 locs1 hz1 hk1 hS1 hce hcv hcl => ?_)
    exact vx_out (fun x h => (hno x h).elim) hlocks hce hcv hcl (fun t9 ht hv => ⟨by show (1 : Nat) ≠ 0; decide, rfl, hS1.F ht, ⟨_, _, _, _, by rw [ht]; exact wo_kx hQ (fun q h => hk1 q h (fun z => z))⟩⟩) hS1.2.2 (Nat.le_of_ble_eq_true rfl) (Nat.le_of_ble_eq_true rfl)

def f_EP_size_b (t : Int32) : Nat × Int32 := if okM t then ((1, 0)) else ((1, 0))

set_option maxHeartbeats 4000000 in
set_option maxRecDepth 100000 in
theorem m_EP_size_b (l : Launch) (hlt : l.stackTraces = false) (D : va_G) (cI cJ cZ cO : ClassId) (o : Nat) (id : Int32) (t : Int32) (hid : ¬ okI id) (R : Nat × Int32) (hR : f_EP_size_b t = R) : vx_Met l y_EP_size (k_EP_size :: gt) rx_EP_size (PcX D cI cJ cZ cO (fun _ => False) [.ref o, .int id, .int t] (fun H => va_P D cls (wEP cO o) H)) (Qt R.1 (fun _ => False) (some (.int R.2)) (fun H => True)) (Xt R.1 E_NSE (fun _ => False) (fun H => True)) 1 6 (fun _ => False) := by
  refine vx_ofW (cc := c_EP_size) (maxL := 5) (ret := (Option.some FieldType.int)) (by decide) rfl ?_
  intro p e s m args below meth c s₁ B hml hno hv
  obtain ⟨rfl, hKn, hZ, hE⟩ := hv
  have hx := B.exec
  have hb := B.bytes
  have hr := B.returns
  have hts := atoms_spec (ws := k_EP_size :: gt) B.pre
  have hg : ∀ w ∈ gt, w.before _ s = true := fun w h => hts w (List.mem_cons_of_mem _ h)
  have hown : s.vm.findClass R_EP = some m.cls := findClass_of_methodNamed B.named
  have hlocks := B.notSynchronized
  have hK := hKn.1
  have hl := lv_entry ([.ref o, .int id, .int t]) (n := 5) (Nat.le_of_ble_eq_true rfl)
  rw [lg_entry_eq]
  generalize (lg_sl ([.ref o, .int id, .int t]) ++ List.replicate (5 - (lg_sl ([.ref o, .int id, .int t])).length) Slot.unset).toArray = ls at hl ⊢
  have hl : lv_has ls 5 [(0, .ref o), (1, .int id), (2, .int t)] := hl
  have hS : va_S (fun _ => False) s.heap s.heap [] := va_S.rf
  have hR : (if okM t then ((1, 0)) else ((1, 0))) = R := hR
  refine lv_iload_n hx hb d_EP_size_0 rfl (lv_at hl 2 rfl) ?_
  by_cases hc1 : okM t
  · refine ep_callP (W.runS (As := [.int t]) (rest := []) ⟨hx, hb, hml, hown, hg⟩ (m_EP_checkMoment_ok l D cI cJ cZ cO t hc1) (ep_cwS 1 hg tw_340 tw_341 tw_1 tk_EP_checkMoment rfl rfl (by decide +kernel) ⟨(Nat.le_of_ble_eq_true rfl), (Nat.le_of_ble_eq_true rfl)⟩) ⟨ep_blind, ep_pre hKn (trivial)⟩ rfl rfl hl.1 rfl (lv_room (Nat.le_of_ble_eq_true rfl)) d_EP_size_1 ⟨Nat.zero_le _, Nat.zero_le _⟩) ?_
    refine W.eq (g2 := F0 m 4 ls []) rfl ?_
    refine lv_aload_n hx hb d_EP_size_4 rfl (lv_at hl 0 rfl) ?_
    refine lv_iload_n hx hb d_EP_size_5 rfl (lv_at hl 1 rfl) ?_
    rw [if_pos hc1] at hR
    subst hR
    refine ep_callX (E := E_IAE) (vx_runV (As := [.int id]) (rest := []) ⟨hx, hb, hml, hown, hg⟩ (m_EP_openCollection_b l hlt D cI cJ cZ cO o id hid) (ep_cwV 1 hg tw_327 tw_329 ts_2 tw_1 tk_EP_openCollection rfl rfl (by decide +kernel) ⟨(Nat.le_of_ble_eq_true rfl), (Nat.le_of_ble_eq_true rfl)⟩) ⟨ep_blindX, va_recv (q0 := 0) (ci := 8) hK hE rfl rfl, ep_preX hKn (Zs.kept hZ hS (fun q h => h.elim)) (hE)⟩ rfl rfl hl.1 rfl (lv_room (Nat.le_of_ble_eq_true rfl)) d_EP_size_6 ⟨(Nat.le_of_ble_eq_true rfl), (Nat.le_of_ble_eq_true rfl)⟩) hS (fun q h => h.elim) (fun ce q9 H1 locs1 hz1 hk1 hS1 hce hcv hcl => ?_)
    exact vx_out (fun x h => (hno x h).elim) hlocks hce hcv hcl (fun t9 ht hv => ⟨by show (1 : Nat) ≠ 0; decide, rfl, hS1.F ht, trivial⟩) hS1.2.2 (Nat.le_of_ble_eq_true rfl) (Nat.le_of_ble_eq_true rfl)
  · rw [if_neg hc1] at hR
    subst hR
    refine ep_callX (E := E_IAE) (vx_runS (As := [.int t]) (rest := []) ⟨hx, hb, hml, hown, hg⟩ (m_EP_checkMoment_x l hlt D cI cJ cZ cO t hc1) (ep_cwS 1 hg tw_340 tw_341 tw_1 tk_EP_checkMoment rfl rfl (by decide +kernel) ⟨(Nat.le_of_ble_eq_true rfl), (Nat.le_of_ble_eq_true rfl)⟩) ⟨ep_blindX, ep_preX hKn (Zs.kept hZ hS (fun q h => h.elim)) (trivial)⟩ rfl rfl hl.1 rfl (lv_room (Nat.le_of_ble_eq_true rfl)) d_EP_size_1 ⟨(Nat.le_of_ble_eq_true rfl), (Nat.le_of_ble_eq_true rfl)⟩) hS (fun q h => h.elim) (fun ce q9 H1 locs1 hz1 hk1 hS1 hce hcv hcl => ?_)
    exact vx_out (fun x h => (hno x h).elim) hlocks hce hcv hcl (fun t9 ht hv => ⟨by show (1 : Nat) ≠ 0; decide, rfl, hS1.F ht, trivial⟩) hS1.2.2 (Nat.le_of_ble_eq_true rfl) (Nat.le_of_ble_eq_true rfl)

def f_EP_size_c (t : Int32) : Nat × Int32 := if okM t then ((2, 0)) else ((1, 0))

set_option maxHeartbeats 4000000 in
set_option maxRecDepth 100000 in
theorem m_EP_size_c (l : Launch) (hlt : l.stackTraces = false) (D : va_G) (cI cJ cZ cO : ClassId) (o : Nat) (j : Nat) (t : Int32) (hj : j < 4) (R : Nat × Int32) (hR : f_EP_size_c t = R) : vx_Met l y_EP_size (k_EP_size :: gt) rx_EP_size (PcX D cI cJ cZ cO (fun _ => False) [.ref o, .int (nI j), .int t] (fun H => va_P D cls (wEP cO o) H ∧ va_P D cls (wCo (o + 2 + 15 * j) (-1)) H)) (Qt R.1 (fun _ => False) (some (.int R.2)) (fun H => True)) (Xt R.1 E_NSE (fun _ => False) (fun H => True)) 1 6 (fun _ => False) := by
  refine vx_ofW (cc := c_EP_size) (maxL := 5) (ret := (Option.some FieldType.int)) (by decide) rfl ?_
  intro p e s m args below meth c s₁ B hml hno hv
  obtain ⟨rfl, hKn, hZ, hE, hC⟩ := hv
  have hx := B.exec
  have hb := B.bytes
  have hr := B.returns
  have hts := atoms_spec (ws := k_EP_size :: gt) B.pre
  have hg : ∀ w ∈ gt, w.before _ s = true := fun w h => hts w (List.mem_cons_of_mem _ h)
  have hown : s.vm.findClass R_EP = some m.cls := findClass_of_methodNamed B.named
  have hlocks := B.notSynchronized
  have hK := hKn.1
  have hl := lv_entry ([.ref o, .int (nI j), .int t]) (n := 5) (Nat.le_of_ble_eq_true rfl)
  rw [lg_entry_eq]
  generalize (lg_sl ([.ref o, .int (nI j), .int t]) ++ List.replicate (5 - (lg_sl ([.ref o, .int (nI j), .int t])).length) Slot.unset).toArray = ls at hl ⊢
  have hl : lv_has ls 5 [(0, .ref o), (1, .int (nI j)), (2, .int t)] := hl
  have hS : va_S (fun _ => False) s.heap s.heap [] := va_S.rf
  have hR : (if okM t then ((2, 0)) else ((1, 0))) = R := hR
  refine lv_iload_n hx hb d_EP_size_0 rfl (lv_at hl 2 rfl) ?_
  by_cases hc1 : okM t
  · refine ep_callP (W.runS (As := [.int t]) (rest := []) ⟨hx, hb, hml, hown, hg⟩ (m_EP_checkMoment_ok l D cI cJ cZ cO t hc1) (ep_cwS 1 hg tw_340 tw_341 tw_1 tk_EP_checkMoment rfl rfl (by decide +kernel) ⟨(Nat.le_of_ble_eq_true rfl), (Nat.le_of_ble_eq_true rfl)⟩) ⟨ep_blind, ep_pre hKn (trivial)⟩ rfl rfl hl.1 rfl (lv_room (Nat.le_of_ble_eq_true rfl)) d_EP_size_1 ⟨Nat.zero_le _, Nat.zero_le _⟩) ?_
    refine W.eq (g2 := F0 m 4 ls []) rfl ?_
    refine lv_aload_n hx hb d_EP_size_4 rfl (lv_at hl 0 rfl) ?_
    refine lv_iload_n hx hb d_EP_size_5 rfl (lv_at hl 1 rfl) ?_
    rw [if_pos hc1] at hR
    subst hR
    refine ep_callX (E := E_ISE) (vx_runV (As := [.int (nI j)]) (rest := []) ⟨hx, hb, hml, hown, hg⟩ (m_EP_openCollection_c l hlt D cI cJ cZ cO o j (by omega)) (ep_cwV 1 hg tw_327 tw_329 ts_2 tw_1 tk_EP_openCollection rfl rfl (by decide +kernel) ⟨(Nat.le_of_ble_eq_true rfl), (Nat.le_of_ble_eq_true rfl)⟩) ⟨ep_blindX, va_recv (q0 := 0) (ci := 8) hK hE rfl rfl, ep_preX hKn (Zs.kept hZ hS (fun q h => h.elim)) (⟨hE, hC⟩)⟩ rfl rfl hl.1 rfl (lv_room (Nat.le_of_ble_eq_true rfl)) d_EP_size_6 ⟨(Nat.le_of_ble_eq_true rfl), (Nat.le_of_ble_eq_true rfl)⟩) hS (fun q h => h.elim) (fun ce q9 H1 locs1 hz1 hk1 hS1 hce hcv hcl => ?_)
    exact vx_out (fun x h => (hno x h).elim) hlocks hce hcv hcl (fun t9 ht hv => ⟨by show (2 : Nat) ≠ 0; decide, rfl, hS1.F ht, trivial⟩) hS1.2.2 (Nat.le_of_ble_eq_true rfl) (Nat.le_of_ble_eq_true rfl)
  · rw [if_neg hc1] at hR
    subst hR
    refine ep_callX (E := E_IAE) (vx_runS (As := [.int t]) (rest := []) ⟨hx, hb, hml, hown, hg⟩ (m_EP_checkMoment_x l hlt D cI cJ cZ cO t hc1) (ep_cwS 1 hg tw_340 tw_341 tw_1 tk_EP_checkMoment rfl rfl (by decide +kernel) ⟨(Nat.le_of_ble_eq_true rfl), (Nat.le_of_ble_eq_true rfl)⟩) ⟨ep_blindX, ep_preX hKn (Zs.kept hZ hS (fun q h => h.elim)) (trivial)⟩ rfl rfl hl.1 rfl (lv_room (Nat.le_of_ble_eq_true rfl)) d_EP_size_1 ⟨(Nat.le_of_ble_eq_true rfl), (Nat.le_of_ble_eq_true rfl)⟩) hS (fun q h => h.elim) (fun ce q9 H1 locs1 hz1 hk1 hS1 hce hcv hcl => ?_)
    exact vx_out (fun x h => (hno x h).elim) hlocks hce hcv hcl (fun t9 ht hv => ⟨by show (1 : Nat) ≠ 0; decide, rfl, hS1.F ht, trivial⟩) hS1.2.2 (Nat.le_of_ble_eq_true rfl) (Nat.le_of_ble_eq_true rfl)

def f_EP_size_w (t : Int32) : Nat × Int32 := if okM t then ((2, 0)) else ((1, 0))

set_option maxHeartbeats 4000000 in
set_option maxRecDepth 100000 in
theorem m_EP_size_w (l : Launch) (hlt : l.stackTraces = false) (D : va_G) (cI cJ cZ cO : ClassId) (o : Nat) (j : Nat) (t : Int32) (hj : j < 4) (R : Nat × Int32) (hR : f_EP_size_w t = R) : vx_Met l y_EP_size (k_EP_size :: gt) rx_EP_size (PcX D cI cJ cZ cO (fun _ => False) [.ref o, .int (nI j), .int t] (fun H => va_P D cls (wEP cO o) H ∧ va_P D cls (wCo (o + 2 + 15 * j) 4) H)) (Qt R.1 (fun _ => False) (some (.int R.2)) (fun H => True)) (Xt R.1 E_NSE (fun _ => False) (fun H => True)) 1 6 (fun _ => False) := by
  refine vx_ofW (cc := c_EP_size) (maxL := 5) (ret := (Option.some FieldType.int)) (by decide) rfl ?_
  intro p e s m args below meth c s₁ B hml hno hv
  obtain ⟨rfl, hKn, hZ, hE, hC⟩ := hv
  have hx := B.exec
  have hb := B.bytes
  have hr := B.returns
  have hts := atoms_spec (ws := k_EP_size :: gt) B.pre
  have hg : ∀ w ∈ gt, w.before _ s = true := fun w h => hts w (List.mem_cons_of_mem _ h)
  have hown : s.vm.findClass R_EP = some m.cls := findClass_of_methodNamed B.named
  have hlocks := B.notSynchronized
  have hK := hKn.1
  have hl := lv_entry ([.ref o, .int (nI j), .int t]) (n := 5) (Nat.le_of_ble_eq_true rfl)
  rw [lg_entry_eq]
  generalize (lg_sl ([.ref o, .int (nI j), .int t]) ++ List.replicate (5 - (lg_sl ([.ref o, .int (nI j), .int t])).length) Slot.unset).toArray = ls at hl ⊢
  have hl : lv_has ls 5 [(0, .ref o), (1, .int (nI j)), (2, .int t)] := hl
  have hS : va_S (fun _ => False) s.heap s.heap [] := va_S.rf
  have hR : (if okM t then ((2, 0)) else ((1, 0))) = R := hR
  refine lv_iload_n hx hb d_EP_size_0 rfl (lv_at hl 2 rfl) ?_
  by_cases hc1 : okM t
  · refine ep_callP (W.runS (As := [.int t]) (rest := []) ⟨hx, hb, hml, hown, hg⟩ (m_EP_checkMoment_ok l D cI cJ cZ cO t hc1) (ep_cwS 1 hg tw_340 tw_341 tw_1 tk_EP_checkMoment rfl rfl (by decide +kernel) ⟨(Nat.le_of_ble_eq_true rfl), (Nat.le_of_ble_eq_true rfl)⟩) ⟨ep_blind, ep_pre hKn (trivial)⟩ rfl rfl hl.1 rfl (lv_room (Nat.le_of_ble_eq_true rfl)) d_EP_size_1 ⟨Nat.zero_le _, Nat.zero_le _⟩) ?_
    refine W.eq (g2 := F0 m 4 ls []) rfl ?_
    refine lv_aload_n hx hb d_EP_size_4 rfl (lv_at hl 0 rfl) ?_
    refine lv_iload_n hx hb d_EP_size_5 rfl (lv_at hl 1 rfl) ?_
    refine ep_callP (W.runV (As := [.int (nI j)]) (rest := []) ⟨hx, hb, hml, hown, hg⟩ (m_EP_openCollection_ok l D cI cJ cZ cO o j 4 (by omega) (by decide)) (ep_cwV 1 hg tw_327 tw_329 ts_2 tw_1 tk_EP_openCollection rfl rfl (by decide +kernel) ⟨(Nat.le_of_ble_eq_true rfl), (Nat.le_of_ble_eq_true rfl)⟩) ⟨ep_blind, va_recv (q0 := 0) (ci := 8) hK hE rfl rfl, ep_pre hKn (⟨hE, hC⟩)⟩ rfl rfl hl.1 rfl (lv_room (Nat.le_of_ble_eq_true rfl)) d_EP_size_6 ⟨Nat.zero_le _, Nat.zero_le _⟩) ?_
    refine W.eq (g2 := F0 m 9 ls [.ref (o + 2 + 15 * j)]) rfl ?_
    refine lv_astore_n (lv' := [(3, .ref (o + 2 + 15 * j)), (0, .ref o), (1, .int (nI j)), (2, .int t)]) hx hb d_EP_size_9 rfl hl (by decide) rfl (fun ls hl => ?_)
    refine lv_aload_n hx hb d_EP_size_10 rfl (lv_at hl 0 rfl) ?_
    refine va_get (D := D) (ci := 0) (v := .int 4) (C := R_Co) (T := F_Co) (N := 3) hx hb hg in_Co hown hK hC 0 rfl rfl 0 (Nat.le_of_ble_eq_true rfl) (hg _ tw_76) (fun _ h9 => h9) rfl d_EP_size_11 ?_
    refine lv_iconst (v := 4) hx hb d_EP_size_14 (by decide) ?_
    refine lv_icmp_eq (tgt := 22) hx hb d_EP_size_15 (by decide) (fun hc => ?_) (fun hc => False.elim (by revert hc; decide))
    refine lv_iconst (v := 0) hx hb d_EP_size_22 (by decide) ?_
    rw [if_pos hc1] at hR
    subst hR
    refine ep_callX (E := E_ISE) (vx_runS (As := [.int 0]) (rest := []) ⟨hx, hb, hml, hown, hg⟩ (m_EP_checkKind_0 l hlt D cI cJ cZ cO) (ep_cwS 1 hg tw_571 tw_572 tw_1 tk_EP_checkKind rfl rfl (by decide +kernel) ⟨(Nat.le_of_ble_eq_true rfl), (Nat.le_of_ble_eq_true rfl)⟩) ⟨ep_blindX, ep_preX hKn (Zs.kept hZ hS (fun q h => h.elim)) (trivial)⟩ rfl rfl hl.1 rfl (lv_room (Nat.le_of_ble_eq_true rfl)) d_EP_size_23 ⟨(Nat.le_of_ble_eq_true rfl), (Nat.le_of_ble_eq_true rfl)⟩) hS (fun q h => h.elim) (fun ce q9 H1 locs1 hz1 hk1 hS1 hce hcv hcl => ?_)
    exact vx_out (fun x h => (hno x h).elim) hlocks hce hcv hcl (fun t9 ht hv => ⟨by show (2 : Nat) ≠ 0; decide, rfl, hS1.F ht, trivial⟩) hS1.2.2 (Nat.le_of_ble_eq_true rfl) (Nat.le_of_ble_eq_true rfl)
  · rw [if_neg hc1] at hR
    subst hR
    refine ep_callX (E := E_IAE) (vx_runS (As := [.int t]) (rest := []) ⟨hx, hb, hml, hown, hg⟩ (m_EP_checkMoment_x l hlt D cI cJ cZ cO t hc1) (ep_cwS 1 hg tw_340 tw_341 tw_1 tk_EP_checkMoment rfl rfl (by decide +kernel) ⟨(Nat.le_of_ble_eq_true rfl), (Nat.le_of_ble_eq_true rfl)⟩) ⟨ep_blindX, ep_preX hKn (Zs.kept hZ hS (fun q h => h.elim)) (trivial)⟩ rfl rfl hl.1 rfl (lv_room (Nat.le_of_ble_eq_true rfl)) d_EP_size_1 ⟨(Nat.le_of_ble_eq_true rfl), (Nat.le_of_ble_eq_true rfl)⟩) hS (fun q h => h.elim) (fun ce q9 H1 locs1 hz1 hk1 hS1 hce hcv hcl => ?_)
    exact vx_out (fun x h => (hno x h).elim) hlocks hce hcv hcl (fun t9 ht hv => ⟨by show (1 : Nat) ≠ 0; decide, rfl, hS1.F ht, trivial⟩) hS1.2.2 (Nat.le_of_ble_eq_true rfl) (Nat.le_of_ble_eq_true rfl)

def f_EP_size_0 (n : Nat) (mo : Nat → Int32) (na : Nat → Int32) (aa : Nat → Int32) (bb : Nat → Int32) (qv : Nat → Int32) (qr : Int64) (qf : Int32) (t : Int32) : Nat × Nat := if okM t then ((0, (rut (fun nm x _ => bgS 2 nm x) mo na aa bb t n 0 ((0, qv), qr, qf)).1.1)) else ((1, 0))

set_option maxHeartbeats 4000000 in
set_option maxRecDepth 100000 in
theorem m_EP_size_0 (l : Launch) (hlt : l.stackTraces = false) (D : va_G) (cI cJ cZ cO : ClassId) (o : Nat) (j : Nat) (n : Nat) (mo : Nat → Int32) (na : Nat → Int32) (aa : Nat → Int32) (bb : Nat → Int32) (re : Nat → Int64) (ef : Nat → Int32) (qn : Nat) (qv : Nat → Int32) (qr : Int64) (qf : Int32) (t : Int32) (hj : j < 4) (hn : n ≤ 32) (R : Nat × Nat) (hR : f_EP_size_0 n mo na aa bb qv qr qf t = R) : vx_Met l y_EP_size (k_EP_size :: gt) rx_EP_size (PcX D cI cJ cZ cO (fun q => blk (o + 62) 2 q) [.ref o, .int (nI j), .int t] (fun H => va_P D cls (wEP cO o) H ∧ va_P D cls (wCo (o + 2 + 15 * j) 0) H ∧ va_P D cls (wLi cI cJ cZ (o + 2 + 15 * j + 1) n mo na aa bb re ef) H ∧ va_P D cls (wBa cI 2 (o + 62) qn qv qr qf) H)) (Qt R.1 (fun q => blk (o + 62) 2 q) (some (.int (nI R.2))) (fun H => (∃ (qn : Nat) (qv : Nat → Int32) (qr : Int64) (qf : Int32), va_P D cls (wBa cI 2 (o + 62) qn qv qr qf) H))) (Xt R.1 E_NSE (fun q => blk (o + 62) 2 q) (fun H => (∃ (qn : Nat) (qv : Nat → Int32) (qr : Int64) (qf : Int32), va_P D cls (wBa cI 2 (o + 62) qn qv qr qf) H))) 1 6 (fun q => blk (o + 62) 2 q) := by
  refine vx_ofW (cc := c_EP_size) (maxL := 5) (ret := (Option.some FieldType.int)) (by decide) rfl ?_
  intro p e s m args below meth c s₁ B hml hno hv
  obtain ⟨rfl, hKn, hZ, hE, hC, hN, hQ⟩ := hv
  have hx := B.exec
  have hb := B.bytes
  have hr := B.returns
  have hts := atoms_spec (ws := k_EP_size :: gt) B.pre
  have hg : ∀ w ∈ gt, w.before _ s = true := fun w h => hts w (List.mem_cons_of_mem _ h)
  have hown : s.vm.findClass R_EP = some m.cls := findClass_of_methodNamed B.named
  have hlocks := B.notSynchronized
  have hK := hKn.1
  have hl := lv_entry ([.ref o, .int (nI j), .int t]) (n := 5) (Nat.le_of_ble_eq_true rfl)
  rw [lg_entry_eq]
  generalize (lg_sl ([.ref o, .int (nI j), .int t]) ++ List.replicate (5 - (lg_sl ([.ref o, .int (nI j), .int t])).length) Slot.unset).toArray = ls at hl ⊢
  have hl : lv_has ls 5 [(0, .ref o), (1, .int (nI j)), (2, .int t)] := hl
  have hS : va_S (fun q => blk (o + 62) 2 q) s.heap s.heap [] := va_S.rf
  have hR : (if okM t then ((0, (rut (fun nm x _ => bgS 2 nm x) mo na aa bb t n 0 ((0, qv), qr, qf)).1.1)) else ((1, 0))) = R := hR
  refine lv_iload_n hx hb d_EP_size_0 rfl (lv_at hl 2 rfl) ?_
  by_cases hc1 : okM t
  · refine ep_callP (W.runS (As := [.int t]) (rest := []) ⟨hx, hb, hml, hown, hg⟩ (m_EP_checkMoment_ok l D cI cJ cZ cO t hc1) (ep_cwS 1 hg tw_340 tw_341 tw_1 tk_EP_checkMoment rfl rfl (by decide +kernel) ⟨(Nat.le_of_ble_eq_true rfl), (Nat.le_of_ble_eq_true rfl)⟩) ⟨ep_blind, ep_pre hKn (trivial)⟩ rfl rfl hl.1 rfl (lv_room (Nat.le_of_ble_eq_true rfl)) d_EP_size_1 ⟨Nat.zero_le _, Nat.zero_le _⟩) ?_
    refine W.eq (g2 := F0 m 4 ls []) rfl ?_
    refine lv_aload_n hx hb d_EP_size_4 rfl (lv_at hl 0 rfl) ?_
    refine lv_iload_n hx hb d_EP_size_5 rfl (lv_at hl 1 rfl) ?_
    refine ep_callP (W.runV (As := [.int (nI j)]) (rest := []) ⟨hx, hb, hml, hown, hg⟩ (m_EP_openCollection_ok l D cI cJ cZ cO o j 0 (by omega) (by decide)) (ep_cwV 1 hg tw_327 tw_329 ts_2 tw_1 tk_EP_openCollection rfl rfl (by decide +kernel) ⟨(Nat.le_of_ble_eq_true rfl), (Nat.le_of_ble_eq_true rfl)⟩) ⟨ep_blind, va_recv (q0 := 0) (ci := 8) hK hE rfl rfl, ep_pre hKn (⟨hE, hC⟩)⟩ rfl rfl hl.1 rfl (lv_room (Nat.le_of_ble_eq_true rfl)) d_EP_size_6 ⟨Nat.zero_le _, Nat.zero_le _⟩) ?_
    refine W.eq (g2 := F0 m 9 ls [.ref (o + 2 + 15 * j)]) rfl ?_
    refine lv_astore_n (lv' := [(3, .ref (o + 2 + 15 * j)), (0, .ref o), (1, .int (nI j)), (2, .int t)]) hx hb d_EP_size_9 rfl hl (by decide) rfl (fun ls hl => ?_)
    refine lv_aload_n hx hb d_EP_size_10 rfl (lv_at hl 0 rfl) ?_
    refine va_get (D := D) (ci := 0) (v := .int 0) (C := R_Co) (T := F_Co) (N := 3) hx hb hg in_Co hown hK hC 0 rfl rfl 0 (Nat.le_of_ble_eq_true rfl) (hg _ tw_76) (fun _ h9 => h9) rfl d_EP_size_11 ?_
    refine lv_iconst (v := 4) hx hb d_EP_size_14 (by decide) ?_
    refine lv_icmp_eq (tgt := 22) hx hb d_EP_size_15 (by decide) (fun hc => False.elim (by revert hc; decide)) (fun hc => ?_)
    refine lv_iconst (v := 1) hx hb d_EP_size_18 (by decide) ?_
    refine lv_goto (tgt := 23) hx hb d_EP_size_19 (by decide) ?_
    refine ep_callP (W.runS (As := [.int 1]) (rest := []) ⟨hx, hb, hml, hown, hg⟩ (m_EP_checkKind_1 l D cI cJ cZ cO) (ep_cwS 1 hg tw_571 tw_572 tw_1 tk_EP_checkKind rfl rfl (by decide +kernel) ⟨(Nat.le_of_ble_eq_true rfl), (Nat.le_of_ble_eq_true rfl)⟩) ⟨ep_blind, ep_pre hKn (trivial)⟩ rfl rfl hl.1 rfl (lv_room (Nat.le_of_ble_eq_true rfl)) d_EP_size_23 ⟨Nat.zero_le _, Nat.zero_le _⟩) ?_
    refine W.eq (g2 := F0 m 26 ls []) rfl ?_
    refine lv_aload_n hx hb d_EP_size_26 rfl (lv_at hl 1 rfl) ?_
    refine lv_aload_n hx hb d_EP_size_27 rfl (lv_at hl 0 rfl) ?_
    refine va_get (D := D) (ci := 0) (v := .int 0) (C := R_Co) (T := F_Co) (N := 3) hx hb hg in_Co hown hK hC 0 rfl rfl 0 (Nat.le_of_ble_eq_true rfl) (hg _ tw_76) (fun _ h9 => h9) rfl d_EP_size_28 ?_
    refine ep_callP (W.runV (As := [.int 0]) (rest := []) ⟨hx, hb, hml, hown, hg⟩ (m_EP_contentsOf_0 l D cI cJ cZ cO o) (ep_cwV 1 hg tw_358 tw_360 ts_3 tw_1 tk_EP_contentsOf rfl rfl (by decide +kernel) ⟨(Nat.le_of_ble_eq_true rfl), (Nat.le_of_ble_eq_true rfl)⟩) ⟨ep_blind, va_recv (q0 := 0) (ci := 8) hK hE rfl rfl, ep_pre hKn (hE)⟩ rfl rfl hl.1 rfl (lv_room (Nat.le_of_ble_eq_true rfl)) d_EP_size_31 ⟨Nat.zero_le _, Nat.zero_le _⟩) ?_
    refine W.eq (g2 := F0 m 34 ls [.ref (o + 62)]) rfl ?_
    refine lv_astore (lv' := [(4, .ref (o + 62)), (3, .ref (o + 2 + 15 * j)), (0, .ref o), (1, .int (nI j)), (2, .int t)]) hx hb d_EP_size_34 hl (by decide) rfl (fun ls hl => ?_)
    refine lv_aload_n hx hb d_EP_size_36 rfl (lv_at hl 1 rfl) ?_
    refine va_get (D := D) (ci := 0) (v := .ref (o + 2 + 15 * j + 1)) (C := R_Co) (T := F_Co) (N := 3) hx hb hg in_Co hown hK hC 0 rfl rfl 1 (Nat.le_of_ble_eq_true rfl) (hg _ tw_78) (fun _ h9 => h9) rfl d_EP_size_37 ?_
    refine lv_iload_n hx hb d_EP_size_40 rfl (lv_at hl 4 rfl) ?_
    refine lv_aload hx hb d_EP_size_41 (lv_at hl 0 rfl) ?_
    refine ep_callH (W.runV (As := [.int t, .ref (o + 62)]) (rest := []) ⟨hx, hb, hml, hown, hg⟩ (m_Li_runUpTo_Qu l D cI cJ cZ cO (o + 2 + 15 * j + 1) n mo na aa bb re ef (o + 62) qn qv qr qf t (by omega) (by omega) _ rfl) (ep_cwV 2 hg tw_575 tw_576 tw_577 tw_3 tk_Li_runUpTo rfl rfl (by decide +kernel) ⟨(Nat.le_of_ble_eq_true rfl), (Nat.le_of_ble_eq_true rfl)⟩) ⟨ep_blind, va_recv (q0 := 0) (ci := 1) hK hN rfl rfl, ep_pre hKn (hN.app hQ)⟩ rfl rfl hl.1 rfl (lv_room (Nat.le_of_ble_eq_true rfl)) d_EP_size_43 ⟨Nat.zero_le _, Nat.zero_le _⟩) hS ((by intro q h; simp only [blk] at h ⊢; omega)) (fun H locs hsz9 hk1 hP1 hS => ?_)
    refine W.eq (g2 := F0 m 46 ls []) rfl ?_
    have hE := wo_kc hE hk1 (off_in (rng_of wEP_in) (by intro q h1 h2 h3; simp only [blk] at h3; omega))
    have hC := wo_kc hC hk1 (off_in (rng_of wCo_in) (by intro q h1 h2 h3; simp only [blk] at h3; omega))
    have hN : va_P D cls (wLi cI cJ cZ (o + 2 + 15 * j + 1) n mo na aa bb re ef) H := wo_l hP1
    have hQ : va_P D cls (wBa cI 2 (o + 62) ((rut (fun nm x _ => bgS 2 nm x) mo na aa bb t n 0 ((0, qv), qr, qf)).1.1) ((rut (fun nm x _ => bgS 2 nm x) mo na aa bb t n 0 ((0, qv), qr, qf)).1.2) ((rut (fun nm x _ => bgS 2 nm x) mo na aa bb t n 0 ((0, qv), qr, qf)).2.1) ((rut (fun nm x _ => bgS 2 nm x) mo na aa bb t n 0 ((0, qv), qr, qf)).2.2)) H := wo_r hP1
    refine lv_aload hx hb d_EP_size_46 (lv_at hl 0 rfl) ?_
    refine va_get (D := D) (ci := 2) (v := .int (nI ((rut (fun nm x _ => bgS 2 nm x) mo na aa bb t n 0 ((0, qv), qr, qf)).1.1))) (C := R_Qu) (T := F_Qu) (N := 4) hx hb hg in_Qu hown hK hQ 0 rfl rfl 1 (Nat.le_of_ble_eq_true rfl) (hg _ tw_116) (fun _ h9 => h9) rfl d_EP_size_48 ?_
    rw [if_pos hc1] at hR
    subst hR
    refine vx_ret ?_
    refine W.widen (k := 1) (n := 6) (Nat.le_of_ble_eq_true rfl) (Nat.le_of_ble_eq_true rfl) ?_
    exact W.iret (v := (nI ((rut (fun nm x _ => bgS 2 nm x) mo na aa bb t n 0 ((0, qv), qr, qf)).1.1))) hx hb hr (fun t9 ht hW => ⟨rfl, rfl, hS.F ht, ⟨_, _, _, _, by rw [ht]; exact hQ⟩⟩) hS.2.2 d_EP_size_51
  · rw [if_neg hc1] at hR
    subst hR
    refine ep_callX (E := E_IAE) (vx_runS (As := [.int t]) (rest := []) ⟨hx, hb, hml, hown, hg⟩ (m_EP_checkMoment_x l hlt D cI cJ cZ cO t hc1) (ep_cwS 1 hg tw_340 tw_341 tw_1 tk_EP_checkMoment rfl rfl (by decide +kernel) ⟨(Nat.le_of_ble_eq_true rfl), (Nat.le_of_ble_eq_true rfl)⟩) ⟨ep_blindX, ep_preX hKn (Zs.kept hZ hS (fun q h => h.elim)) (trivial)⟩ rfl rfl hl.1 rfl (lv_room (Nat.le_of_ble_eq_true rfl)) d_EP_size_1 ⟨(Nat.le_of_ble_eq_true rfl), (Nat.le_of_ble_eq_true rfl)⟩) hS (fun q h => h.elim) (fun ce q9 H1 locs1 hz1 hk1 hS1 hce hcv hcl => ?_)
    exact vx_out (fun x h => (hno x h).elim) hlocks hce hcv hcl (fun t9 ht hv => ⟨by show (1 : Nat) ≠ 0; decide, rfl, hS1.F ht, ⟨_, _, _, _, by rw [ht]; exact wo_kx hQ (fun q h => hk1 q h (fun z => z))⟩⟩) hS1.2.2 (Nat.le_of_ble_eq_true rfl) (Nat.le_of_ble_eq_true rfl)

def f_EP_size_1 (n : Nat) (mo : Nat → Int32) (na : Nat → Int32) (aa : Nat → Int32) (bb : Nat → Int32) (qv : Nat → Int32) (qr : Int64) (qf : Int32) (t : Int32) : Nat × Nat := if okM t then ((0, (rut (fun nm x _ => bgS 3 nm x) mo na aa bb t n 0 ((0, qv), qr, qf)).1.1)) else ((1, 0))

set_option maxHeartbeats 4000000 in
set_option maxRecDepth 100000 in
theorem m_EP_size_1 (l : Launch) (hlt : l.stackTraces = false) (D : va_G) (cI cJ cZ cO : ClassId) (o : Nat) (j : Nat) (n : Nat) (mo : Nat → Int32) (na : Nat → Int32) (aa : Nat → Int32) (bb : Nat → Int32) (re : Nat → Int64) (ef : Nat → Int32) (qn : Nat) (qv : Nat → Int32) (qr : Int64) (qf : Int32) (t : Int32) (hj : j < 4) (hn : n ≤ 32) (R : Nat × Nat) (hR : f_EP_size_1 n mo na aa bb qv qr qf t = R) : vx_Met l y_EP_size (k_EP_size :: gt) rx_EP_size (PcX D cI cJ cZ cO (fun q => blk (o + 64) 2 q) [.ref o, .int (nI j), .int t] (fun H => va_P D cls (wEP cO o) H ∧ va_P D cls (wCo (o + 2 + 15 * j) 1) H ∧ va_P D cls (wLi cI cJ cZ (o + 2 + 15 * j + 1) n mo na aa bb re ef) H ∧ va_P D cls (wBa cI 3 (o + 64) qn qv qr qf) H)) (Qt R.1 (fun q => blk (o + 64) 2 q) (some (.int (nI R.2))) (fun H => (∃ (qn : Nat) (qv : Nat → Int32) (qr : Int64) (qf : Int32), va_P D cls (wBa cI 3 (o + 64) qn qv qr qf) H))) (Xt R.1 E_NSE (fun q => blk (o + 64) 2 q) (fun H => (∃ (qn : Nat) (qv : Nat → Int32) (qr : Int64) (qf : Int32), va_P D cls (wBa cI 3 (o + 64) qn qv qr qf) H))) 1 6 (fun q => blk (o + 64) 2 q) := by
  refine vx_ofW (cc := c_EP_size) (maxL := 5) (ret := (Option.some FieldType.int)) (by decide) rfl ?_
  intro p e s m args below meth c s₁ B hml hno hv
  obtain ⟨rfl, hKn, hZ, hE, hC, hN, hQ⟩ := hv
  have hx := B.exec
  have hb := B.bytes
  have hr := B.returns
  have hts := atoms_spec (ws := k_EP_size :: gt) B.pre
  have hg : ∀ w ∈ gt, w.before _ s = true := fun w h => hts w (List.mem_cons_of_mem _ h)
  have hown : s.vm.findClass R_EP = some m.cls := findClass_of_methodNamed B.named
  have hlocks := B.notSynchronized
  have hK := hKn.1
  have hl := lv_entry ([.ref o, .int (nI j), .int t]) (n := 5) (Nat.le_of_ble_eq_true rfl)
  rw [lg_entry_eq]
  generalize (lg_sl ([.ref o, .int (nI j), .int t]) ++ List.replicate (5 - (lg_sl ([.ref o, .int (nI j), .int t])).length) Slot.unset).toArray = ls at hl ⊢
  have hl : lv_has ls 5 [(0, .ref o), (1, .int (nI j)), (2, .int t)] := hl
  have hS : va_S (fun q => blk (o + 64) 2 q) s.heap s.heap [] := va_S.rf
  have hR : (if okM t then ((0, (rut (fun nm x _ => bgS 3 nm x) mo na aa bb t n 0 ((0, qv), qr, qf)).1.1)) else ((1, 0))) = R := hR
  refine lv_iload_n hx hb d_EP_size_0 rfl (lv_at hl 2 rfl) ?_
  by_cases hc1 : okM t
  · refine ep_callP (W.runS (As := [.int t]) (rest := []) ⟨hx, hb, hml, hown, hg⟩ (m_EP_checkMoment_ok l D cI cJ cZ cO t hc1) (ep_cwS 1 hg tw_340 tw_341 tw_1 tk_EP_checkMoment rfl rfl (by decide +kernel) ⟨(Nat.le_of_ble_eq_true rfl), (Nat.le_of_ble_eq_true rfl)⟩) ⟨ep_blind, ep_pre hKn (trivial)⟩ rfl rfl hl.1 rfl (lv_room (Nat.le_of_ble_eq_true rfl)) d_EP_size_1 ⟨Nat.zero_le _, Nat.zero_le _⟩) ?_
    refine W.eq (g2 := F0 m 4 ls []) rfl ?_
    refine lv_aload_n hx hb d_EP_size_4 rfl (lv_at hl 0 rfl) ?_
    refine lv_iload_n hx hb d_EP_size_5 rfl (lv_at hl 1 rfl) ?_
    refine ep_callP (W.runV (As := [.int (nI j)]) (rest := []) ⟨hx, hb, hml, hown, hg⟩ (m_EP_openCollection_ok l D cI cJ cZ cO o j 1 (by omega) (by decide)) (ep_cwV 1 hg tw_327 tw_329 ts_2 tw_1 tk_EP_openCollection rfl rfl (by decide +kernel) ⟨(Nat.le_of_ble_eq_true rfl), (Nat.le_of_ble_eq_true rfl)⟩) ⟨ep_blind, va_recv (q0 := 0) (ci := 8) hK hE rfl rfl, ep_pre hKn (⟨hE, hC⟩)⟩ rfl rfl hl.1 rfl (lv_room (Nat.le_of_ble_eq_true rfl)) d_EP_size_6 ⟨Nat.zero_le _, Nat.zero_le _⟩) ?_
    refine W.eq (g2 := F0 m 9 ls [.ref (o + 2 + 15 * j)]) rfl ?_
    refine lv_astore_n (lv' := [(3, .ref (o + 2 + 15 * j)), (0, .ref o), (1, .int (nI j)), (2, .int t)]) hx hb d_EP_size_9 rfl hl (by decide) rfl (fun ls hl => ?_)
    refine lv_aload_n hx hb d_EP_size_10 rfl (lv_at hl 0 rfl) ?_
    refine va_get (D := D) (ci := 0) (v := .int 1) (C := R_Co) (T := F_Co) (N := 3) hx hb hg in_Co hown hK hC 0 rfl rfl 0 (Nat.le_of_ble_eq_true rfl) (hg _ tw_76) (fun _ h9 => h9) rfl d_EP_size_11 ?_
    refine lv_iconst (v := 4) hx hb d_EP_size_14 (by decide) ?_
    refine lv_icmp_eq (tgt := 22) hx hb d_EP_size_15 (by decide) (fun hc => False.elim (by revert hc; decide)) (fun hc => ?_)
    refine lv_iconst (v := 1) hx hb d_EP_size_18 (by decide) ?_
    refine lv_goto (tgt := 23) hx hb d_EP_size_19 (by decide) ?_
    refine ep_callP (W.runS (As := [.int 1]) (rest := []) ⟨hx, hb, hml, hown, hg⟩ (m_EP_checkKind_1 l D cI cJ cZ cO) (ep_cwS 1 hg tw_571 tw_572 tw_1 tk_EP_checkKind rfl rfl (by decide +kernel) ⟨(Nat.le_of_ble_eq_true rfl), (Nat.le_of_ble_eq_true rfl)⟩) ⟨ep_blind, ep_pre hKn (trivial)⟩ rfl rfl hl.1 rfl (lv_room (Nat.le_of_ble_eq_true rfl)) d_EP_size_23 ⟨Nat.zero_le _, Nat.zero_le _⟩) ?_
    refine W.eq (g2 := F0 m 26 ls []) rfl ?_
    refine lv_aload_n hx hb d_EP_size_26 rfl (lv_at hl 1 rfl) ?_
    refine lv_aload_n hx hb d_EP_size_27 rfl (lv_at hl 0 rfl) ?_
    refine va_get (D := D) (ci := 0) (v := .int 1) (C := R_Co) (T := F_Co) (N := 3) hx hb hg in_Co hown hK hC 0 rfl rfl 0 (Nat.le_of_ble_eq_true rfl) (hg _ tw_76) (fun _ h9 => h9) rfl d_EP_size_28 ?_
    refine ep_callP (W.runV (As := [.int 1]) (rest := []) ⟨hx, hb, hml, hown, hg⟩ (m_EP_contentsOf_1 l D cI cJ cZ cO o) (ep_cwV 1 hg tw_358 tw_360 ts_3 tw_1 tk_EP_contentsOf rfl rfl (by decide +kernel) ⟨(Nat.le_of_ble_eq_true rfl), (Nat.le_of_ble_eq_true rfl)⟩) ⟨ep_blind, va_recv (q0 := 0) (ci := 8) hK hE rfl rfl, ep_pre hKn (hE)⟩ rfl rfl hl.1 rfl (lv_room (Nat.le_of_ble_eq_true rfl)) d_EP_size_31 ⟨Nat.zero_le _, Nat.zero_le _⟩) ?_
    refine W.eq (g2 := F0 m 34 ls [.ref (o + 64)]) rfl ?_
    refine lv_astore (lv' := [(4, .ref (o + 64)), (3, .ref (o + 2 + 15 * j)), (0, .ref o), (1, .int (nI j)), (2, .int t)]) hx hb d_EP_size_34 hl (by decide) rfl (fun ls hl => ?_)
    refine lv_aload_n hx hb d_EP_size_36 rfl (lv_at hl 1 rfl) ?_
    refine va_get (D := D) (ci := 0) (v := .ref (o + 2 + 15 * j + 1)) (C := R_Co) (T := F_Co) (N := 3) hx hb hg in_Co hown hK hC 0 rfl rfl 1 (Nat.le_of_ble_eq_true rfl) (hg _ tw_78) (fun _ h9 => h9) rfl d_EP_size_37 ?_
    refine lv_iload_n hx hb d_EP_size_40 rfl (lv_at hl 4 rfl) ?_
    refine lv_aload hx hb d_EP_size_41 (lv_at hl 0 rfl) ?_
    refine ep_callH (W.runV (As := [.int t, .ref (o + 64)]) (rest := []) ⟨hx, hb, hml, hown, hg⟩ (m_Li_runUpTo_St l D cI cJ cZ cO (o + 2 + 15 * j + 1) n mo na aa bb re ef (o + 64) qn qv qr qf t (by omega) (by omega) _ rfl) (ep_cwV 2 hg tw_575 tw_576 tw_577 tw_3 tk_Li_runUpTo rfl rfl (by decide +kernel) ⟨(Nat.le_of_ble_eq_true rfl), (Nat.le_of_ble_eq_true rfl)⟩) ⟨ep_blind, va_recv (q0 := 0) (ci := 1) hK hN rfl rfl, ep_pre hKn (hN.app hQ)⟩ rfl rfl hl.1 rfl (lv_room (Nat.le_of_ble_eq_true rfl)) d_EP_size_43 ⟨Nat.zero_le _, Nat.zero_le _⟩) hS ((by intro q h; simp only [blk] at h ⊢; omega)) (fun H locs hsz9 hk1 hP1 hS => ?_)
    refine W.eq (g2 := F0 m 46 ls []) rfl ?_
    have hE := wo_kc hE hk1 (off_in (rng_of wEP_in) (by intro q h1 h2 h3; simp only [blk] at h3; omega))
    have hC := wo_kc hC hk1 (off_in (rng_of wCo_in) (by intro q h1 h2 h3; simp only [blk] at h3; omega))
    have hN : va_P D cls (wLi cI cJ cZ (o + 2 + 15 * j + 1) n mo na aa bb re ef) H := wo_l hP1
    have hQ : va_P D cls (wBa cI 3 (o + 64) ((rut (fun nm x _ => bgS 3 nm x) mo na aa bb t n 0 ((0, qv), qr, qf)).1.1) ((rut (fun nm x _ => bgS 3 nm x) mo na aa bb t n 0 ((0, qv), qr, qf)).1.2) ((rut (fun nm x _ => bgS 3 nm x) mo na aa bb t n 0 ((0, qv), qr, qf)).2.1) ((rut (fun nm x _ => bgS 3 nm x) mo na aa bb t n 0 ((0, qv), qr, qf)).2.2)) H := wo_r hP1
    refine lv_aload hx hb d_EP_size_46 (lv_at hl 0 rfl) ?_
    refine va_get (D := D) (ci := 3) (v := .int (nI ((rut (fun nm x _ => bgS 3 nm x) mo na aa bb t n 0 ((0, qv), qr, qf)).1.1))) (C := R_St) (T := F_St) (N := 4) hx hb hg in_St hown hK hQ 0 rfl rfl 1 (Nat.le_of_ble_eq_true rfl) (hg _ tw_116) (fun _ h9 => h9) rfl d_EP_size_48 ?_
    rw [if_pos hc1] at hR
    subst hR
    refine vx_ret ?_
    refine W.widen (k := 1) (n := 6) (Nat.le_of_ble_eq_true rfl) (Nat.le_of_ble_eq_true rfl) ?_
    exact W.iret (v := (nI ((rut (fun nm x _ => bgS 3 nm x) mo na aa bb t n 0 ((0, qv), qr, qf)).1.1))) hx hb hr (fun t9 ht hW => ⟨rfl, rfl, hS.F ht, ⟨_, _, _, _, by rw [ht]; exact hQ⟩⟩) hS.2.2 d_EP_size_51
  · rw [if_neg hc1] at hR
    subst hR
    refine ep_callX (E := E_IAE) (vx_runS (As := [.int t]) (rest := []) ⟨hx, hb, hml, hown, hg⟩ (m_EP_checkMoment_x l hlt D cI cJ cZ cO t hc1) (ep_cwS 1 hg tw_340 tw_341 tw_1 tk_EP_checkMoment rfl rfl (by decide +kernel) ⟨(Nat.le_of_ble_eq_true rfl), (Nat.le_of_ble_eq_true rfl)⟩) ⟨ep_blindX, ep_preX hKn (Zs.kept hZ hS (fun q h => h.elim)) (trivial)⟩ rfl rfl hl.1 rfl (lv_room (Nat.le_of_ble_eq_true rfl)) d_EP_size_1 ⟨(Nat.le_of_ble_eq_true rfl), (Nat.le_of_ble_eq_true rfl)⟩) hS (fun q h => h.elim) (fun ce q9 H1 locs1 hz1 hk1 hS1 hce hcv hcl => ?_)
    exact vx_out (fun x h => (hno x h).elim) hlocks hce hcv hcl (fun t9 ht hv => ⟨by show (1 : Nat) ≠ 0; decide, rfl, hS1.F ht, ⟨_, _, _, _, by rw [ht]; exact wo_kx hQ (fun q h => hk1 q h (fun z => z))⟩⟩) hS1.2.2 (Nat.le_of_ble_eq_true rfl) (Nat.le_of_ble_eq_true rfl)

def f_EP_size_2 (n : Nat) (mo : Nat → Int32) (na : Nat → Int32) (aa : Nat → Int32) (bb : Nat → Int32) (qv : Nat → Int32) (qk : Nat → Int32) (qr : Int64) (qf : Int32) (t : Int32) : Nat × Nat := if okM t then ((0, (rut taS mo na aa bb t n 0 ((0, qk, qv), qr, qf)).1.1)) else ((1, 0))

set_option maxHeartbeats 4000000 in
set_option maxRecDepth 100000 in
theorem m_EP_size_2 (l : Launch) (hlt : l.stackTraces = false) (D : va_G) (cI cJ cZ cO : ClassId) (o : Nat) (j : Nat) (n : Nat) (mo : Nat → Int32) (na : Nat → Int32) (aa : Nat → Int32) (bb : Nat → Int32) (re : Nat → Int64) (ef : Nat → Int32) (qn : Nat) (qv : Nat → Int32) (qk : Nat → Int32) (qr : Int64) (qf : Int32) (t : Int32) (hj : j < 4) (hn : n ≤ 32) (R : Nat × Nat) (hR : f_EP_size_2 n mo na aa bb qv qk qr qf t = R) : vx_Met l y_EP_size (k_EP_size :: gt) rx_EP_size (PcX D cI cJ cZ cO (fun q => blk (o + 66) 3 q) [.ref o, .int (nI j), .int t] (fun H => va_P D cls (wEP cO o) H ∧ va_P D cls (wCo (o + 2 + 15 * j) 2) H ∧ va_P D cls (wLi cI cJ cZ (o + 2 + 15 * j + 1) n mo na aa bb re ef) H ∧ va_P D cls (wTa cI (o + 66) qn qk qv qr qf) H)) (Qt R.1 (fun q => blk (o + 66) 3 q) (some (.int (nI R.2))) (fun H => (∃ (qn : Nat) (qk : Nat → Int32) (qv : Nat → Int32) (qr : Int64) (qf : Int32), va_P D cls (wTa cI (o + 66) qn qk qv qr qf) H))) (Xt R.1 E_NSE (fun q => blk (o + 66) 3 q) (fun H => (∃ (qn : Nat) (qk : Nat → Int32) (qv : Nat → Int32) (qr : Int64) (qf : Int32), va_P D cls (wTa cI (o + 66) qn qk qv qr qf) H))) 1 6 (fun q => blk (o + 66) 3 q) := by
  refine vx_ofW (cc := c_EP_size) (maxL := 5) (ret := (Option.some FieldType.int)) (by decide) rfl ?_
  intro p e s m args below meth c s₁ B hml hno hv
  obtain ⟨rfl, hKn, hZ, hE, hC, hN, hQ⟩ := hv
  have hx := B.exec
  have hb := B.bytes
  have hr := B.returns
  have hts := atoms_spec (ws := k_EP_size :: gt) B.pre
  have hg : ∀ w ∈ gt, w.before _ s = true := fun w h => hts w (List.mem_cons_of_mem _ h)
  have hown : s.vm.findClass R_EP = some m.cls := findClass_of_methodNamed B.named
  have hlocks := B.notSynchronized
  have hK := hKn.1
  have hl := lv_entry ([.ref o, .int (nI j), .int t]) (n := 5) (Nat.le_of_ble_eq_true rfl)
  rw [lg_entry_eq]
  generalize (lg_sl ([.ref o, .int (nI j), .int t]) ++ List.replicate (5 - (lg_sl ([.ref o, .int (nI j), .int t])).length) Slot.unset).toArray = ls at hl ⊢
  have hl : lv_has ls 5 [(0, .ref o), (1, .int (nI j)), (2, .int t)] := hl
  have hS : va_S (fun q => blk (o + 66) 3 q) s.heap s.heap [] := va_S.rf
  have hR : (if okM t then ((0, (rut taS mo na aa bb t n 0 ((0, qk, qv), qr, qf)).1.1)) else ((1, 0))) = R := hR
  refine lv_iload_n hx hb d_EP_size_0 rfl (lv_at hl 2 rfl) ?_
  by_cases hc1 : okM t
  · refine ep_callP (W.runS (As := [.int t]) (rest := []) ⟨hx, hb, hml, hown, hg⟩ (m_EP_checkMoment_ok l D cI cJ cZ cO t hc1) (ep_cwS 1 hg tw_340 tw_341 tw_1 tk_EP_checkMoment rfl rfl (by decide +kernel) ⟨(Nat.le_of_ble_eq_true rfl), (Nat.le_of_ble_eq_true rfl)⟩) ⟨ep_blind, ep_pre hKn (trivial)⟩ rfl rfl hl.1 rfl (lv_room (Nat.le_of_ble_eq_true rfl)) d_EP_size_1 ⟨Nat.zero_le _, Nat.zero_le _⟩) ?_
    refine W.eq (g2 := F0 m 4 ls []) rfl ?_
    refine lv_aload_n hx hb d_EP_size_4 rfl (lv_at hl 0 rfl) ?_
    refine lv_iload_n hx hb d_EP_size_5 rfl (lv_at hl 1 rfl) ?_
    refine ep_callP (W.runV (As := [.int (nI j)]) (rest := []) ⟨hx, hb, hml, hown, hg⟩ (m_EP_openCollection_ok l D cI cJ cZ cO o j 2 (by omega) (by decide)) (ep_cwV 1 hg tw_327 tw_329 ts_2 tw_1 tk_EP_openCollection rfl rfl (by decide +kernel) ⟨(Nat.le_of_ble_eq_true rfl), (Nat.le_of_ble_eq_true rfl)⟩) ⟨ep_blind, va_recv (q0 := 0) (ci := 8) hK hE rfl rfl, ep_pre hKn (⟨hE, hC⟩)⟩ rfl rfl hl.1 rfl (lv_room (Nat.le_of_ble_eq_true rfl)) d_EP_size_6 ⟨Nat.zero_le _, Nat.zero_le _⟩) ?_
    refine W.eq (g2 := F0 m 9 ls [.ref (o + 2 + 15 * j)]) rfl ?_
    refine lv_astore_n (lv' := [(3, .ref (o + 2 + 15 * j)), (0, .ref o), (1, .int (nI j)), (2, .int t)]) hx hb d_EP_size_9 rfl hl (by decide) rfl (fun ls hl => ?_)
    refine lv_aload_n hx hb d_EP_size_10 rfl (lv_at hl 0 rfl) ?_
    refine va_get (D := D) (ci := 0) (v := .int 2) (C := R_Co) (T := F_Co) (N := 3) hx hb hg in_Co hown hK hC 0 rfl rfl 0 (Nat.le_of_ble_eq_true rfl) (hg _ tw_76) (fun _ h9 => h9) rfl d_EP_size_11 ?_
    refine lv_iconst (v := 4) hx hb d_EP_size_14 (by decide) ?_
    refine lv_icmp_eq (tgt := 22) hx hb d_EP_size_15 (by decide) (fun hc => False.elim (by revert hc; decide)) (fun hc => ?_)
    refine lv_iconst (v := 1) hx hb d_EP_size_18 (by decide) ?_
    refine lv_goto (tgt := 23) hx hb d_EP_size_19 (by decide) ?_
    refine ep_callP (W.runS (As := [.int 1]) (rest := []) ⟨hx, hb, hml, hown, hg⟩ (m_EP_checkKind_1 l D cI cJ cZ cO) (ep_cwS 1 hg tw_571 tw_572 tw_1 tk_EP_checkKind rfl rfl (by decide +kernel) ⟨(Nat.le_of_ble_eq_true rfl), (Nat.le_of_ble_eq_true rfl)⟩) ⟨ep_blind, ep_pre hKn (trivial)⟩ rfl rfl hl.1 rfl (lv_room (Nat.le_of_ble_eq_true rfl)) d_EP_size_23 ⟨Nat.zero_le _, Nat.zero_le _⟩) ?_
    refine W.eq (g2 := F0 m 26 ls []) rfl ?_
    refine lv_aload_n hx hb d_EP_size_26 rfl (lv_at hl 1 rfl) ?_
    refine lv_aload_n hx hb d_EP_size_27 rfl (lv_at hl 0 rfl) ?_
    refine va_get (D := D) (ci := 0) (v := .int 2) (C := R_Co) (T := F_Co) (N := 3) hx hb hg in_Co hown hK hC 0 rfl rfl 0 (Nat.le_of_ble_eq_true rfl) (hg _ tw_76) (fun _ h9 => h9) rfl d_EP_size_28 ?_
    refine ep_callP (W.runV (As := [.int 2]) (rest := []) ⟨hx, hb, hml, hown, hg⟩ (m_EP_contentsOf_2 l D cI cJ cZ cO o) (ep_cwV 1 hg tw_358 tw_360 ts_3 tw_1 tk_EP_contentsOf rfl rfl (by decide +kernel) ⟨(Nat.le_of_ble_eq_true rfl), (Nat.le_of_ble_eq_true rfl)⟩) ⟨ep_blind, va_recv (q0 := 0) (ci := 8) hK hE rfl rfl, ep_pre hKn (hE)⟩ rfl rfl hl.1 rfl (lv_room (Nat.le_of_ble_eq_true rfl)) d_EP_size_31 ⟨Nat.zero_le _, Nat.zero_le _⟩) ?_
    refine W.eq (g2 := F0 m 34 ls [.ref (o + 66)]) rfl ?_
    refine lv_astore (lv' := [(4, .ref (o + 66)), (3, .ref (o + 2 + 15 * j)), (0, .ref o), (1, .int (nI j)), (2, .int t)]) hx hb d_EP_size_34 hl (by decide) rfl (fun ls hl => ?_)
    refine lv_aload_n hx hb d_EP_size_36 rfl (lv_at hl 1 rfl) ?_
    refine va_get (D := D) (ci := 0) (v := .ref (o + 2 + 15 * j + 1)) (C := R_Co) (T := F_Co) (N := 3) hx hb hg in_Co hown hK hC 0 rfl rfl 1 (Nat.le_of_ble_eq_true rfl) (hg _ tw_78) (fun _ h9 => h9) rfl d_EP_size_37 ?_
    refine lv_iload_n hx hb d_EP_size_40 rfl (lv_at hl 4 rfl) ?_
    refine lv_aload hx hb d_EP_size_41 (lv_at hl 0 rfl) ?_
    refine ep_callH (W.runV (As := [.int t, .ref (o + 66)]) (rest := []) ⟨hx, hb, hml, hown, hg⟩ (m_Li_runUpTo_Ta l D cI cJ cZ cO (o + 2 + 15 * j + 1) n mo na aa bb re ef (o + 66) qn qk qv qr qf t (by omega) (by omega) _ rfl) (ep_cwV 2 hg tw_575 tw_576 tw_577 tw_3 tk_Li_runUpTo rfl rfl (by decide +kernel) ⟨(Nat.le_of_ble_eq_true rfl), (Nat.le_of_ble_eq_true rfl)⟩) ⟨ep_blind, va_recv (q0 := 0) (ci := 1) hK hN rfl rfl, ep_pre hKn (hN.app hQ)⟩ rfl rfl hl.1 rfl (lv_room (Nat.le_of_ble_eq_true rfl)) d_EP_size_43 ⟨Nat.zero_le _, Nat.zero_le _⟩) hS ((by intro q h; simp only [blk] at h ⊢; omega)) (fun H locs hsz9 hk1 hP1 hS => ?_)
    refine W.eq (g2 := F0 m 46 ls []) rfl ?_
    have hE := wo_kc hE hk1 (off_in (rng_of wEP_in) (by intro q h1 h2 h3; simp only [blk] at h3; omega))
    have hC := wo_kc hC hk1 (off_in (rng_of wCo_in) (by intro q h1 h2 h3; simp only [blk] at h3; omega))
    have hN : va_P D cls (wLi cI cJ cZ (o + 2 + 15 * j + 1) n mo na aa bb re ef) H := wo_l hP1
    have hQ : va_P D cls (wTa cI (o + 66) ((rut taS mo na aa bb t n 0 ((0, qk, qv), qr, qf)).1.1) ((rut taS mo na aa bb t n 0 ((0, qk, qv), qr, qf)).1.2.1) ((rut taS mo na aa bb t n 0 ((0, qk, qv), qr, qf)).1.2.2) ((rut taS mo na aa bb t n 0 ((0, qk, qv), qr, qf)).2.1) ((rut taS mo na aa bb t n 0 ((0, qk, qv), qr, qf)).2.2)) H := wo_r hP1
    refine lv_aload hx hb d_EP_size_46 (lv_at hl 0 rfl) ?_
    refine va_get (D := D) (ci := 5) (v := .int (nI ((rut taS mo na aa bb t n 0 ((0, qk, qv), qr, qf)).1.1))) (C := R_Ta) (T := F_Ta) (N := 5) hx hb hg in_Ta hown hK hQ 0 rfl rfl 2 (Nat.le_of_ble_eq_true rfl) (hg _ tw_116) (fun _ h9 => h9) rfl d_EP_size_48 ?_
    rw [if_pos hc1] at hR
    subst hR
    refine vx_ret ?_
    refine W.widen (k := 1) (n := 6) (Nat.le_of_ble_eq_true rfl) (Nat.le_of_ble_eq_true rfl) ?_
    exact W.iret (v := (nI ((rut taS mo na aa bb t n 0 ((0, qk, qv), qr, qf)).1.1))) hx hb hr (fun t9 ht hW => ⟨rfl, rfl, hS.F ht, ⟨_, _, _, _, _, by rw [ht]; exact hQ⟩⟩) hS.2.2 d_EP_size_51
  · rw [if_neg hc1] at hR
    subst hR
    refine ep_callX (E := E_IAE) (vx_runS (As := [.int t]) (rest := []) ⟨hx, hb, hml, hown, hg⟩ (m_EP_checkMoment_x l hlt D cI cJ cZ cO t hc1) (ep_cwS 1 hg tw_340 tw_341 tw_1 tk_EP_checkMoment rfl rfl (by decide +kernel) ⟨(Nat.le_of_ble_eq_true rfl), (Nat.le_of_ble_eq_true rfl)⟩) ⟨ep_blindX, ep_preX hKn (Zs.kept hZ hS (fun q h => h.elim)) (trivial)⟩ rfl rfl hl.1 rfl (lv_room (Nat.le_of_ble_eq_true rfl)) d_EP_size_1 ⟨(Nat.le_of_ble_eq_true rfl), (Nat.le_of_ble_eq_true rfl)⟩) hS (fun q h => h.elim) (fun ce q9 H1 locs1 hz1 hk1 hS1 hce hcv hcl => ?_)
    exact vx_out (fun x h => (hno x h).elim) hlocks hce hcv hcl (fun t9 ht hv => ⟨by show (1 : Nat) ≠ 0; decide, rfl, hS1.F ht, ⟨_, _, _, _, _, by rw [ht]; exact wo_kx hQ (fun q h => hk1 q h (fun z => z))⟩⟩) hS1.2.2 (Nat.le_of_ble_eq_true rfl) (Nat.le_of_ble_eq_true rfl)

def f_EP_size_3 (n : Nat) (mo : Nat → Int32) (na : Nat → Int32) (aa : Nat → Int32) (bb : Nat → Int32) (qv : Nat → Int32) (qr : Int64) (qf : Int32) (t : Int32) : Nat × Nat := if okM t then ((0, (rut (fun nm x _ => bgS 4 nm x) mo na aa bb t n 0 ((0, qv), qr, qf)).1.1)) else ((1, 0))

set_option maxHeartbeats 4000000 in
set_option maxRecDepth 100000 in
theorem m_EP_size_3 (l : Launch) (hlt : l.stackTraces = false) (D : va_G) (cI cJ cZ cO : ClassId) (o : Nat) (j : Nat) (n : Nat) (mo : Nat → Int32) (na : Nat → Int32) (aa : Nat → Int32) (bb : Nat → Int32) (re : Nat → Int64) (ef : Nat → Int32) (qn : Nat) (qv : Nat → Int32) (qr : Int64) (qf : Int32) (t : Int32) (hj : j < 4) (hn : n ≤ 32) (R : Nat × Nat) (hR : f_EP_size_3 n mo na aa bb qv qr qf t = R) : vx_Met l y_EP_size (k_EP_size :: gt) rx_EP_size (PcX D cI cJ cZ cO (fun q => blk (o + 69) 2 q) [.ref o, .int (nI j), .int t] (fun H => va_P D cls (wEP cO o) H ∧ va_P D cls (wCo (o + 2 + 15 * j) 3) H ∧ va_P D cls (wLi cI cJ cZ (o + 2 + 15 * j + 1) n mo na aa bb re ef) H ∧ va_P D cls (wBa cI 4 (o + 69) qn qv qr qf) H)) (Qt R.1 (fun q => blk (o + 69) 2 q) (some (.int (nI R.2))) (fun H => (∃ (qn : Nat) (qv : Nat → Int32) (qr : Int64) (qf : Int32), va_P D cls (wBa cI 4 (o + 69) qn qv qr qf) H))) (Xt R.1 E_NSE (fun q => blk (o + 69) 2 q) (fun H => (∃ (qn : Nat) (qv : Nat → Int32) (qr : Int64) (qf : Int32), va_P D cls (wBa cI 4 (o + 69) qn qv qr qf) H))) 1 6 (fun q => blk (o + 69) 2 q) := by
  refine vx_ofW (cc := c_EP_size) (maxL := 5) (ret := (Option.some FieldType.int)) (by decide) rfl ?_
  intro p e s m args below meth c s₁ B hml hno hv
  obtain ⟨rfl, hKn, hZ, hE, hC, hN, hQ⟩ := hv
  have hx := B.exec
  have hb := B.bytes
  have hr := B.returns
  have hts := atoms_spec (ws := k_EP_size :: gt) B.pre
  have hg : ∀ w ∈ gt, w.before _ s = true := fun w h => hts w (List.mem_cons_of_mem _ h)
  have hown : s.vm.findClass R_EP = some m.cls := findClass_of_methodNamed B.named
  have hlocks := B.notSynchronized
  have hK := hKn.1
  have hl := lv_entry ([.ref o, .int (nI j), .int t]) (n := 5) (Nat.le_of_ble_eq_true rfl)
  rw [lg_entry_eq]
  generalize (lg_sl ([.ref o, .int (nI j), .int t]) ++ List.replicate (5 - (lg_sl ([.ref o, .int (nI j), .int t])).length) Slot.unset).toArray = ls at hl ⊢
  have hl : lv_has ls 5 [(0, .ref o), (1, .int (nI j)), (2, .int t)] := hl
  have hS : va_S (fun q => blk (o + 69) 2 q) s.heap s.heap [] := va_S.rf
  have hR : (if okM t then ((0, (rut (fun nm x _ => bgS 4 nm x) mo na aa bb t n 0 ((0, qv), qr, qf)).1.1)) else ((1, 0))) = R := hR
  refine lv_iload_n hx hb d_EP_size_0 rfl (lv_at hl 2 rfl) ?_
  by_cases hc1 : okM t
  · refine ep_callP (W.runS (As := [.int t]) (rest := []) ⟨hx, hb, hml, hown, hg⟩ (m_EP_checkMoment_ok l D cI cJ cZ cO t hc1) (ep_cwS 1 hg tw_340 tw_341 tw_1 tk_EP_checkMoment rfl rfl (by decide +kernel) ⟨(Nat.le_of_ble_eq_true rfl), (Nat.le_of_ble_eq_true rfl)⟩) ⟨ep_blind, ep_pre hKn (trivial)⟩ rfl rfl hl.1 rfl (lv_room (Nat.le_of_ble_eq_true rfl)) d_EP_size_1 ⟨Nat.zero_le _, Nat.zero_le _⟩) ?_
    refine W.eq (g2 := F0 m 4 ls []) rfl ?_
    refine lv_aload_n hx hb d_EP_size_4 rfl (lv_at hl 0 rfl) ?_
    refine lv_iload_n hx hb d_EP_size_5 rfl (lv_at hl 1 rfl) ?_
    refine ep_callP (W.runV (As := [.int (nI j)]) (rest := []) ⟨hx, hb, hml, hown, hg⟩ (m_EP_openCollection_ok l D cI cJ cZ cO o j 3 (by omega) (by decide)) (ep_cwV 1 hg tw_327 tw_329 ts_2 tw_1 tk_EP_openCollection rfl rfl (by decide +kernel) ⟨(Nat.le_of_ble_eq_true rfl), (Nat.le_of_ble_eq_true rfl)⟩) ⟨ep_blind, va_recv (q0 := 0) (ci := 8) hK hE rfl rfl, ep_pre hKn (⟨hE, hC⟩)⟩ rfl rfl hl.1 rfl (lv_room (Nat.le_of_ble_eq_true rfl)) d_EP_size_6 ⟨Nat.zero_le _, Nat.zero_le _⟩) ?_
    refine W.eq (g2 := F0 m 9 ls [.ref (o + 2 + 15 * j)]) rfl ?_
    refine lv_astore_n (lv' := [(3, .ref (o + 2 + 15 * j)), (0, .ref o), (1, .int (nI j)), (2, .int t)]) hx hb d_EP_size_9 rfl hl (by decide) rfl (fun ls hl => ?_)
    refine lv_aload_n hx hb d_EP_size_10 rfl (lv_at hl 0 rfl) ?_
    refine va_get (D := D) (ci := 0) (v := .int 3) (C := R_Co) (T := F_Co) (N := 3) hx hb hg in_Co hown hK hC 0 rfl rfl 0 (Nat.le_of_ble_eq_true rfl) (hg _ tw_76) (fun _ h9 => h9) rfl d_EP_size_11 ?_
    refine lv_iconst (v := 4) hx hb d_EP_size_14 (by decide) ?_
    refine lv_icmp_eq (tgt := 22) hx hb d_EP_size_15 (by decide) (fun hc => False.elim (by revert hc; decide)) (fun hc => ?_)
    refine lv_iconst (v := 1) hx hb d_EP_size_18 (by decide) ?_
    refine lv_goto (tgt := 23) hx hb d_EP_size_19 (by decide) ?_
    refine ep_callP (W.runS (As := [.int 1]) (rest := []) ⟨hx, hb, hml, hown, hg⟩ (m_EP_checkKind_1 l D cI cJ cZ cO) (ep_cwS 1 hg tw_571 tw_572 tw_1 tk_EP_checkKind rfl rfl (by decide +kernel) ⟨(Nat.le_of_ble_eq_true rfl), (Nat.le_of_ble_eq_true rfl)⟩) ⟨ep_blind, ep_pre hKn (trivial)⟩ rfl rfl hl.1 rfl (lv_room (Nat.le_of_ble_eq_true rfl)) d_EP_size_23 ⟨Nat.zero_le _, Nat.zero_le _⟩) ?_
    refine W.eq (g2 := F0 m 26 ls []) rfl ?_
    refine lv_aload_n hx hb d_EP_size_26 rfl (lv_at hl 1 rfl) ?_
    refine lv_aload_n hx hb d_EP_size_27 rfl (lv_at hl 0 rfl) ?_
    refine va_get (D := D) (ci := 0) (v := .int 3) (C := R_Co) (T := F_Co) (N := 3) hx hb hg in_Co hown hK hC 0 rfl rfl 0 (Nat.le_of_ble_eq_true rfl) (hg _ tw_76) (fun _ h9 => h9) rfl d_EP_size_28 ?_
    refine ep_callP (W.runV (As := [.int 3]) (rest := []) ⟨hx, hb, hml, hown, hg⟩ (m_EP_contentsOf_3 l D cI cJ cZ cO o) (ep_cwV 1 hg tw_358 tw_360 ts_3 tw_1 tk_EP_contentsOf rfl rfl (by decide +kernel) ⟨(Nat.le_of_ble_eq_true rfl), (Nat.le_of_ble_eq_true rfl)⟩) ⟨ep_blind, va_recv (q0 := 0) (ci := 8) hK hE rfl rfl, ep_pre hKn (hE)⟩ rfl rfl hl.1 rfl (lv_room (Nat.le_of_ble_eq_true rfl)) d_EP_size_31 ⟨Nat.zero_le _, Nat.zero_le _⟩) ?_
    refine W.eq (g2 := F0 m 34 ls [.ref (o + 69)]) rfl ?_
    refine lv_astore (lv' := [(4, .ref (o + 69)), (3, .ref (o + 2 + 15 * j)), (0, .ref o), (1, .int (nI j)), (2, .int t)]) hx hb d_EP_size_34 hl (by decide) rfl (fun ls hl => ?_)
    refine lv_aload_n hx hb d_EP_size_36 rfl (lv_at hl 1 rfl) ?_
    refine va_get (D := D) (ci := 0) (v := .ref (o + 2 + 15 * j + 1)) (C := R_Co) (T := F_Co) (N := 3) hx hb hg in_Co hown hK hC 0 rfl rfl 1 (Nat.le_of_ble_eq_true rfl) (hg _ tw_78) (fun _ h9 => h9) rfl d_EP_size_37 ?_
    refine lv_iload_n hx hb d_EP_size_40 rfl (lv_at hl 4 rfl) ?_
    refine lv_aload hx hb d_EP_size_41 (lv_at hl 0 rfl) ?_
    refine ep_callH (W.runV (As := [.int t, .ref (o + 69)]) (rest := []) ⟨hx, hb, hml, hown, hg⟩ (m_Li_runUpTo_He l D cI cJ cZ cO (o + 2 + 15 * j + 1) n mo na aa bb re ef (o + 69) qn qv qr qf t (by omega) (by omega) _ rfl) (ep_cwV 2 hg tw_575 tw_576 tw_577 tw_3 tk_Li_runUpTo rfl rfl (by decide +kernel) ⟨(Nat.le_of_ble_eq_true rfl), (Nat.le_of_ble_eq_true rfl)⟩) ⟨ep_blind, va_recv (q0 := 0) (ci := 1) hK hN rfl rfl, ep_pre hKn (hN.app hQ)⟩ rfl rfl hl.1 rfl (lv_room (Nat.le_of_ble_eq_true rfl)) d_EP_size_43 ⟨Nat.zero_le _, Nat.zero_le _⟩) hS ((by intro q h; simp only [blk] at h ⊢; omega)) (fun H locs hsz9 hk1 hP1 hS => ?_)
    refine W.eq (g2 := F0 m 46 ls []) rfl ?_
    have hE := wo_kc hE hk1 (off_in (rng_of wEP_in) (by intro q h1 h2 h3; simp only [blk] at h3; omega))
    have hC := wo_kc hC hk1 (off_in (rng_of wCo_in) (by intro q h1 h2 h3; simp only [blk] at h3; omega))
    have hN : va_P D cls (wLi cI cJ cZ (o + 2 + 15 * j + 1) n mo na aa bb re ef) H := wo_l hP1
    have hQ : va_P D cls (wBa cI 4 (o + 69) ((rut (fun nm x _ => bgS 4 nm x) mo na aa bb t n 0 ((0, qv), qr, qf)).1.1) ((rut (fun nm x _ => bgS 4 nm x) mo na aa bb t n 0 ((0, qv), qr, qf)).1.2) ((rut (fun nm x _ => bgS 4 nm x) mo na aa bb t n 0 ((0, qv), qr, qf)).2.1) ((rut (fun nm x _ => bgS 4 nm x) mo na aa bb t n 0 ((0, qv), qr, qf)).2.2)) H := wo_r hP1
    refine lv_aload hx hb d_EP_size_46 (lv_at hl 0 rfl) ?_
    refine va_get (D := D) (ci := 4) (v := .int (nI ((rut (fun nm x _ => bgS 4 nm x) mo na aa bb t n 0 ((0, qv), qr, qf)).1.1))) (C := R_He) (T := F_He) (N := 4) hx hb hg in_He hown hK hQ 0 rfl rfl 1 (Nat.le_of_ble_eq_true rfl) (hg _ tw_116) (fun _ h9 => h9) rfl d_EP_size_48 ?_
    rw [if_pos hc1] at hR
    subst hR
    refine vx_ret ?_
    refine W.widen (k := 1) (n := 6) (Nat.le_of_ble_eq_true rfl) (Nat.le_of_ble_eq_true rfl) ?_
    exact W.iret (v := (nI ((rut (fun nm x _ => bgS 4 nm x) mo na aa bb t n 0 ((0, qv), qr, qf)).1.1))) hx hb hr (fun t9 ht hW => ⟨rfl, rfl, hS.F ht, ⟨_, _, _, _, by rw [ht]; exact hQ⟩⟩) hS.2.2 d_EP_size_51
  · rw [if_neg hc1] at hR
    subst hR
    refine ep_callX (E := E_IAE) (vx_runS (As := [.int t]) (rest := []) ⟨hx, hb, hml, hown, hg⟩ (m_EP_checkMoment_x l hlt D cI cJ cZ cO t hc1) (ep_cwS 1 hg tw_340 tw_341 tw_1 tk_EP_checkMoment rfl rfl (by decide +kernel) ⟨(Nat.le_of_ble_eq_true rfl), (Nat.le_of_ble_eq_true rfl)⟩) ⟨ep_blindX, ep_preX hKn (Zs.kept hZ hS (fun q h => h.elim)) (trivial)⟩ rfl rfl hl.1 rfl (lv_room (Nat.le_of_ble_eq_true rfl)) d_EP_size_1 ⟨(Nat.le_of_ble_eq_true rfl), (Nat.le_of_ble_eq_true rfl)⟩) hS (fun q h => h.elim) (fun ce q9 H1 locs1 hz1 hk1 hS1 hce hcv hcl => ?_)
    exact vx_out (fun x h => (hno x h).elim) hlocks hce hcv hcl (fun t9 ht hv => ⟨by show (1 : Nat) ≠ 0; decide, rfl, hS1.F ht, ⟨_, _, _, _, by rw [ht]; exact wo_kx hQ (fun q h => hk1 q h (fun z => z))⟩⟩) hS1.2.2 (Nat.le_of_ble_eq_true rfl) (Nat.le_of_ble_eq_true rfl)

def f_EP_size_5 (n : Nat) (mo : Nat → Int32) (na : Nat → Int32) (aa : Nat → Int32) (bb : Nat → Int32) (ql : Nat → Int32) (qr : Int64) (qf : Int32) (t : Int32) : Nat × Int32 := if okM t then ((0, (rut (fun _ x y => seS x y) mo na aa bb t n 0 ((16, sal 16 0 ql), qr, qf)).1.1)) else ((1, 0))

set_option maxHeartbeats 4000000 in
set_option maxRecDepth 100000 in
theorem m_EP_size_5 (l : Launch) (hlt : l.stackTraces = false) (D : va_G) (cI cJ cZ cO : ClassId) (o : Nat) (j : Nat) (n : Nat) (mo : Nat → Int32) (na : Nat → Int32) (aa : Nat → Int32) (bb : Nat → Int32) (re : Nat → Int64) (ef : Nat → Int32) (ql : Nat → Int32) (qr : Int64) (qf : Int32) (qc : Int32) (t : Int32) (hj : j < 4) (hn : n ≤ 32) (hop : ∀ i, i < n → ∃ x y : Nat, x < 16 ∧ y < 16 ∧ aa i = nI x ∧ bb i = nI y) (R : Nat × Int32) (hR : f_EP_size_5 n mo na aa bb ql qr qf t = R) : vx_Met l y_EP_size (k_EP_size :: gt) rx_EP_size (PcX D cI cJ cZ cO (fun q => blk (o + 72) 2 q) [.ref o, .int (nI j), .int t] (fun H => va_P D cls (wEP cO o) H ∧ va_P D cls (wCo (o + 2 + 15 * j) 5) H ∧ va_P D cls (wLi cI cJ cZ (o + 2 + 15 * j + 1) n mo na aa bb re ef) H ∧ va_P D cls (wSe cI (o + 72) qc ql qr qf) H)) (Qt R.1 (fun q => blk (o + 72) 2 q) (some (.int R.2)) (fun H => (∃ (qc : Int32) (ql : Nat → Int32) (qr : Int64) (qf : Int32), va_P D cls (wSe cI (o + 72) qc ql qr qf) H))) (Xt R.1 E_NSE (fun q => blk (o + 72) 2 q) (fun H => (∃ (qc : Int32) (ql : Nat → Int32) (qr : Int64) (qf : Int32), va_P D cls (wSe cI (o + 72) qc ql qr qf) H))) 1 6 (fun q => blk (o + 72) 2 q) := by
  refine vx_ofW (cc := c_EP_size) (maxL := 5) (ret := (Option.some FieldType.int)) (by decide) rfl ?_
  intro p e s m args below meth c s₁ B hml hno hv
  obtain ⟨rfl, hKn, hZ, hE, hC, hN, hQ⟩ := hv
  have hx := B.exec
  have hb := B.bytes
  have hr := B.returns
  have hts := atoms_spec (ws := k_EP_size :: gt) B.pre
  have hg : ∀ w ∈ gt, w.before _ s = true := fun w h => hts w (List.mem_cons_of_mem _ h)
  have hown : s.vm.findClass R_EP = some m.cls := findClass_of_methodNamed B.named
  have hlocks := B.notSynchronized
  have hK := hKn.1
  have hl := lv_entry ([.ref o, .int (nI j), .int t]) (n := 5) (Nat.le_of_ble_eq_true rfl)
  rw [lg_entry_eq]
  generalize (lg_sl ([.ref o, .int (nI j), .int t]) ++ List.replicate (5 - (lg_sl ([.ref o, .int (nI j), .int t])).length) Slot.unset).toArray = ls at hl ⊢
  have hl : lv_has ls 5 [(0, .ref o), (1, .int (nI j)), (2, .int t)] := hl
  have hS : va_S (fun q => blk (o + 72) 2 q) s.heap s.heap [] := va_S.rf
  have hR : (if okM t then ((0, (rut (fun _ x y => seS x y) mo na aa bb t n 0 ((16, sal 16 0 ql), qr, qf)).1.1)) else ((1, 0))) = R := hR
  refine lv_iload_n hx hb d_EP_size_0 rfl (lv_at hl 2 rfl) ?_
  by_cases hc1 : okM t
  · refine ep_callP (W.runS (As := [.int t]) (rest := []) ⟨hx, hb, hml, hown, hg⟩ (m_EP_checkMoment_ok l D cI cJ cZ cO t hc1) (ep_cwS 1 hg tw_340 tw_341 tw_1 tk_EP_checkMoment rfl rfl (by decide +kernel) ⟨(Nat.le_of_ble_eq_true rfl), (Nat.le_of_ble_eq_true rfl)⟩) ⟨ep_blind, ep_pre hKn (trivial)⟩ rfl rfl hl.1 rfl (lv_room (Nat.le_of_ble_eq_true rfl)) d_EP_size_1 ⟨Nat.zero_le _, Nat.zero_le _⟩) ?_
    refine W.eq (g2 := F0 m 4 ls []) rfl ?_
    refine lv_aload_n hx hb d_EP_size_4 rfl (lv_at hl 0 rfl) ?_
    refine lv_iload_n hx hb d_EP_size_5 rfl (lv_at hl 1 rfl) ?_
    refine ep_callP (W.runV (As := [.int (nI j)]) (rest := []) ⟨hx, hb, hml, hown, hg⟩ (m_EP_openCollection_ok l D cI cJ cZ cO o j 5 (by omega) (by decide)) (ep_cwV 1 hg tw_327 tw_329 ts_2 tw_1 tk_EP_openCollection rfl rfl (by decide +kernel) ⟨(Nat.le_of_ble_eq_true rfl), (Nat.le_of_ble_eq_true rfl)⟩) ⟨ep_blind, va_recv (q0 := 0) (ci := 8) hK hE rfl rfl, ep_pre hKn (⟨hE, hC⟩)⟩ rfl rfl hl.1 rfl (lv_room (Nat.le_of_ble_eq_true rfl)) d_EP_size_6 ⟨Nat.zero_le _, Nat.zero_le _⟩) ?_
    refine W.eq (g2 := F0 m 9 ls [.ref (o + 2 + 15 * j)]) rfl ?_
    refine lv_astore_n (lv' := [(3, .ref (o + 2 + 15 * j)), (0, .ref o), (1, .int (nI j)), (2, .int t)]) hx hb d_EP_size_9 rfl hl (by decide) rfl (fun ls hl => ?_)
    refine lv_aload_n hx hb d_EP_size_10 rfl (lv_at hl 0 rfl) ?_
    refine va_get (D := D) (ci := 0) (v := .int 5) (C := R_Co) (T := F_Co) (N := 3) hx hb hg in_Co hown hK hC 0 rfl rfl 0 (Nat.le_of_ble_eq_true rfl) (hg _ tw_76) (fun _ h9 => h9) rfl d_EP_size_11 ?_
    refine lv_iconst (v := 4) hx hb d_EP_size_14 (by decide) ?_
    refine lv_icmp_eq (tgt := 22) hx hb d_EP_size_15 (by decide) (fun hc => False.elim (by revert hc; decide)) (fun hc => ?_)
    refine lv_iconst (v := 1) hx hb d_EP_size_18 (by decide) ?_
    refine lv_goto (tgt := 23) hx hb d_EP_size_19 (by decide) ?_
    refine ep_callP (W.runS (As := [.int 1]) (rest := []) ⟨hx, hb, hml, hown, hg⟩ (m_EP_checkKind_1 l D cI cJ cZ cO) (ep_cwS 1 hg tw_571 tw_572 tw_1 tk_EP_checkKind rfl rfl (by decide +kernel) ⟨(Nat.le_of_ble_eq_true rfl), (Nat.le_of_ble_eq_true rfl)⟩) ⟨ep_blind, ep_pre hKn (trivial)⟩ rfl rfl hl.1 rfl (lv_room (Nat.le_of_ble_eq_true rfl)) d_EP_size_23 ⟨Nat.zero_le _, Nat.zero_le _⟩) ?_
    refine W.eq (g2 := F0 m 26 ls []) rfl ?_
    refine lv_aload_n hx hb d_EP_size_26 rfl (lv_at hl 1 rfl) ?_
    refine lv_aload_n hx hb d_EP_size_27 rfl (lv_at hl 0 rfl) ?_
    refine va_get (D := D) (ci := 0) (v := .int 5) (C := R_Co) (T := F_Co) (N := 3) hx hb hg in_Co hown hK hC 0 rfl rfl 0 (Nat.le_of_ble_eq_true rfl) (hg _ tw_76) (fun _ h9 => h9) rfl d_EP_size_28 ?_
    refine ep_callP (W.runV (As := [.int 5]) (rest := []) ⟨hx, hb, hml, hown, hg⟩ (m_EP_contentsOf_5 l D cI cJ cZ cO o) (ep_cwV 1 hg tw_358 tw_360 ts_3 tw_1 tk_EP_contentsOf rfl rfl (by decide +kernel) ⟨(Nat.le_of_ble_eq_true rfl), (Nat.le_of_ble_eq_true rfl)⟩) ⟨ep_blind, va_recv (q0 := 0) (ci := 8) hK hE rfl rfl, ep_pre hKn (hE)⟩ rfl rfl hl.1 rfl (lv_room (Nat.le_of_ble_eq_true rfl)) d_EP_size_31 ⟨Nat.zero_le _, Nat.zero_le _⟩) ?_
    refine W.eq (g2 := F0 m 34 ls [.ref (o + 72)]) rfl ?_
    refine lv_astore (lv' := [(4, .ref (o + 72)), (3, .ref (o + 2 + 15 * j)), (0, .ref o), (1, .int (nI j)), (2, .int t)]) hx hb d_EP_size_34 hl (by decide) rfl (fun ls hl => ?_)
    refine lv_aload_n hx hb d_EP_size_36 rfl (lv_at hl 1 rfl) ?_
    refine va_get (D := D) (ci := 0) (v := .ref (o + 2 + 15 * j + 1)) (C := R_Co) (T := F_Co) (N := 3) hx hb hg in_Co hown hK hC 0 rfl rfl 1 (Nat.le_of_ble_eq_true rfl) (hg _ tw_78) (fun _ h9 => h9) rfl d_EP_size_37 ?_
    refine lv_iload_n hx hb d_EP_size_40 rfl (lv_at hl 4 rfl) ?_
    refine lv_aload hx hb d_EP_size_41 (lv_at hl 0 rfl) ?_
    refine ep_callH (W.runV (As := [.int t, .ref (o + 72)]) (rest := []) ⟨hx, hb, hml, hown, hg⟩ (m_Li_runUpTo_Se l D cI cJ cZ cO (o + 2 + 15 * j + 1) n mo na aa bb re ef (o + 72) qc ql qr qf t (by omega) (by omega) hop _ rfl) (ep_cwV 2 hg tw_575 tw_576 tw_577 tw_3 tk_Li_runUpTo rfl rfl (by decide +kernel) ⟨(Nat.le_of_ble_eq_true rfl), (Nat.le_of_ble_eq_true rfl)⟩) ⟨ep_blind, va_recv (q0 := 0) (ci := 1) hK hN rfl rfl, ep_pre hKn (hN.app hQ)⟩ rfl rfl hl.1 rfl (lv_room (Nat.le_of_ble_eq_true rfl)) d_EP_size_43 ⟨Nat.zero_le _, Nat.zero_le _⟩) hS ((by intro q h; simp only [blk] at h ⊢; omega)) (fun H locs hsz9 hk1 hP1 hS => ?_)
    refine W.eq (g2 := F0 m 46 ls []) rfl ?_
    have hE := wo_kc hE hk1 (off_in (rng_of wEP_in) (by intro q h1 h2 h3; simp only [blk] at h3; omega))
    have hC := wo_kc hC hk1 (off_in (rng_of wCo_in) (by intro q h1 h2 h3; simp only [blk] at h3; omega))
    have hN : va_P D cls (wLi cI cJ cZ (o + 2 + 15 * j + 1) n mo na aa bb re ef) H := wo_l hP1
    have hQ : va_P D cls (wSe cI (o + 72) ((rut (fun _ x y => seS x y) mo na aa bb t n 0 ((16, sal 16 0 ql), qr, qf)).1.1) ((rut (fun _ x y => seS x y) mo na aa bb t n 0 ((16, sal 16 0 ql), qr, qf)).1.2) ((rut (fun _ x y => seS x y) mo na aa bb t n 0 ((16, sal 16 0 ql), qr, qf)).2.1) ((rut (fun _ x y => seS x y) mo na aa bb t n 0 ((16, sal 16 0 ql), qr, qf)).2.2)) H := wo_r hP1
    refine lv_aload hx hb d_EP_size_46 (lv_at hl 0 rfl) ?_
    refine va_get (D := D) (ci := 7) (v := .int ((rut (fun _ x y => seS x y) mo na aa bb t n 0 ((16, sal 16 0 ql), qr, qf)).1.1)) (C := R_Se) (T := F_Se) (N := 4) hx hb hg in_Se hown hK hQ 0 rfl rfl 1 (Nat.le_of_ble_eq_true rfl) (hg _ tw_116) (fun _ h9 => h9) rfl d_EP_size_48 ?_
    rw [if_pos hc1] at hR
    subst hR
    refine vx_ret ?_
    refine W.widen (k := 1) (n := 6) (Nat.le_of_ble_eq_true rfl) (Nat.le_of_ble_eq_true rfl) ?_
    exact W.iret (v := ((rut (fun _ x y => seS x y) mo na aa bb t n 0 ((16, sal 16 0 ql), qr, qf)).1.1)) hx hb hr (fun t9 ht hW => ⟨rfl, rfl, hS.F ht, ⟨_, _, _, _, by rw [ht]; exact hQ⟩⟩) hS.2.2 d_EP_size_51
  · rw [if_neg hc1] at hR
    subst hR
    refine ep_callX (E := E_IAE) (vx_runS (As := [.int t]) (rest := []) ⟨hx, hb, hml, hown, hg⟩ (m_EP_checkMoment_x l hlt D cI cJ cZ cO t hc1) (ep_cwS 1 hg tw_340 tw_341 tw_1 tk_EP_checkMoment rfl rfl (by decide +kernel) ⟨(Nat.le_of_ble_eq_true rfl), (Nat.le_of_ble_eq_true rfl)⟩) ⟨ep_blindX, ep_preX hKn (Zs.kept hZ hS (fun q h => h.elim)) (trivial)⟩ rfl rfl hl.1 rfl (lv_room (Nat.le_of_ble_eq_true rfl)) d_EP_size_1 ⟨(Nat.le_of_ble_eq_true rfl), (Nat.le_of_ble_eq_true rfl)⟩) hS (fun q h => h.elim) (fun ce q9 H1 locs1 hz1 hk1 hS1 hce hcv hcl => ?_)
    exact vx_out (fun x h => (hno x h).elim) hlocks hce hcv hcl (fun t9 ht hv => ⟨by show (1 : Nat) ≠ 0; decide, rfl, hS1.F ht, ⟨_, _, _, _, by rw [ht]; exact wo_kx hQ (fun q h => hk1 q h (fun z => z))⟩⟩) hS1.2.2 (Nat.le_of_ble_eq_true rfl) (Nat.le_of_ble_eq_true rfl)

def f_EP_at_b (t : Int32) : Nat × Int32 := if okM t then ((1, 0)) else ((1, 0))

set_option maxHeartbeats 4000000 in
set_option maxRecDepth 100000 in
theorem m_EP_at_b (l : Launch) (hlt : l.stackTraces = false) (D : va_G) (cI cJ cZ cO : ClassId) (o : Nat) (id : Int32) (t : Int32) (x : Int32) (hid : ¬ okI id) (R : Nat × Int32) (hR : f_EP_at_b t = R) : vx_Met l y_EP_at (k_EP_at :: gt) rx_EP_at (PcX D cI cJ cZ cO (fun _ => False) [.ref o, .int id, .int t, .int x] (fun H => va_P D cls (wEP cO o) H)) (Qt R.1 (fun _ => False) (some (.int R.2)) (fun H => True)) (Xt R.1 E_NSE (fun _ => False) (fun H => True)) 1 6 (fun _ => False) := by
  refine vx_ofW (cc := c_EP_at) (maxL := 6) (ret := (Option.some FieldType.int)) (by decide) rfl ?_
  intro p e s m args below meth c s₁ B hml hno hv
  obtain ⟨rfl, hKn, hZ, hE⟩ := hv
  have hx := B.exec
  have hb := B.bytes
  have hr := B.returns
  have hts := atoms_spec (ws := k_EP_at :: gt) B.pre
  have hg : ∀ w ∈ gt, w.before _ s = true := fun w h => hts w (List.mem_cons_of_mem _ h)
  have hown : s.vm.findClass R_EP = some m.cls := findClass_of_methodNamed B.named
  have hlocks := B.notSynchronized
  have hK := hKn.1
  have hl := lv_entry ([.ref o, .int id, .int t, .int x]) (n := 6) (Nat.le_of_ble_eq_true rfl)
  rw [lg_entry_eq]
  generalize (lg_sl ([.ref o, .int id, .int t, .int x]) ++ List.replicate (6 - (lg_sl ([.ref o, .int id, .int t, .int x])).length) Slot.unset).toArray = ls at hl ⊢
  have hl : lv_has ls 6 [(0, .ref o), (1, .int id), (2, .int t), (3, .int x)] := hl
  have hS : va_S (fun _ => False) s.heap s.heap [] := va_S.rf
  have hR : (if okM t then ((1, 0)) else ((1, 0))) = R := hR
  refine lv_iload_n hx hb d_EP_at_0 rfl (lv_at hl 2 rfl) ?_
  by_cases hc1 : okM t
  · refine ep_callP (W.runS (As := [.int t]) (rest := []) ⟨hx, hb, hml, hown, hg⟩ (m_EP_checkMoment_ok l D cI cJ cZ cO t hc1) (ep_cwS 1 hg tw_340 tw_341 tw_1 tk_EP_checkMoment rfl rfl (by decide +kernel) ⟨(Nat.le_of_ble_eq_true rfl), (Nat.le_of_ble_eq_true rfl)⟩) ⟨ep_blind, ep_pre hKn (trivial)⟩ rfl rfl hl.1 rfl (lv_room (Nat.le_of_ble_eq_true rfl)) d_EP_at_1 ⟨Nat.zero_le _, Nat.zero_le _⟩) ?_
    refine W.eq (g2 := F0 m 4 ls []) rfl ?_
    refine lv_aload_n hx hb d_EP_at_4 rfl (lv_at hl 0 rfl) ?_
    refine lv_iload_n hx hb d_EP_at_5 rfl (lv_at hl 1 rfl) ?_
    rw [if_pos hc1] at hR
    subst hR
    refine ep_callX (E := E_IAE) (vx_runV (As := [.int id]) (rest := []) ⟨hx, hb, hml, hown, hg⟩ (m_EP_openCollection_b l hlt D cI cJ cZ cO o id hid) (ep_cwV 1 hg tw_327 tw_329 ts_2 tw_1 tk_EP_openCollection rfl rfl (by decide +kernel) ⟨(Nat.le_of_ble_eq_true rfl), (Nat.le_of_ble_eq_true rfl)⟩) ⟨ep_blindX, va_recv (q0 := 0) (ci := 8) hK hE rfl rfl, ep_preX hKn (Zs.kept hZ hS (fun q h => h.elim)) (hE)⟩ rfl rfl hl.1 rfl (lv_room (Nat.le_of_ble_eq_true rfl)) d_EP_at_6 ⟨(Nat.le_of_ble_eq_true rfl), (Nat.le_of_ble_eq_true rfl)⟩) hS (fun q h => h.elim) (fun ce q9 H1 locs1 hz1 hk1 hS1 hce hcv hcl => ?_)
    exact vx_out (fun x h => (hno x h).elim) hlocks hce hcv hcl (fun t9 ht hv => ⟨by show (1 : Nat) ≠ 0; decide, rfl, hS1.F ht, trivial⟩) hS1.2.2 (Nat.le_of_ble_eq_true rfl) (Nat.le_of_ble_eq_true rfl)
  · rw [if_neg hc1] at hR
    subst hR
    refine ep_callX (E := E_IAE) (vx_runS (As := [.int t]) (rest := []) ⟨hx, hb, hml, hown, hg⟩ (m_EP_checkMoment_x l hlt D cI cJ cZ cO t hc1) (ep_cwS 1 hg tw_340 tw_341 tw_1 tk_EP_checkMoment rfl rfl (by decide +kernel) ⟨(Nat.le_of_ble_eq_true rfl), (Nat.le_of_ble_eq_true rfl)⟩) ⟨ep_blindX, ep_preX hKn (Zs.kept hZ hS (fun q h => h.elim)) (trivial)⟩ rfl rfl hl.1 rfl (lv_room (Nat.le_of_ble_eq_true rfl)) d_EP_at_1 ⟨(Nat.le_of_ble_eq_true rfl), (Nat.le_of_ble_eq_true rfl)⟩) hS (fun q h => h.elim) (fun ce q9 H1 locs1 hz1 hk1 hS1 hce hcv hcl => ?_)
    exact vx_out (fun x h => (hno x h).elim) hlocks hce hcv hcl (fun t9 ht hv => ⟨by show (1 : Nat) ≠ 0; decide, rfl, hS1.F ht, trivial⟩) hS1.2.2 (Nat.le_of_ble_eq_true rfl) (Nat.le_of_ble_eq_true rfl)

def f_EP_at_c (t : Int32) : Nat × Int32 := if okM t then ((2, 0)) else ((1, 0))

set_option maxHeartbeats 4000000 in
set_option maxRecDepth 100000 in
theorem m_EP_at_c (l : Launch) (hlt : l.stackTraces = false) (D : va_G) (cI cJ cZ cO : ClassId) (o : Nat) (j : Nat) (t : Int32) (x : Int32) (hj : j < 4) (R : Nat × Int32) (hR : f_EP_at_c t = R) : vx_Met l y_EP_at (k_EP_at :: gt) rx_EP_at (PcX D cI cJ cZ cO (fun _ => False) [.ref o, .int (nI j), .int t, .int x] (fun H => va_P D cls (wEP cO o) H ∧ va_P D cls (wCo (o + 2 + 15 * j) (-1)) H)) (Qt R.1 (fun _ => False) (some (.int R.2)) (fun H => True)) (Xt R.1 E_NSE (fun _ => False) (fun H => True)) 1 6 (fun _ => False) := by
  refine vx_ofW (cc := c_EP_at) (maxL := 6) (ret := (Option.some FieldType.int)) (by decide) rfl ?_
  intro p e s m args below meth c s₁ B hml hno hv
  obtain ⟨rfl, hKn, hZ, hE, hC⟩ := hv
  have hx := B.exec
  have hb := B.bytes
  have hr := B.returns
  have hts := atoms_spec (ws := k_EP_at :: gt) B.pre
  have hg : ∀ w ∈ gt, w.before _ s = true := fun w h => hts w (List.mem_cons_of_mem _ h)
  have hown : s.vm.findClass R_EP = some m.cls := findClass_of_methodNamed B.named
  have hlocks := B.notSynchronized
  have hK := hKn.1
  have hl := lv_entry ([.ref o, .int (nI j), .int t, .int x]) (n := 6) (Nat.le_of_ble_eq_true rfl)
  rw [lg_entry_eq]
  generalize (lg_sl ([.ref o, .int (nI j), .int t, .int x]) ++ List.replicate (6 - (lg_sl ([.ref o, .int (nI j), .int t, .int x])).length) Slot.unset).toArray = ls at hl ⊢
  have hl : lv_has ls 6 [(0, .ref o), (1, .int (nI j)), (2, .int t), (3, .int x)] := hl
  have hS : va_S (fun _ => False) s.heap s.heap [] := va_S.rf
  have hR : (if okM t then ((2, 0)) else ((1, 0))) = R := hR
  refine lv_iload_n hx hb d_EP_at_0 rfl (lv_at hl 2 rfl) ?_
  by_cases hc1 : okM t
  · refine ep_callP (W.runS (As := [.int t]) (rest := []) ⟨hx, hb, hml, hown, hg⟩ (m_EP_checkMoment_ok l D cI cJ cZ cO t hc1) (ep_cwS 1 hg tw_340 tw_341 tw_1 tk_EP_checkMoment rfl rfl (by decide +kernel) ⟨(Nat.le_of_ble_eq_true rfl), (Nat.le_of_ble_eq_true rfl)⟩) ⟨ep_blind, ep_pre hKn (trivial)⟩ rfl rfl hl.1 rfl (lv_room (Nat.le_of_ble_eq_true rfl)) d_EP_at_1 ⟨Nat.zero_le _, Nat.zero_le _⟩) ?_
    refine W.eq (g2 := F0 m 4 ls []) rfl ?_
    refine lv_aload_n hx hb d_EP_at_4 rfl (lv_at hl 0 rfl) ?_
    refine lv_iload_n hx hb d_EP_at_5 rfl (lv_at hl 1 rfl) ?_
    rw [if_pos hc1] at hR
    subst hR
    refine ep_callX (E := E_ISE) (vx_runV (As := [.int (nI j)]) (rest := []) ⟨hx, hb, hml, hown, hg⟩ (m_EP_openCollection_c l hlt D cI cJ cZ cO o j (by omega)) (ep_cwV 1 hg tw_327 tw_329 ts_2 tw_1 tk_EP_openCollection rfl rfl (by decide +kernel) ⟨(Nat.le_of_ble_eq_true rfl), (Nat.le_of_ble_eq_true rfl)⟩) ⟨ep_blindX, va_recv (q0 := 0) (ci := 8) hK hE rfl rfl, ep_preX hKn (Zs.kept hZ hS (fun q h => h.elim)) (⟨hE, hC⟩)⟩ rfl rfl hl.1 rfl (lv_room (Nat.le_of_ble_eq_true rfl)) d_EP_at_6 ⟨(Nat.le_of_ble_eq_true rfl), (Nat.le_of_ble_eq_true rfl)⟩) hS (fun q h => h.elim) (fun ce q9 H1 locs1 hz1 hk1 hS1 hce hcv hcl => ?_)
    exact vx_out (fun x h => (hno x h).elim) hlocks hce hcv hcl (fun t9 ht hv => ⟨by show (2 : Nat) ≠ 0; decide, rfl, hS1.F ht, trivial⟩) hS1.2.2 (Nat.le_of_ble_eq_true rfl) (Nat.le_of_ble_eq_true rfl)
  · rw [if_neg hc1] at hR
    subst hR
    refine ep_callX (E := E_IAE) (vx_runS (As := [.int t]) (rest := []) ⟨hx, hb, hml, hown, hg⟩ (m_EP_checkMoment_x l hlt D cI cJ cZ cO t hc1) (ep_cwS 1 hg tw_340 tw_341 tw_1 tk_EP_checkMoment rfl rfl (by decide +kernel) ⟨(Nat.le_of_ble_eq_true rfl), (Nat.le_of_ble_eq_true rfl)⟩) ⟨ep_blindX, ep_preX hKn (Zs.kept hZ hS (fun q h => h.elim)) (trivial)⟩ rfl rfl hl.1 rfl (lv_room (Nat.le_of_ble_eq_true rfl)) d_EP_at_1 ⟨(Nat.le_of_ble_eq_true rfl), (Nat.le_of_ble_eq_true rfl)⟩) hS (fun q h => h.elim) (fun ce q9 H1 locs1 hz1 hk1 hS1 hce hcv hcl => ?_)
    exact vx_out (fun x h => (hno x h).elim) hlocks hce hcv hcl (fun t9 ht hv => ⟨by show (1 : Nat) ≠ 0; decide, rfl, hS1.F ht, trivial⟩) hS1.2.2 (Nat.le_of_ble_eq_true rfl) (Nat.le_of_ble_eq_true rfl)

def f_EP_at_w (t : Int32) : Nat × Int32 := if okM t then ((2, 0)) else ((1, 0))

set_option maxHeartbeats 4000000 in
set_option maxRecDepth 100000 in
theorem m_EP_at_w (l : Launch) (hlt : l.stackTraces = false) (D : va_G) (cI cJ cZ cO : ClassId) (o : Nat) (j : Nat) (kd : Int32) (t : Int32) (x : Int32) (hj : j < 4) (hkd : ¬ kd = -1) (hk0 : ¬ kd = 2) (R : Nat × Int32) (hR : f_EP_at_w t = R) : vx_Met l y_EP_at (k_EP_at :: gt) rx_EP_at (PcX D cI cJ cZ cO (fun _ => False) [.ref o, .int (nI j), .int t, .int x] (fun H => va_P D cls (wEP cO o) H ∧ va_P D cls (wCo (o + 2 + 15 * j) kd) H)) (Qt R.1 (fun _ => False) (some (.int R.2)) (fun H => True)) (Xt R.1 E_NSE (fun _ => False) (fun H => True)) 1 6 (fun _ => False) := by
  refine vx_ofW (cc := c_EP_at) (maxL := 6) (ret := (Option.some FieldType.int)) (by decide) rfl ?_
  intro p e s m args below meth c s₁ B hml hno hv
  obtain ⟨rfl, hKn, hZ, hE, hC⟩ := hv
  have hx := B.exec
  have hb := B.bytes
  have hr := B.returns
  have hts := atoms_spec (ws := k_EP_at :: gt) B.pre
  have hg : ∀ w ∈ gt, w.before _ s = true := fun w h => hts w (List.mem_cons_of_mem _ h)
  have hown : s.vm.findClass R_EP = some m.cls := findClass_of_methodNamed B.named
  have hlocks := B.notSynchronized
  have hK := hKn.1
  have hl := lv_entry ([.ref o, .int (nI j), .int t, .int x]) (n := 6) (Nat.le_of_ble_eq_true rfl)
  rw [lg_entry_eq]
  generalize (lg_sl ([.ref o, .int (nI j), .int t, .int x]) ++ List.replicate (6 - (lg_sl ([.ref o, .int (nI j), .int t, .int x])).length) Slot.unset).toArray = ls at hl ⊢
  have hl : lv_has ls 6 [(0, .ref o), (1, .int (nI j)), (2, .int t), (3, .int x)] := hl
  have hS : va_S (fun _ => False) s.heap s.heap [] := va_S.rf
  have hR : (if okM t then ((2, 0)) else ((1, 0))) = R := hR
  refine lv_iload_n hx hb d_EP_at_0 rfl (lv_at hl 2 rfl) ?_
  by_cases hc1 : okM t
  · refine ep_callP (W.runS (As := [.int t]) (rest := []) ⟨hx, hb, hml, hown, hg⟩ (m_EP_checkMoment_ok l D cI cJ cZ cO t hc1) (ep_cwS 1 hg tw_340 tw_341 tw_1 tk_EP_checkMoment rfl rfl (by decide +kernel) ⟨(Nat.le_of_ble_eq_true rfl), (Nat.le_of_ble_eq_true rfl)⟩) ⟨ep_blind, ep_pre hKn (trivial)⟩ rfl rfl hl.1 rfl (lv_room (Nat.le_of_ble_eq_true rfl)) d_EP_at_1 ⟨Nat.zero_le _, Nat.zero_le _⟩) ?_
    refine W.eq (g2 := F0 m 4 ls []) rfl ?_
    refine lv_aload_n hx hb d_EP_at_4 rfl (lv_at hl 0 rfl) ?_
    refine lv_iload_n hx hb d_EP_at_5 rfl (lv_at hl 1 rfl) ?_
    refine ep_callP (W.runV (As := [.int (nI j)]) (rest := []) ⟨hx, hb, hml, hown, hg⟩ (m_EP_openCollection_ok l D cI cJ cZ cO o j kd (by omega) hkd) (ep_cwV 1 hg tw_327 tw_329 ts_2 tw_1 tk_EP_openCollection rfl rfl (by decide +kernel) ⟨(Nat.le_of_ble_eq_true rfl), (Nat.le_of_ble_eq_true rfl)⟩) ⟨ep_blind, va_recv (q0 := 0) (ci := 8) hK hE rfl rfl, ep_pre hKn (⟨hE, hC⟩)⟩ rfl rfl hl.1 rfl (lv_room (Nat.le_of_ble_eq_true rfl)) d_EP_at_6 ⟨Nat.zero_le _, Nat.zero_le _⟩) ?_
    refine W.eq (g2 := F0 m 9 ls [.ref (o + 2 + 15 * j)]) rfl ?_
    refine lv_astore (lv' := [(4, .ref (o + 2 + 15 * j)), (0, .ref o), (1, .int (nI j)), (2, .int t), (3, .int x)]) hx hb d_EP_at_9 hl (by decide) rfl (fun ls hl => ?_)
    refine lv_aload hx hb d_EP_at_11 (lv_at hl 0 rfl) ?_
    refine va_get (D := D) (ci := 0) (v := .int kd) (C := R_Co) (T := F_Co) (N := 3) hx hb hg in_Co hown hK hC 0 rfl rfl 0 (Nat.le_of_ble_eq_true rfl) (hg _ tw_76) (fun _ h9 => h9) rfl d_EP_at_13 ?_
    refine lv_iconst (v := 2) hx hb d_EP_at_16 (by decide) ?_
    refine lv_icmp_ne (tgt := 24) hx hb d_EP_at_17 (by decide) (fun hc => ?_) (fun hc => absurd hc hk0)
    refine lv_iconst (v := 0) hx hb d_EP_at_24 (by decide) ?_
    rw [if_pos hc1] at hR
    subst hR
    refine ep_callX (E := E_ISE) (vx_runS (As := [.int 0]) (rest := []) ⟨hx, hb, hml, hown, hg⟩ (m_EP_checkKind_0 l hlt D cI cJ cZ cO) (ep_cwS 1 hg tw_571 tw_572 tw_1 tk_EP_checkKind rfl rfl (by decide +kernel) ⟨(Nat.le_of_ble_eq_true rfl), (Nat.le_of_ble_eq_true rfl)⟩) ⟨ep_blindX, ep_preX hKn (Zs.kept hZ hS (fun q h => h.elim)) (trivial)⟩ rfl rfl hl.1 rfl (lv_room (Nat.le_of_ble_eq_true rfl)) d_EP_at_25 ⟨(Nat.le_of_ble_eq_true rfl), (Nat.le_of_ble_eq_true rfl)⟩) hS (fun q h => h.elim) (fun ce q9 H1 locs1 hz1 hk1 hS1 hce hcv hcl => ?_)
    exact vx_out (fun x h => (hno x h).elim) hlocks hce hcv hcl (fun t9 ht hv => ⟨by show (2 : Nat) ≠ 0; decide, rfl, hS1.F ht, trivial⟩) hS1.2.2 (Nat.le_of_ble_eq_true rfl) (Nat.le_of_ble_eq_true rfl)
  · rw [if_neg hc1] at hR
    subst hR
    refine ep_callX (E := E_IAE) (vx_runS (As := [.int t]) (rest := []) ⟨hx, hb, hml, hown, hg⟩ (m_EP_checkMoment_x l hlt D cI cJ cZ cO t hc1) (ep_cwS 1 hg tw_340 tw_341 tw_1 tk_EP_checkMoment rfl rfl (by decide +kernel) ⟨(Nat.le_of_ble_eq_true rfl), (Nat.le_of_ble_eq_true rfl)⟩) ⟨ep_blindX, ep_preX hKn (Zs.kept hZ hS (fun q h => h.elim)) (trivial)⟩ rfl rfl hl.1 rfl (lv_room (Nat.le_of_ble_eq_true rfl)) d_EP_at_1 ⟨(Nat.le_of_ble_eq_true rfl), (Nat.le_of_ble_eq_true rfl)⟩) hS (fun q h => h.elim) (fun ce q9 H1 locs1 hz1 hk1 hS1 hce hcv hcl => ?_)
    exact vx_out (fun x h => (hno x h).elim) hlocks hce hcv hcl (fun t9 ht hv => ⟨by show (1 : Nat) ≠ 0; decide, rfl, hS1.F ht, trivial⟩) hS1.2.2 (Nat.le_of_ble_eq_true rfl) (Nat.le_of_ble_eq_true rfl)

def f_EP_at_2 (n : Nat) (mo : Nat → Int32) (na : Nat → Int32) (aa : Nat → Int32) (bb : Nat → Int32) (qv : Nat → Int32) (qk : Nat → Int32) (qr : Int64) (qf : Int32) (t : Int32) (x : Int32) : Nat × Int32 := if okM t then (if ¬ (tpo ((rut taS mo na aa bb t n 0 ((0, qk, qv), qr, qf)).1.2.1) x ((rut taS mo na aa bb t n 0 ((0, qk, qv), qr, qf)).1.1) 0) = -1 then ((0, ((rut taS mo na aa bb t n 0 ((0, qk, qv), qr, qf)).1.2.2) ((tpo ((rut taS mo na aa bb t n 0 ((0, qk, qv), qr, qf)).1.2.1) x ((rut taS mo na aa bb t n 0 ((0, qk, qv), qr, qf)).1.1) 0).toNatClampNeg))) else ((3, 0))) else ((1, 0))

set_option maxHeartbeats 4000000 in
set_option maxRecDepth 100000 in
theorem m_EP_at_2 (l : Launch) (hlt : l.stackTraces = false) (D : va_G) (cI cJ cZ cO : ClassId) (o : Nat) (j : Nat) (n : Nat) (mo : Nat → Int32) (na : Nat → Int32) (aa : Nat → Int32) (bb : Nat → Int32) (re : Nat → Int64) (ef : Nat → Int32) (qn : Nat) (qv : Nat → Int32) (qk : Nat → Int32) (qr : Int64) (qf : Int32) (t : Int32) (x : Int32) (hj : j < 4) (hn : n ≤ 32) (R : Nat × Int32) (hR : f_EP_at_2 n mo na aa bb qv qk qr qf t x = R) : vx_Met l y_EP_at (k_EP_at :: gt) rx_EP_at (PcX D cI cJ cZ cO (fun q => blk (o + 66) 3 q) [.ref o, .int (nI j), .int t, .int x] (fun H => va_P D cls (wEP cO o) H ∧ va_P D cls (wCo (o + 2 + 15 * j) 2) H ∧ va_P D cls (wLi cI cJ cZ (o + 2 + 15 * j + 1) n mo na aa bb re ef) H ∧ va_P D cls (wTa cI (o + 66) qn qk qv qr qf) H)) (Qt R.1 (fun q => blk (o + 66) 3 q) (some (.int R.2)) (fun H => (∃ (qn : Nat) (qk : Nat → Int32) (qv : Nat → Int32) (qr : Int64) (qf : Int32), va_P D cls (wTa cI (o + 66) qn qk qv qr qf) H))) (Xt R.1 E_NSE (fun q => blk (o + 66) 3 q) (fun H => (∃ (qn : Nat) (qk : Nat → Int32) (qv : Nat → Int32) (qr : Int64) (qf : Int32), va_P D cls (wTa cI (o + 66) qn qk qv qr qf) H))) 1 6 (fun q => blk (o + 66) 3 q) := by
  refine vx_ofW (cc := c_EP_at) (maxL := 6) (ret := (Option.some FieldType.int)) (by decide) rfl ?_
  intro p e s m args below meth c s₁ B hml hno hv
  obtain ⟨rfl, hKn, hZ, hE, hC, hN, hQ⟩ := hv
  have hx := B.exec
  have hb := B.bytes
  have hr := B.returns
  have hts := atoms_spec (ws := k_EP_at :: gt) B.pre
  have hg : ∀ w ∈ gt, w.before _ s = true := fun w h => hts w (List.mem_cons_of_mem _ h)
  have hown : s.vm.findClass R_EP = some m.cls := findClass_of_methodNamed B.named
  have hlocks := B.notSynchronized
  have hK := hKn.1
  have hl := lv_entry ([.ref o, .int (nI j), .int t, .int x]) (n := 6) (Nat.le_of_ble_eq_true rfl)
  rw [lg_entry_eq]
  generalize (lg_sl ([.ref o, .int (nI j), .int t, .int x]) ++ List.replicate (6 - (lg_sl ([.ref o, .int (nI j), .int t, .int x])).length) Slot.unset).toArray = ls at hl ⊢
  have hl : lv_has ls 6 [(0, .ref o), (1, .int (nI j)), (2, .int t), (3, .int x)] := hl
  have hS : va_S (fun q => blk (o + 66) 3 q) s.heap s.heap [] := va_S.rf
  have hR : (if okM t then (if ¬ (tpo ((rut taS mo na aa bb t n 0 ((0, qk, qv), qr, qf)).1.2.1) x ((rut taS mo na aa bb t n 0 ((0, qk, qv), qr, qf)).1.1) 0) = -1 then ((0, ((rut taS mo na aa bb t n 0 ((0, qk, qv), qr, qf)).1.2.2) ((tpo ((rut taS mo na aa bb t n 0 ((0, qk, qv), qr, qf)).1.2.1) x ((rut taS mo na aa bb t n 0 ((0, qk, qv), qr, qf)).1.1) 0).toNatClampNeg))) else ((3, 0))) else ((1, 0))) = R := hR
  refine lv_iload_n hx hb d_EP_at_0 rfl (lv_at hl 2 rfl) ?_
  by_cases hc1 : okM t
  · refine ep_callP (W.runS (As := [.int t]) (rest := []) ⟨hx, hb, hml, hown, hg⟩ (m_EP_checkMoment_ok l D cI cJ cZ cO t hc1) (ep_cwS 1 hg tw_340 tw_341 tw_1 tk_EP_checkMoment rfl rfl (by decide +kernel) ⟨(Nat.le_of_ble_eq_true rfl), (Nat.le_of_ble_eq_true rfl)⟩) ⟨ep_blind, ep_pre hKn (trivial)⟩ rfl rfl hl.1 rfl (lv_room (Nat.le_of_ble_eq_true rfl)) d_EP_at_1 ⟨Nat.zero_le _, Nat.zero_le _⟩) ?_
    refine W.eq (g2 := F0 m 4 ls []) rfl ?_
    refine lv_aload_n hx hb d_EP_at_4 rfl (lv_at hl 0 rfl) ?_
    refine lv_iload_n hx hb d_EP_at_5 rfl (lv_at hl 1 rfl) ?_
    refine ep_callP (W.runV (As := [.int (nI j)]) (rest := []) ⟨hx, hb, hml, hown, hg⟩ (m_EP_openCollection_ok l D cI cJ cZ cO o j 2 (by omega) (by decide)) (ep_cwV 1 hg tw_327 tw_329 ts_2 tw_1 tk_EP_openCollection rfl rfl (by decide +kernel) ⟨(Nat.le_of_ble_eq_true rfl), (Nat.le_of_ble_eq_true rfl)⟩) ⟨ep_blind, va_recv (q0 := 0) (ci := 8) hK hE rfl rfl, ep_pre hKn (⟨hE, hC⟩)⟩ rfl rfl hl.1 rfl (lv_room (Nat.le_of_ble_eq_true rfl)) d_EP_at_6 ⟨Nat.zero_le _, Nat.zero_le _⟩) ?_
    refine W.eq (g2 := F0 m 9 ls [.ref (o + 2 + 15 * j)]) rfl ?_
    refine lv_astore (lv' := [(4, .ref (o + 2 + 15 * j)), (0, .ref o), (1, .int (nI j)), (2, .int t), (3, .int x)]) hx hb d_EP_at_9 hl (by decide) rfl (fun ls hl => ?_)
    refine lv_aload hx hb d_EP_at_11 (lv_at hl 0 rfl) ?_
    refine va_get (D := D) (ci := 0) (v := .int 2) (C := R_Co) (T := F_Co) (N := 3) hx hb hg in_Co hown hK hC 0 rfl rfl 0 (Nat.le_of_ble_eq_true rfl) (hg _ tw_76) (fun _ h9 => h9) rfl d_EP_at_13 ?_
    refine lv_iconst (v := 2) hx hb d_EP_at_16 (by decide) ?_
    refine lv_icmp_ne (tgt := 24) hx hb d_EP_at_17 (by decide) (fun hc => False.elim (by revert hc; decide)) (fun hc => ?_)
    refine lv_iconst (v := 1) hx hb d_EP_at_20 (by decide) ?_
    refine lv_goto (tgt := 25) hx hb d_EP_at_21 (by decide) ?_
    refine ep_callP (W.runS (As := [.int 1]) (rest := []) ⟨hx, hb, hml, hown, hg⟩ (m_EP_checkKind_1 l D cI cJ cZ cO) (ep_cwS 1 hg tw_571 tw_572 tw_1 tk_EP_checkKind rfl rfl (by decide +kernel) ⟨(Nat.le_of_ble_eq_true rfl), (Nat.le_of_ble_eq_true rfl)⟩) ⟨ep_blind, ep_pre hKn (trivial)⟩ rfl rfl hl.1 rfl (lv_room (Nat.le_of_ble_eq_true rfl)) d_EP_at_25 ⟨Nat.zero_le _, Nat.zero_le _⟩) ?_
    refine W.eq (g2 := F0 m 28 ls []) rfl ?_
    refine lv_aload hx hb d_EP_at_28 (lv_at hl 0 rfl) ?_
    refine va_get (D := D) (ci := 0) (v := .ref (o + 2 + 15 * j + 1)) (C := R_Co) (T := F_Co) (N := 3) hx hb hg in_Co hown hK hC 0 rfl rfl 1 (Nat.le_of_ble_eq_true rfl) (hg _ tw_78) (fun _ h9 => h9) rfl d_EP_at_30 ?_
    refine lv_iload_n hx hb d_EP_at_33 rfl (lv_at hl 3 rfl) ?_
    refine lv_aload_n hx hb d_EP_at_34 rfl (lv_at hl 1 rfl) ?_
    refine va_get (D := D) (ci := 8) (v := .ref (o + 66)) (C := R_EP) (T := F_EP) (N := 7) hx hb hg in_EP hown hK hE 0 rfl rfl 3 (Nat.le_of_ble_eq_true rfl) (hg _ tw_201) (fun _ h9 => h9) rfl d_EP_at_35 ?_
    refine ep_callH (W.runV (As := [.int t, .ref (o + 66)]) (rest := []) ⟨hx, hb, hml, hown, hg⟩ (m_Li_runUpTo_Ta l D cI cJ cZ cO (o + 2 + 15 * j + 1) n mo na aa bb re ef (o + 66) qn qk qv qr qf t (by omega) (by omega) _ rfl) (ep_cwV 2 hg tw_575 tw_576 tw_577 tw_3 tk_Li_runUpTo rfl rfl (by decide +kernel) ⟨(Nat.le_of_ble_eq_true rfl), (Nat.le_of_ble_eq_true rfl)⟩) ⟨ep_blind, va_recv (q0 := 0) (ci := 1) hK hN rfl rfl, ep_pre hKn (hN.app hQ)⟩ rfl rfl hl.1 rfl (lv_room (Nat.le_of_ble_eq_true rfl)) d_EP_at_38 ⟨Nat.zero_le _, Nat.zero_le _⟩) hS ((by intro q h; simp only [blk] at h ⊢; omega)) (fun H locs hsz9 hk1 hP1 hS => ?_)
    refine W.eq (g2 := F0 m 41 ls []) rfl ?_
    have hE := wo_kc hE hk1 (off_in (rng_of wEP_in) (by intro q h1 h2 h3; simp only [blk] at h3; omega))
    have hC := wo_kc hC hk1 (off_in (rng_of wCo_in) (by intro q h1 h2 h3; simp only [blk] at h3; omega))
    have hN : va_P D cls (wLi cI cJ cZ (o + 2 + 15 * j + 1) n mo na aa bb re ef) H := wo_l hP1
    have hQ : va_P D cls (wTa cI (o + 66) ((rut taS mo na aa bb t n 0 ((0, qk, qv), qr, qf)).1.1) ((rut taS mo na aa bb t n 0 ((0, qk, qv), qr, qf)).1.2.1) ((rut taS mo na aa bb t n 0 ((0, qk, qv), qr, qf)).1.2.2) ((rut taS mo na aa bb t n 0 ((0, qk, qv), qr, qf)).2.1) ((rut taS mo na aa bb t n 0 ((0, qk, qv), qr, qf)).2.2)) H := wo_r hP1
    have hm9 : (rut taS mo na aa bb t n 0 ((0, qk, qv), qr, qf)).1.1 ≤ n := rut_le_2
    refine lv_aload_n hx hb d_EP_at_41 rfl (lv_at hl 1 rfl) ?_
    refine va_get (D := D) (ci := 8) (v := .ref (o + 66)) (C := R_EP) (T := F_EP) (N := 7) hx hb hg in_EP hown hK hE 0 rfl rfl 3 (Nat.le_of_ble_eq_true rfl) (hg _ tw_201) (fun _ h9 => h9) rfl d_EP_at_42 ?_
    refine lv_iload_n hx hb d_EP_at_45 rfl (lv_at hl 4 rfl) ?_
    refine ep_callP (W.runV (As := [.int x]) (rest := []) ⟨hx, hb, hml, hown, hg⟩ (m_Ta_placeOf l D cI cJ cZ cO (o + 66) ((rut taS mo na aa bb t n 0 ((0, qk, qv), qr, qf)).1.1) ((rut taS mo na aa bb t n 0 ((0, qk, qv), qr, qf)).1.2.1) ((rut taS mo na aa bb t n 0 ((0, qk, qv), qr, qf)).1.2.2) ((rut taS mo na aa bb t n 0 ((0, qk, qv), qr, qf)).2.1) ((rut taS mo na aa bb t n 0 ((0, qk, qv), qr, qf)).2.2) x (by omega)) (ep_cwV 1 hg tw_594 tw_503 tw_504 tw_8 tk_Ta_placeOf rfl rfl (by decide +kernel) ⟨(Nat.le_of_ble_eq_true rfl), (Nat.le_of_ble_eq_true rfl)⟩) ⟨ep_blind, va_recv (q0 := 0) (ci := 5) hK hQ rfl rfl, ep_pre hKn (hQ)⟩ rfl rfl hl.1 rfl (lv_room (Nat.le_of_ble_eq_true rfl)) d_EP_at_46 ⟨Nat.zero_le _, Nat.zero_le _⟩) ?_
    refine W.eq (g2 := F0 m 49 ls [.int (tpo ((rut taS mo na aa bb t n 0 ((0, qk, qv), qr, qf)).1.2.1) x ((rut taS mo na aa bb t n 0 ((0, qk, qv), qr, qf)).1.1) 0)]) rfl ?_
    refine lv_topi (fun z8 e_z8 => ?_)
    obtain rfl : z8 = oI (¬ (tpo ((rut taS mo na aa bb t n 0 ((0, qk, qv), qr, qf)).1.2.1) x ((rut taS mo na aa bb t n 0 ((0, qk, qv), qr, qf)).1.1) 0) = -1) ((tpo ((rut taS mo na aa bb t n 0 ((0, qk, qv), qr, qf)).1.2.1) x ((rut taS mo na aa bb t n 0 ((0, qk, qv), qr, qf)).1.1) 0).toNatClampNeg) := by rw [e_z8]; exact (oI_of (tpo_32 (by omega)))
    by_cases hc2 : ¬ (tpo ((rut taS mo na aa bb t n 0 ((0, qk, qv), qr, qf)).1.2.1) x ((rut taS mo na aa bb t n 0 ((0, qk, qv), qr, qf)).1.1) 0) = -1
    · rw [show oI (¬ (tpo ((rut taS mo na aa bb t n 0 ((0, qk, qv), qr, qf)).1.2.1) x ((rut taS mo na aa bb t n 0 ((0, qk, qv), qr, qf)).1.1) 0) = -1) ((tpo ((rut taS mo na aa bb t n 0 ((0, qk, qv), qr, qf)).1.2.1) x ((rut taS mo na aa bb t n 0 ((0, qk, qv), qr, qf)).1.1) 0).toNatClampNeg) = nI ((tpo ((rut taS mo na aa bb t n 0 ((0, qk, qv), qr, qf)).1.2.1) x ((rut taS mo na aa bb t n 0 ((0, qk, qv), qr, qf)).1.1) 0).toNatClampNeg) from if_pos hc2]
      have hp9 : (tpo ((rut taS mo na aa bb t n 0 ((0, qk, qv), qr, qf)).1.2.1) x ((rut taS mo na aa bb t n 0 ((0, qk, qv), qr, qf)).1.1) 0).toNatClampNeg < (rut taS mo na aa bb t n 0 ((0, qk, qv), qr, qf)).1.1 := tpo_lt (by omega) hc2
      refine lv_istore (lv' := [(5, .int (nI ((tpo ((rut taS mo na aa bb t n 0 ((0, qk, qv), qr, qf)).1.2.1) x ((rut taS mo na aa bb t n 0 ((0, qk, qv), qr, qf)).1.1) 0).toNatClampNeg))), (4, .ref (o + 2 + 15 * j)), (0, .ref o), (1, .int (nI j)), (2, .int t), (3, .int x)]) hx hb d_EP_at_49 hl (by decide) rfl (fun ls hl => ?_)
      refine lv_iload hx hb d_EP_at_51 (lv_at hl 0 rfl) ?_
      refine lv_iconst (v := (-1)) hx hb d_EP_at_53 (by decide) ?_
      refine lv_icmp_ne (tgt := 67) hx hb d_EP_at_54 (by decide) (fun hc => ?_) (fun hc => absurd hc (nI_ne_m1 (by omega)))
      refine lv_aload_n hx hb d_EP_at_67 rfl (lv_at hl 2 rfl) ?_
      refine va_get (D := D) (ci := 8) (v := .ref (o + 66)) (C := R_EP) (T := F_EP) (N := 7) hx hb hg in_EP hown hK hE 0 rfl rfl 3 (Nat.le_of_ble_eq_true rfl) (hg _ tw_201) (fun _ h9 => h9) rfl d_EP_at_68 ?_
      refine va_get (D := D) (ci := 5) (v := .ref (o + 66 + 2)) (C := R_Ta) (T := F_Ta) (N := 5) hx hb hg in_Ta hown hK hQ 0 rfl rfl 1 (Nat.le_of_ble_eq_true rfl) (hg _ tw_150) (fun _ h9 => h9) rfl d_EP_at_71 ?_
      refine lv_iload hx hb d_EP_at_74 (lv_at hl 0 rfl) ?_
      refine ep_iald hx hb hK hQ 2 0 rfl rfl (i := ((tpo ((rut taS mo na aa bb t n 0 ((0, qk, qv), qr, qf)).1.2.1) x ((rut taS mo na aa bb t n 0 ((0, qk, qv), qr, qf)).1.1) 0).toNatClampNeg)) (by omega) (by decide) d_EP_at_76 ?_
      rw [if_pos hc1, if_pos hc2] at hR
      subst hR
      refine vx_ret ?_
      refine W.widen (k := 1) (n := 6) (Nat.le_of_ble_eq_true rfl) (Nat.le_of_ble_eq_true rfl) ?_
      exact W.iret (v := (((rut taS mo na aa bb t n 0 ((0, qk, qv), qr, qf)).1.2.2) ((tpo ((rut taS mo na aa bb t n 0 ((0, qk, qv), qr, qf)).1.2.1) x ((rut taS mo na aa bb t n 0 ((0, qk, qv), qr, qf)).1.1) 0).toNatClampNeg))) hx hb hr (fun t9 ht hW => ⟨rfl, rfl, hS.F ht, ⟨_, _, _, _, _, by rw [ht]; exact hQ⟩⟩) hS.2.2 d_EP_at_77
    · rw [show oI (¬ (tpo ((rut taS mo na aa bb t n 0 ((0, qk, qv), qr, qf)).1.2.1) x ((rut taS mo na aa bb t n 0 ((0, qk, qv), qr, qf)).1.1) 0) = -1) ((tpo ((rut taS mo na aa bb t n 0 ((0, qk, qv), qr, qf)).1.2.1) x ((rut taS mo na aa bb t n 0 ((0, qk, qv), qr, qf)).1.1) 0).toNatClampNeg) = -1 from if_neg hc2]
      refine lv_istore (lv' := [(5, .int (-1)), (4, .ref (o + 2 + 15 * j)), (0, .ref o), (1, .int (nI j)), (2, .int t), (3, .int x)]) hx hb d_EP_at_49 hl (by decide) rfl (fun ls hl => ?_)
      refine lv_iload hx hb d_EP_at_51 (lv_at hl 0 rfl) ?_
      refine lv_iconst (v := (-1)) hx hb d_EP_at_53 (by decide) ?_
      refine lv_icmp_ne (tgt := 67) hx hb d_EP_at_54 (by decide) (fun hc => False.elim (by revert hc; decide)) (fun hc => ?_)
      rw [if_pos hc1, if_neg hc2] at hR
      subst hR
      obtain ⟨sa, hsa⟩ := hKn.2.2.2.2.2 ("EditablePast", 169, "the key has no value") (by decide +kernel)
      exact tn_throw (text := "the key has no value") (names := ["java/lang/Exception"]) hx hb hlt hown (by decide +kernel) (by decide +kernel) (by decide +kernel) (by decide +kernel) (by decide +kernel) (by decide +kernel) (by decide +kernel) (hg _ tw_542) (hg _ tw_20) hsa (ta_NSE hg hKn) ta_NSE_o hZ.1 hZ.2 hS (hl.1.trans hml.symm) d_EP_at_57 d_EP_at_60 d_EP_at_61 d_EP_at_63 d_EP_at_66 (fun x h => (hno x h).elim) (Nat.le_of_ble_eq_true rfl) (Nat.le_of_ble_eq_true rfl) (Nat.le_of_ble_eq_true rfl) (Nat.le_of_ble_eq_true rfl) hlocks (fun t9 hv h1 h2 => ⟨by show (3 : Nat) ≠ 0; decide, rfl, F_ext hS h1 h2, ⟨_, _, _, _, _, wo_kx hQ h2⟩⟩) hS.2.2 (Nat.le_of_ble_eq_true rfl) (Nat.le_of_ble_eq_true rfl)
  · rw [if_neg hc1] at hR
    subst hR
    refine ep_callX (E := E_IAE) (vx_runS (As := [.int t]) (rest := []) ⟨hx, hb, hml, hown, hg⟩ (m_EP_checkMoment_x l hlt D cI cJ cZ cO t hc1) (ep_cwS 1 hg tw_340 tw_341 tw_1 tk_EP_checkMoment rfl rfl (by decide +kernel) ⟨(Nat.le_of_ble_eq_true rfl), (Nat.le_of_ble_eq_true rfl)⟩) ⟨ep_blindX, ep_preX hKn (Zs.kept hZ hS (fun q h => h.elim)) (trivial)⟩ rfl rfl hl.1 rfl (lv_room (Nat.le_of_ble_eq_true rfl)) d_EP_at_1 ⟨(Nat.le_of_ble_eq_true rfl), (Nat.le_of_ble_eq_true rfl)⟩) hS (fun q h => h.elim) (fun ce q9 H1 locs1 hz1 hk1 hS1 hce hcv hcl => ?_)
    exact vx_out (fun x h => (hno x h).elim) hlocks hce hcv hcl (fun t9 ht hv => ⟨by show (1 : Nat) ≠ 0; decide, rfl, hS1.F ht, ⟨_, _, _, _, _, by rw [ht]; exact wo_kx hQ (fun q h => hk1 q h (fun z => z))⟩⟩) hS1.2.2 (Nat.le_of_ble_eq_true rfl) (Nat.le_of_ble_eq_true rfl)

def f_EP_least_b (t : Int32) : Nat × Int32 := if okM t then ((1, 0)) else ((1, 0))

set_option maxHeartbeats 4000000 in
set_option maxRecDepth 100000 in
theorem m_EP_least_b (l : Launch) (hlt : l.stackTraces = false) (D : va_G) (cI cJ cZ cO : ClassId) (o : Nat) (id : Int32) (t : Int32) (x : Int32) (hid : ¬ okI id) (R : Nat × Int32) (hR : f_EP_least_b t = R) : vx_Met l y_EP_least (k_EP_least :: gt) rx_EP_least (PcX D cI cJ cZ cO (fun _ => False) [.ref o, .int id, .int t, .int x] (fun H => va_P D cls (wEP cO o) H)) (Qt R.1 (fun _ => False) (some (.int R.2)) (fun H => True)) (Xt R.1 E_IOB (fun _ => False) (fun H => True)) 1 6 (fun _ => False) := by
  refine vx_ofW (cc := c_EP_least) (maxL := 5) (ret := (Option.some FieldType.int)) (by decide) rfl ?_
  intro p e s m args below meth c s₁ B hml hno hv
  obtain ⟨rfl, hKn, hZ, hE⟩ := hv
  have hx := B.exec
  have hb := B.bytes
  have hr := B.returns
  have hts := atoms_spec (ws := k_EP_least :: gt) B.pre
  have hg : ∀ w ∈ gt, w.before _ s = true := fun w h => hts w (List.mem_cons_of_mem _ h)
  have hown : s.vm.findClass R_EP = some m.cls := findClass_of_methodNamed B.named
  have hlocks := B.notSynchronized
  have hK := hKn.1
  have hl := lv_entry ([.ref o, .int id, .int t, .int x]) (n := 5) (Nat.le_of_ble_eq_true rfl)
  rw [lg_entry_eq]
  generalize (lg_sl ([.ref o, .int id, .int t, .int x]) ++ List.replicate (5 - (lg_sl ([.ref o, .int id, .int t, .int x])).length) Slot.unset).toArray = ls at hl ⊢
  have hl : lv_has ls 5 [(0, .ref o), (1, .int id), (2, .int t), (3, .int x)] := hl
  have hS : va_S (fun _ => False) s.heap s.heap [] := va_S.rf
  have hR : (if okM t then ((1, 0)) else ((1, 0))) = R := hR
  refine lv_iload_n hx hb d_EP_least_0 rfl (lv_at hl 2 rfl) ?_
  by_cases hc1 : okM t
  · refine ep_callP (W.runS (As := [.int t]) (rest := []) ⟨hx, hb, hml, hown, hg⟩ (m_EP_checkMoment_ok l D cI cJ cZ cO t hc1) (ep_cwS 1 hg tw_340 tw_341 tw_1 tk_EP_checkMoment rfl rfl (by decide +kernel) ⟨(Nat.le_of_ble_eq_true rfl), (Nat.le_of_ble_eq_true rfl)⟩) ⟨ep_blind, ep_pre hKn (trivial)⟩ rfl rfl hl.1 rfl (lv_room (Nat.le_of_ble_eq_true rfl)) d_EP_least_1 ⟨Nat.zero_le _, Nat.zero_le _⟩) ?_
    refine W.eq (g2 := F0 m 4 ls []) rfl ?_
    refine lv_aload_n hx hb d_EP_least_4 rfl (lv_at hl 0 rfl) ?_
    refine lv_iload_n hx hb d_EP_least_5 rfl (lv_at hl 1 rfl) ?_
    rw [if_pos hc1] at hR
    subst hR
    refine ep_callX (E := E_IAE) (vx_runV (As := [.int id]) (rest := []) ⟨hx, hb, hml, hown, hg⟩ (m_EP_openCollection_b l hlt D cI cJ cZ cO o id hid) (ep_cwV 1 hg tw_327 tw_329 ts_2 tw_1 tk_EP_openCollection rfl rfl (by decide +kernel) ⟨(Nat.le_of_ble_eq_true rfl), (Nat.le_of_ble_eq_true rfl)⟩) ⟨ep_blindX, va_recv (q0 := 0) (ci := 8) hK hE rfl rfl, ep_preX hKn (Zs.kept hZ hS (fun q h => h.elim)) (hE)⟩ rfl rfl hl.1 rfl (lv_room (Nat.le_of_ble_eq_true rfl)) d_EP_least_6 ⟨(Nat.le_of_ble_eq_true rfl), (Nat.le_of_ble_eq_true rfl)⟩) hS (fun q h => h.elim) (fun ce q9 H1 locs1 hz1 hk1 hS1 hce hcv hcl => ?_)
    exact vx_out (fun x h => (hno x h).elim) hlocks hce hcv hcl (fun t9 ht hv => ⟨by show (1 : Nat) ≠ 0; decide, rfl, hS1.F ht, trivial⟩) hS1.2.2 (Nat.le_of_ble_eq_true rfl) (Nat.le_of_ble_eq_true rfl)
  · rw [if_neg hc1] at hR
    subst hR
    refine ep_callX (E := E_IAE) (vx_runS (As := [.int t]) (rest := []) ⟨hx, hb, hml, hown, hg⟩ (m_EP_checkMoment_x l hlt D cI cJ cZ cO t hc1) (ep_cwS 1 hg tw_340 tw_341 tw_1 tk_EP_checkMoment rfl rfl (by decide +kernel) ⟨(Nat.le_of_ble_eq_true rfl), (Nat.le_of_ble_eq_true rfl)⟩) ⟨ep_blindX, ep_preX hKn (Zs.kept hZ hS (fun q h => h.elim)) (trivial)⟩ rfl rfl hl.1 rfl (lv_room (Nat.le_of_ble_eq_true rfl)) d_EP_least_1 ⟨(Nat.le_of_ble_eq_true rfl), (Nat.le_of_ble_eq_true rfl)⟩) hS (fun q h => h.elim) (fun ce q9 H1 locs1 hz1 hk1 hS1 hce hcv hcl => ?_)
    exact vx_out (fun x h => (hno x h).elim) hlocks hce hcv hcl (fun t9 ht hv => ⟨by show (1 : Nat) ≠ 0; decide, rfl, hS1.F ht, trivial⟩) hS1.2.2 (Nat.le_of_ble_eq_true rfl) (Nat.le_of_ble_eq_true rfl)

def f_EP_least_c (t : Int32) : Nat × Int32 := if okM t then ((2, 0)) else ((1, 0))

set_option maxHeartbeats 4000000 in
set_option maxRecDepth 100000 in
theorem m_EP_least_c (l : Launch) (hlt : l.stackTraces = false) (D : va_G) (cI cJ cZ cO : ClassId) (o : Nat) (j : Nat) (t : Int32) (x : Int32) (hj : j < 4) (R : Nat × Int32) (hR : f_EP_least_c t = R) : vx_Met l y_EP_least (k_EP_least :: gt) rx_EP_least (PcX D cI cJ cZ cO (fun _ => False) [.ref o, .int (nI j), .int t, .int x] (fun H => va_P D cls (wEP cO o) H ∧ va_P D cls (wCo (o + 2 + 15 * j) (-1)) H)) (Qt R.1 (fun _ => False) (some (.int R.2)) (fun H => True)) (Xt R.1 E_IOB (fun _ => False) (fun H => True)) 1 6 (fun _ => False) := by
  refine vx_ofW (cc := c_EP_least) (maxL := 5) (ret := (Option.some FieldType.int)) (by decide) rfl ?_
  intro p e s m args below meth c s₁ B hml hno hv
  obtain ⟨rfl, hKn, hZ, hE, hC⟩ := hv
  have hx := B.exec
  have hb := B.bytes
  have hr := B.returns
  have hts := atoms_spec (ws := k_EP_least :: gt) B.pre
  have hg : ∀ w ∈ gt, w.before _ s = true := fun w h => hts w (List.mem_cons_of_mem _ h)
  have hown : s.vm.findClass R_EP = some m.cls := findClass_of_methodNamed B.named
  have hlocks := B.notSynchronized
  have hK := hKn.1
  have hl := lv_entry ([.ref o, .int (nI j), .int t, .int x]) (n := 5) (Nat.le_of_ble_eq_true rfl)
  rw [lg_entry_eq]
  generalize (lg_sl ([.ref o, .int (nI j), .int t, .int x]) ++ List.replicate (5 - (lg_sl ([.ref o, .int (nI j), .int t, .int x])).length) Slot.unset).toArray = ls at hl ⊢
  have hl : lv_has ls 5 [(0, .ref o), (1, .int (nI j)), (2, .int t), (3, .int x)] := hl
  have hS : va_S (fun _ => False) s.heap s.heap [] := va_S.rf
  have hR : (if okM t then ((2, 0)) else ((1, 0))) = R := hR
  refine lv_iload_n hx hb d_EP_least_0 rfl (lv_at hl 2 rfl) ?_
  by_cases hc1 : okM t
  · refine ep_callP (W.runS (As := [.int t]) (rest := []) ⟨hx, hb, hml, hown, hg⟩ (m_EP_checkMoment_ok l D cI cJ cZ cO t hc1) (ep_cwS 1 hg tw_340 tw_341 tw_1 tk_EP_checkMoment rfl rfl (by decide +kernel) ⟨(Nat.le_of_ble_eq_true rfl), (Nat.le_of_ble_eq_true rfl)⟩) ⟨ep_blind, ep_pre hKn (trivial)⟩ rfl rfl hl.1 rfl (lv_room (Nat.le_of_ble_eq_true rfl)) d_EP_least_1 ⟨Nat.zero_le _, Nat.zero_le _⟩) ?_
    refine W.eq (g2 := F0 m 4 ls []) rfl ?_
    refine lv_aload_n hx hb d_EP_least_4 rfl (lv_at hl 0 rfl) ?_
    refine lv_iload_n hx hb d_EP_least_5 rfl (lv_at hl 1 rfl) ?_
    rw [if_pos hc1] at hR
    subst hR
    refine ep_callX (E := E_ISE) (vx_runV (As := [.int (nI j)]) (rest := []) ⟨hx, hb, hml, hown, hg⟩ (m_EP_openCollection_c l hlt D cI cJ cZ cO o j (by omega)) (ep_cwV 1 hg tw_327 tw_329 ts_2 tw_1 tk_EP_openCollection rfl rfl (by decide +kernel) ⟨(Nat.le_of_ble_eq_true rfl), (Nat.le_of_ble_eq_true rfl)⟩) ⟨ep_blindX, va_recv (q0 := 0) (ci := 8) hK hE rfl rfl, ep_preX hKn (Zs.kept hZ hS (fun q h => h.elim)) (⟨hE, hC⟩)⟩ rfl rfl hl.1 rfl (lv_room (Nat.le_of_ble_eq_true rfl)) d_EP_least_6 ⟨(Nat.le_of_ble_eq_true rfl), (Nat.le_of_ble_eq_true rfl)⟩) hS (fun q h => h.elim) (fun ce q9 H1 locs1 hz1 hk1 hS1 hce hcv hcl => ?_)
    exact vx_out (fun x h => (hno x h).elim) hlocks hce hcv hcl (fun t9 ht hv => ⟨by show (2 : Nat) ≠ 0; decide, rfl, hS1.F ht, trivial⟩) hS1.2.2 (Nat.le_of_ble_eq_true rfl) (Nat.le_of_ble_eq_true rfl)
  · rw [if_neg hc1] at hR
    subst hR
    refine ep_callX (E := E_IAE) (vx_runS (As := [.int t]) (rest := []) ⟨hx, hb, hml, hown, hg⟩ (m_EP_checkMoment_x l hlt D cI cJ cZ cO t hc1) (ep_cwS 1 hg tw_340 tw_341 tw_1 tk_EP_checkMoment rfl rfl (by decide +kernel) ⟨(Nat.le_of_ble_eq_true rfl), (Nat.le_of_ble_eq_true rfl)⟩) ⟨ep_blindX, ep_preX hKn (Zs.kept hZ hS (fun q h => h.elim)) (trivial)⟩ rfl rfl hl.1 rfl (lv_room (Nat.le_of_ble_eq_true rfl)) d_EP_least_1 ⟨(Nat.le_of_ble_eq_true rfl), (Nat.le_of_ble_eq_true rfl)⟩) hS (fun q h => h.elim) (fun ce q9 H1 locs1 hz1 hk1 hS1 hce hcv hcl => ?_)
    exact vx_out (fun x h => (hno x h).elim) hlocks hce hcv hcl (fun t9 ht hv => ⟨by show (1 : Nat) ≠ 0; decide, rfl, hS1.F ht, trivial⟩) hS1.2.2 (Nat.le_of_ble_eq_true rfl) (Nat.le_of_ble_eq_true rfl)

def f_EP_least_w (t : Int32) : Nat × Int32 := if okM t then ((2, 0)) else ((1, 0))

set_option maxHeartbeats 4000000 in
set_option maxRecDepth 100000 in
theorem m_EP_least_w (l : Launch) (hlt : l.stackTraces = false) (D : va_G) (cI cJ cZ cO : ClassId) (o : Nat) (j : Nat) (kd : Int32) (t : Int32) (x : Int32) (hj : j < 4) (hkd : ¬ kd = -1) (hk0 : ¬ kd = 3) (R : Nat × Int32) (hR : f_EP_least_w t = R) : vx_Met l y_EP_least (k_EP_least :: gt) rx_EP_least (PcX D cI cJ cZ cO (fun _ => False) [.ref o, .int (nI j), .int t, .int x] (fun H => va_P D cls (wEP cO o) H ∧ va_P D cls (wCo (o + 2 + 15 * j) kd) H)) (Qt R.1 (fun _ => False) (some (.int R.2)) (fun H => True)) (Xt R.1 E_IOB (fun _ => False) (fun H => True)) 1 6 (fun _ => False) := by
  refine vx_ofW (cc := c_EP_least) (maxL := 5) (ret := (Option.some FieldType.int)) (by decide) rfl ?_
  intro p e s m args below meth c s₁ B hml hno hv
  obtain ⟨rfl, hKn, hZ, hE, hC⟩ := hv
  have hx := B.exec
  have hb := B.bytes
  have hr := B.returns
  have hts := atoms_spec (ws := k_EP_least :: gt) B.pre
  have hg : ∀ w ∈ gt, w.before _ s = true := fun w h => hts w (List.mem_cons_of_mem _ h)
  have hown : s.vm.findClass R_EP = some m.cls := findClass_of_methodNamed B.named
  have hlocks := B.notSynchronized
  have hK := hKn.1
  have hl := lv_entry ([.ref o, .int (nI j), .int t, .int x]) (n := 5) (Nat.le_of_ble_eq_true rfl)
  rw [lg_entry_eq]
  generalize (lg_sl ([.ref o, .int (nI j), .int t, .int x]) ++ List.replicate (5 - (lg_sl ([.ref o, .int (nI j), .int t, .int x])).length) Slot.unset).toArray = ls at hl ⊢
  have hl : lv_has ls 5 [(0, .ref o), (1, .int (nI j)), (2, .int t), (3, .int x)] := hl
  have hS : va_S (fun _ => False) s.heap s.heap [] := va_S.rf
  have hR : (if okM t then ((2, 0)) else ((1, 0))) = R := hR
  refine lv_iload_n hx hb d_EP_least_0 rfl (lv_at hl 2 rfl) ?_
  by_cases hc1 : okM t
  · refine ep_callP (W.runS (As := [.int t]) (rest := []) ⟨hx, hb, hml, hown, hg⟩ (m_EP_checkMoment_ok l D cI cJ cZ cO t hc1) (ep_cwS 1 hg tw_340 tw_341 tw_1 tk_EP_checkMoment rfl rfl (by decide +kernel) ⟨(Nat.le_of_ble_eq_true rfl), (Nat.le_of_ble_eq_true rfl)⟩) ⟨ep_blind, ep_pre hKn (trivial)⟩ rfl rfl hl.1 rfl (lv_room (Nat.le_of_ble_eq_true rfl)) d_EP_least_1 ⟨Nat.zero_le _, Nat.zero_le _⟩) ?_
    refine W.eq (g2 := F0 m 4 ls []) rfl ?_
    refine lv_aload_n hx hb d_EP_least_4 rfl (lv_at hl 0 rfl) ?_
    refine lv_iload_n hx hb d_EP_least_5 rfl (lv_at hl 1 rfl) ?_
    refine ep_callP (W.runV (As := [.int (nI j)]) (rest := []) ⟨hx, hb, hml, hown, hg⟩ (m_EP_openCollection_ok l D cI cJ cZ cO o j kd (by omega) hkd) (ep_cwV 1 hg tw_327 tw_329 ts_2 tw_1 tk_EP_openCollection rfl rfl (by decide +kernel) ⟨(Nat.le_of_ble_eq_true rfl), (Nat.le_of_ble_eq_true rfl)⟩) ⟨ep_blind, va_recv (q0 := 0) (ci := 8) hK hE rfl rfl, ep_pre hKn (⟨hE, hC⟩)⟩ rfl rfl hl.1 rfl (lv_room (Nat.le_of_ble_eq_true rfl)) d_EP_least_6 ⟨Nat.zero_le _, Nat.zero_le _⟩) ?_
    refine W.eq (g2 := F0 m 9 ls [.ref (o + 2 + 15 * j)]) rfl ?_
    refine lv_astore (lv' := [(4, .ref (o + 2 + 15 * j)), (0, .ref o), (1, .int (nI j)), (2, .int t), (3, .int x)]) hx hb d_EP_least_9 hl (by decide) rfl (fun ls hl => ?_)
    refine lv_aload hx hb d_EP_least_11 (lv_at hl 0 rfl) ?_
    refine va_get (D := D) (ci := 0) (v := .int kd) (C := R_Co) (T := F_Co) (N := 3) hx hb hg in_Co hown hK hC 0 rfl rfl 0 (Nat.le_of_ble_eq_true rfl) (hg _ tw_76) (fun _ h9 => h9) rfl d_EP_least_13 ?_
    refine lv_iconst (v := 3) hx hb d_EP_least_16 (by decide) ?_
    refine lv_icmp_ne (tgt := 24) hx hb d_EP_least_17 (by decide) (fun hc => ?_) (fun hc => absurd hc hk0)
    refine lv_iconst (v := 0) hx hb d_EP_least_24 (by decide) ?_
    rw [if_pos hc1] at hR
    subst hR
    refine ep_callX (E := E_ISE) (vx_runS (As := [.int 0]) (rest := []) ⟨hx, hb, hml, hown, hg⟩ (m_EP_checkKind_0 l hlt D cI cJ cZ cO) (ep_cwS 1 hg tw_571 tw_572 tw_1 tk_EP_checkKind rfl rfl (by decide +kernel) ⟨(Nat.le_of_ble_eq_true rfl), (Nat.le_of_ble_eq_true rfl)⟩) ⟨ep_blindX, ep_preX hKn (Zs.kept hZ hS (fun q h => h.elim)) (trivial)⟩ rfl rfl hl.1 rfl (lv_room (Nat.le_of_ble_eq_true rfl)) d_EP_least_25 ⟨(Nat.le_of_ble_eq_true rfl), (Nat.le_of_ble_eq_true rfl)⟩) hS (fun q h => h.elim) (fun ce q9 H1 locs1 hz1 hk1 hS1 hce hcv hcl => ?_)
    exact vx_out (fun x h => (hno x h).elim) hlocks hce hcv hcl (fun t9 ht hv => ⟨by show (2 : Nat) ≠ 0; decide, rfl, hS1.F ht, trivial⟩) hS1.2.2 (Nat.le_of_ble_eq_true rfl) (Nat.le_of_ble_eq_true rfl)
  · rw [if_neg hc1] at hR
    subst hR
    refine ep_callX (E := E_IAE) (vx_runS (As := [.int t]) (rest := []) ⟨hx, hb, hml, hown, hg⟩ (m_EP_checkMoment_x l hlt D cI cJ cZ cO t hc1) (ep_cwS 1 hg tw_340 tw_341 tw_1 tk_EP_checkMoment rfl rfl (by decide +kernel) ⟨(Nat.le_of_ble_eq_true rfl), (Nat.le_of_ble_eq_true rfl)⟩) ⟨ep_blindX, ep_preX hKn (Zs.kept hZ hS (fun q h => h.elim)) (trivial)⟩ rfl rfl hl.1 rfl (lv_room (Nat.le_of_ble_eq_true rfl)) d_EP_least_1 ⟨(Nat.le_of_ble_eq_true rfl), (Nat.le_of_ble_eq_true rfl)⟩) hS (fun q h => h.elim) (fun ce q9 H1 locs1 hz1 hk1 hS1 hce hcv hcl => ?_)
    exact vx_out (fun x h => (hno x h).elim) hlocks hce hcv hcl (fun t9 ht hv => ⟨by show (1 : Nat) ≠ 0; decide, rfl, hS1.F ht, trivial⟩) hS1.2.2 (Nat.le_of_ble_eq_true rfl) (Nat.le_of_ble_eq_true rfl)

def f_EP_least_3m (t : Int32) : Nat × Int32 := if okM t then ((3, 0)) else ((1, 0))

set_option maxHeartbeats 4000000 in
set_option maxRecDepth 100000 in
theorem m_EP_least_3m (l : Launch) (hlt : l.stackTraces = false) (D : va_G) (cI cJ cZ cO : ClassId) (o : Nat) (j : Nat) (n : Nat) (mo : Nat → Int32) (na : Nat → Int32) (aa : Nat → Int32) (bb : Nat → Int32) (re : Nat → Int64) (ef : Nat → Int32) (qn : Nat) (qv : Nat → Int32) (qr : Int64) (qf : Int32) (t : Int32) (x : Int32) (hj : j < 4) (hn : n ≤ 32) (hx3 : x < 0) (R : Nat × Int32) (hR : f_EP_least_3m t = R) : vx_Met l y_EP_least (k_EP_least :: gt) rx_EP_least (PcX D cI cJ cZ cO (fun q => blk (o + 69) 2 q) [.ref o, .int (nI j), .int t, .int x] (fun H => va_P D cls (wEP cO o) H ∧ va_P D cls (wCo (o + 2 + 15 * j) 3) H ∧ va_P D cls (wLi cI cJ cZ (o + 2 + 15 * j + 1) n mo na aa bb re ef) H ∧ va_P D cls (wBa cI 4 (o + 69) qn qv qr qf) H)) (Qt R.1 (fun q => blk (o + 69) 2 q) (some (.int R.2)) (fun H => (∃ (qn : Nat) (qv : Nat → Int32) (qr : Int64) (qf : Int32), va_P D cls (wBa cI 4 (o + 69) qn qv qr qf) H))) (Xt R.1 E_IOB (fun q => blk (o + 69) 2 q) (fun H => (∃ (qn : Nat) (qv : Nat → Int32) (qr : Int64) (qf : Int32), va_P D cls (wBa cI 4 (o + 69) qn qv qr qf) H))) 1 6 (fun q => blk (o + 69) 2 q) := by
  refine vx_ofW (cc := c_EP_least) (maxL := 5) (ret := (Option.some FieldType.int)) (by decide) rfl ?_
  intro p e s m args below meth c s₁ B hml hno hv
  obtain ⟨rfl, hKn, hZ, hE, hC, hN, hQ⟩ := hv
  have hx := B.exec
  have hb := B.bytes
  have hr := B.returns
  have hts := atoms_spec (ws := k_EP_least :: gt) B.pre
  have hg : ∀ w ∈ gt, w.before _ s = true := fun w h => hts w (List.mem_cons_of_mem _ h)
  have hown : s.vm.findClass R_EP = some m.cls := findClass_of_methodNamed B.named
  have hlocks := B.notSynchronized
  have hK := hKn.1
  have hl := lv_entry ([.ref o, .int (nI j), .int t, .int x]) (n := 5) (Nat.le_of_ble_eq_true rfl)
  rw [lg_entry_eq]
  generalize (lg_sl ([.ref o, .int (nI j), .int t, .int x]) ++ List.replicate (5 - (lg_sl ([.ref o, .int (nI j), .int t, .int x])).length) Slot.unset).toArray = ls at hl ⊢
  have hl : lv_has ls 5 [(0, .ref o), (1, .int (nI j)), (2, .int t), (3, .int x)] := hl
  have hS : va_S (fun q => blk (o + 69) 2 q) s.heap s.heap [] := va_S.rf
  have hR : (if okM t then ((3, 0)) else ((1, 0))) = R := hR
  refine lv_iload_n hx hb d_EP_least_0 rfl (lv_at hl 2 rfl) ?_
  by_cases hc1 : okM t
  · refine ep_callP (W.runS (As := [.int t]) (rest := []) ⟨hx, hb, hml, hown, hg⟩ (m_EP_checkMoment_ok l D cI cJ cZ cO t hc1) (ep_cwS 1 hg tw_340 tw_341 tw_1 tk_EP_checkMoment rfl rfl (by decide +kernel) ⟨(Nat.le_of_ble_eq_true rfl), (Nat.le_of_ble_eq_true rfl)⟩) ⟨ep_blind, ep_pre hKn (trivial)⟩ rfl rfl hl.1 rfl (lv_room (Nat.le_of_ble_eq_true rfl)) d_EP_least_1 ⟨Nat.zero_le _, Nat.zero_le _⟩) ?_
    refine W.eq (g2 := F0 m 4 ls []) rfl ?_
    refine lv_aload_n hx hb d_EP_least_4 rfl (lv_at hl 0 rfl) ?_
    refine lv_iload_n hx hb d_EP_least_5 rfl (lv_at hl 1 rfl) ?_
    refine ep_callP (W.runV (As := [.int (nI j)]) (rest := []) ⟨hx, hb, hml, hown, hg⟩ (m_EP_openCollection_ok l D cI cJ cZ cO o j 3 (by omega) (by decide)) (ep_cwV 1 hg tw_327 tw_329 ts_2 tw_1 tk_EP_openCollection rfl rfl (by decide +kernel) ⟨(Nat.le_of_ble_eq_true rfl), (Nat.le_of_ble_eq_true rfl)⟩) ⟨ep_blind, va_recv (q0 := 0) (ci := 8) hK hE rfl rfl, ep_pre hKn (⟨hE, hC⟩)⟩ rfl rfl hl.1 rfl (lv_room (Nat.le_of_ble_eq_true rfl)) d_EP_least_6 ⟨Nat.zero_le _, Nat.zero_le _⟩) ?_
    refine W.eq (g2 := F0 m 9 ls [.ref (o + 2 + 15 * j)]) rfl ?_
    refine lv_astore (lv' := [(4, .ref (o + 2 + 15 * j)), (0, .ref o), (1, .int (nI j)), (2, .int t), (3, .int x)]) hx hb d_EP_least_9 hl (by decide) rfl (fun ls hl => ?_)
    refine lv_aload hx hb d_EP_least_11 (lv_at hl 0 rfl) ?_
    refine va_get (D := D) (ci := 0) (v := .int 3) (C := R_Co) (T := F_Co) (N := 3) hx hb hg in_Co hown hK hC 0 rfl rfl 0 (Nat.le_of_ble_eq_true rfl) (hg _ tw_76) (fun _ h9 => h9) rfl d_EP_least_13 ?_
    refine lv_iconst (v := 3) hx hb d_EP_least_16 (by decide) ?_
    refine lv_icmp_ne (tgt := 24) hx hb d_EP_least_17 (by decide) (fun hc => False.elim (by revert hc; decide)) (fun hc => ?_)
    refine lv_iconst (v := 1) hx hb d_EP_least_20 (by decide) ?_
    refine lv_goto (tgt := 25) hx hb d_EP_least_21 (by decide) ?_
    refine ep_callP (W.runS (As := [.int 1]) (rest := []) ⟨hx, hb, hml, hown, hg⟩ (m_EP_checkKind_1 l D cI cJ cZ cO) (ep_cwS 1 hg tw_571 tw_572 tw_1 tk_EP_checkKind rfl rfl (by decide +kernel) ⟨(Nat.le_of_ble_eq_true rfl), (Nat.le_of_ble_eq_true rfl)⟩) ⟨ep_blind, ep_pre hKn (trivial)⟩ rfl rfl hl.1 rfl (lv_room (Nat.le_of_ble_eq_true rfl)) d_EP_least_25 ⟨Nat.zero_le _, Nat.zero_le _⟩) ?_
    refine W.eq (g2 := F0 m 28 ls []) rfl ?_
    refine lv_aload hx hb d_EP_least_28 (lv_at hl 0 rfl) ?_
    refine va_get (D := D) (ci := 0) (v := .ref (o + 2 + 15 * j + 1)) (C := R_Co) (T := F_Co) (N := 3) hx hb hg in_Co hown hK hC 0 rfl rfl 1 (Nat.le_of_ble_eq_true rfl) (hg _ tw_78) (fun _ h9 => h9) rfl d_EP_least_30 ?_
    refine lv_iload_n hx hb d_EP_least_33 rfl (lv_at hl 3 rfl) ?_
    refine lv_aload_n hx hb d_EP_least_34 rfl (lv_at hl 1 rfl) ?_
    refine va_get (D := D) (ci := 8) (v := .ref (o + 69)) (C := R_EP) (T := F_EP) (N := 7) hx hb hg in_EP hown hK hE 0 rfl rfl 4 (Nat.le_of_ble_eq_true rfl) (hg _ tw_202) (fun _ h9 => h9) rfl d_EP_least_35 ?_
    refine ep_callH (W.runV (As := [.int t, .ref (o + 69)]) (rest := []) ⟨hx, hb, hml, hown, hg⟩ (m_Li_runUpTo_He l D cI cJ cZ cO (o + 2 + 15 * j + 1) n mo na aa bb re ef (o + 69) qn qv qr qf t (by omega) (by omega) _ rfl) (ep_cwV 2 hg tw_575 tw_576 tw_577 tw_3 tk_Li_runUpTo rfl rfl (by decide +kernel) ⟨(Nat.le_of_ble_eq_true rfl), (Nat.le_of_ble_eq_true rfl)⟩) ⟨ep_blind, va_recv (q0 := 0) (ci := 1) hK hN rfl rfl, ep_pre hKn (hN.app hQ)⟩ rfl rfl hl.1 rfl (lv_room (Nat.le_of_ble_eq_true rfl)) d_EP_least_38 ⟨Nat.zero_le _, Nat.zero_le _⟩) hS ((by intro q h; simp only [blk] at h ⊢; omega)) (fun H locs hsz9 hk1 hP1 hS => ?_)
    refine W.eq (g2 := F0 m 41 ls []) rfl ?_
    have hE := wo_kc hE hk1 (off_in (rng_of wEP_in) (by intro q h1 h2 h3; simp only [blk] at h3; omega))
    have hC := wo_kc hC hk1 (off_in (rng_of wCo_in) (by intro q h1 h2 h3; simp only [blk] at h3; omega))
    have hN : va_P D cls (wLi cI cJ cZ (o + 2 + 15 * j + 1) n mo na aa bb re ef) H := wo_l hP1
    have hQ : va_P D cls (wBa cI 4 (o + 69) ((rut (fun nm x _ => bgS 4 nm x) mo na aa bb t n 0 ((0, qv), qr, qf)).1.1) ((rut (fun nm x _ => bgS 4 nm x) mo na aa bb t n 0 ((0, qv), qr, qf)).1.2) ((rut (fun nm x _ => bgS 4 nm x) mo na aa bb t n 0 ((0, qv), qr, qf)).2.1) ((rut (fun nm x _ => bgS 4 nm x) mo na aa bb t n 0 ((0, qv), qr, qf)).2.2)) H := wo_r hP1
    have hm9 : (rut (fun nm x _ => bgS 4 nm x) mo na aa bb t n 0 ((0, qv), qr, qf)).1.1 ≤ n := rut_le_3
    refine lv_iload_n hx hb d_EP_least_41 rfl (lv_at hl 4 rfl) ?_
    refine lv_if_lt (tgt := 56) hx hb d_EP_least_42 (by decide) (fun hc => ?_) (fun hc => absurd hx3 hc)
    rw [if_pos hc1] at hR
    subst hR
    obtain ⟨sa, hsa⟩ := hKn.2.2.2.2.2 ("EditablePast", 175, "there are not so many values") (by decide +kernel)
    exact vx_throwS (text := "there are not so many values") (names := th_n) hx hb hlt hown (by decide +kernel) (by decide +kernel) (hg _ tw_604) (hg _ tw_21) hsa (ta_IOB hg hKn) ta_IOB_o hZ.1 hZ.2 hS (hl.1.trans hml.symm) d_EP_least_56 d_EP_least_59 d_EP_least_60 d_EP_least_62 d_EP_least_65 (fun x h => (hno x h).elim) (Nat.le_of_ble_eq_true rfl) (Nat.le_of_ble_eq_true rfl) (Nat.le_of_ble_eq_true rfl) (Nat.le_of_ble_eq_true rfl) hlocks (fun t9 hv h1 h2 => ⟨by show (3 : Nat) ≠ 0; decide, rfl, F_ext hS h1 h2, ⟨_, _, _, _, wo_kx hQ h2⟩⟩) hS.2.2 (Nat.le_of_ble_eq_true rfl) (Nat.le_of_ble_eq_true rfl)
  · rw [if_neg hc1] at hR
    subst hR
    refine ep_callX (E := E_IAE) (vx_runS (As := [.int t]) (rest := []) ⟨hx, hb, hml, hown, hg⟩ (m_EP_checkMoment_x l hlt D cI cJ cZ cO t hc1) (ep_cwS 1 hg tw_340 tw_341 tw_1 tk_EP_checkMoment rfl rfl (by decide +kernel) ⟨(Nat.le_of_ble_eq_true rfl), (Nat.le_of_ble_eq_true rfl)⟩) ⟨ep_blindX, ep_preX hKn (Zs.kept hZ hS (fun q h => h.elim)) (trivial)⟩ rfl rfl hl.1 rfl (lv_room (Nat.le_of_ble_eq_true rfl)) d_EP_least_1 ⟨(Nat.le_of_ble_eq_true rfl), (Nat.le_of_ble_eq_true rfl)⟩) hS (fun q h => h.elim) (fun ce q9 H1 locs1 hz1 hk1 hS1 hce hcv hcl => ?_)
    exact vx_out (fun x h => (hno x h).elim) hlocks hce hcv hcl (fun t9 ht hv => ⟨by show (1 : Nat) ≠ 0; decide, rfl, hS1.F ht, ⟨_, _, _, _, by rw [ht]; exact wo_kx hQ (fun q h => hk1 q h (fun z => z))⟩⟩) hS1.2.2 (Nat.le_of_ble_eq_true rfl) (Nat.le_of_ble_eq_true rfl)

def f_EP_least_3 (n : Nat) (mo : Nat → Int32) (na : Nat → Int32) (aa : Nat → Int32) (bb : Nat → Int32) (qv : Nat → Int32) (qr : Int64) (qf : Int32) (t : Int32) (x9 : Nat) : Nat × Int32 := if okM t then (if x9 < (rut (fun nm x _ => bgS 4 nm x) mo na aa bb t n 0 ((0, qv), qr, qf)).1.1 then ((0, ((rut (fun nm x _ => bgS 4 nm x) mo na aa bb t n 0 ((0, qv), qr, qf)).1.2) x9)) else ((3, 0))) else ((1, 0))

set_option maxHeartbeats 4000000 in
set_option maxRecDepth 100000 in
theorem m_EP_least_3 (l : Launch) (hlt : l.stackTraces = false) (D : va_G) (cI cJ cZ cO : ClassId) (o : Nat) (j : Nat) (n : Nat) (mo : Nat → Int32) (na : Nat → Int32) (aa : Nat → Int32) (bb : Nat → Int32) (re : Nat → Int64) (ef : Nat → Int32) (qn : Nat) (qv : Nat → Int32) (qr : Int64) (qf : Int32) (t : Int32) (x9 : Nat) (hj : j < 4) (hn : n ≤ 32) (hx3 : x9 < 2 ^ 31) (R : Nat × Int32) (hR : f_EP_least_3 n mo na aa bb qv qr qf t x9 = R) : vx_Met l y_EP_least (k_EP_least :: gt) rx_EP_least (PcX D cI cJ cZ cO (fun q => blk (o + 69) 2 q) [.ref o, .int (nI j), .int t, .int (nI x9)] (fun H => va_P D cls (wEP cO o) H ∧ va_P D cls (wCo (o + 2 + 15 * j) 3) H ∧ va_P D cls (wLi cI cJ cZ (o + 2 + 15 * j + 1) n mo na aa bb re ef) H ∧ va_P D cls (wBa cI 4 (o + 69) qn qv qr qf) H)) (Qt R.1 (fun q => blk (o + 69) 2 q) (some (.int R.2)) (fun H => (∃ (qn : Nat) (qv : Nat → Int32) (qr : Int64) (qf : Int32), va_P D cls (wBa cI 4 (o + 69) qn qv qr qf) H))) (Xt R.1 E_IOB (fun q => blk (o + 69) 2 q) (fun H => (∃ (qn : Nat) (qv : Nat → Int32) (qr : Int64) (qf : Int32), va_P D cls (wBa cI 4 (o + 69) qn qv qr qf) H))) 1 6 (fun q => blk (o + 69) 2 q) := by
  refine vx_ofW (cc := c_EP_least) (maxL := 5) (ret := (Option.some FieldType.int)) (by decide) rfl ?_
  intro p e s m args below meth c s₁ B hml hno hv
  obtain ⟨rfl, hKn, hZ, hE, hC, hN, hQ⟩ := hv
  have hx := B.exec
  have hb := B.bytes
  have hr := B.returns
  have hts := atoms_spec (ws := k_EP_least :: gt) B.pre
  have hg : ∀ w ∈ gt, w.before _ s = true := fun w h => hts w (List.mem_cons_of_mem _ h)
  have hown : s.vm.findClass R_EP = some m.cls := findClass_of_methodNamed B.named
  have hlocks := B.notSynchronized
  have hK := hKn.1
  have hl := lv_entry ([.ref o, .int (nI j), .int t, .int (nI x9)]) (n := 5) (Nat.le_of_ble_eq_true rfl)
  rw [lg_entry_eq]
  generalize (lg_sl ([.ref o, .int (nI j), .int t, .int (nI x9)]) ++ List.replicate (5 - (lg_sl ([.ref o, .int (nI j), .int t, .int (nI x9)])).length) Slot.unset).toArray = ls at hl ⊢
  have hl : lv_has ls 5 [(0, .ref o), (1, .int (nI j)), (2, .int t), (3, .int (nI x9))] := hl
  have hS : va_S (fun q => blk (o + 69) 2 q) s.heap s.heap [] := va_S.rf
  have hR : (if okM t then (if x9 < (rut (fun nm x _ => bgS 4 nm x) mo na aa bb t n 0 ((0, qv), qr, qf)).1.1 then ((0, ((rut (fun nm x _ => bgS 4 nm x) mo na aa bb t n 0 ((0, qv), qr, qf)).1.2) x9)) else ((3, 0))) else ((1, 0))) = R := hR
  refine lv_iload_n hx hb d_EP_least_0 rfl (lv_at hl 2 rfl) ?_
  by_cases hc1 : okM t
  · refine ep_callP (W.runS (As := [.int t]) (rest := []) ⟨hx, hb, hml, hown, hg⟩ (m_EP_checkMoment_ok l D cI cJ cZ cO t hc1) (ep_cwS 1 hg tw_340 tw_341 tw_1 tk_EP_checkMoment rfl rfl (by decide +kernel) ⟨(Nat.le_of_ble_eq_true rfl), (Nat.le_of_ble_eq_true rfl)⟩) ⟨ep_blind, ep_pre hKn (trivial)⟩ rfl rfl hl.1 rfl (lv_room (Nat.le_of_ble_eq_true rfl)) d_EP_least_1 ⟨Nat.zero_le _, Nat.zero_le _⟩) ?_
    refine W.eq (g2 := F0 m 4 ls []) rfl ?_
    refine lv_aload_n hx hb d_EP_least_4 rfl (lv_at hl 0 rfl) ?_
    refine lv_iload_n hx hb d_EP_least_5 rfl (lv_at hl 1 rfl) ?_
    refine ep_callP (W.runV (As := [.int (nI j)]) (rest := []) ⟨hx, hb, hml, hown, hg⟩ (m_EP_openCollection_ok l D cI cJ cZ cO o j 3 (by omega) (by decide)) (ep_cwV 1 hg tw_327 tw_329 ts_2 tw_1 tk_EP_openCollection rfl rfl (by decide +kernel) ⟨(Nat.le_of_ble_eq_true rfl), (Nat.le_of_ble_eq_true rfl)⟩) ⟨ep_blind, va_recv (q0 := 0) (ci := 8) hK hE rfl rfl, ep_pre hKn (⟨hE, hC⟩)⟩ rfl rfl hl.1 rfl (lv_room (Nat.le_of_ble_eq_true rfl)) d_EP_least_6 ⟨Nat.zero_le _, Nat.zero_le _⟩) ?_
    refine W.eq (g2 := F0 m 9 ls [.ref (o + 2 + 15 * j)]) rfl ?_
    refine lv_astore (lv' := [(4, .ref (o + 2 + 15 * j)), (0, .ref o), (1, .int (nI j)), (2, .int t), (3, .int (nI x9))]) hx hb d_EP_least_9 hl (by decide) rfl (fun ls hl => ?_)
    refine lv_aload hx hb d_EP_least_11 (lv_at hl 0 rfl) ?_
    refine va_get (D := D) (ci := 0) (v := .int 3) (C := R_Co) (T := F_Co) (N := 3) hx hb hg in_Co hown hK hC 0 rfl rfl 0 (Nat.le_of_ble_eq_true rfl) (hg _ tw_76) (fun _ h9 => h9) rfl d_EP_least_13 ?_
    refine lv_iconst (v := 3) hx hb d_EP_least_16 (by decide) ?_
    refine lv_icmp_ne (tgt := 24) hx hb d_EP_least_17 (by decide) (fun hc => False.elim (by revert hc; decide)) (fun hc => ?_)
    refine lv_iconst (v := 1) hx hb d_EP_least_20 (by decide) ?_
    refine lv_goto (tgt := 25) hx hb d_EP_least_21 (by decide) ?_
    refine ep_callP (W.runS (As := [.int 1]) (rest := []) ⟨hx, hb, hml, hown, hg⟩ (m_EP_checkKind_1 l D cI cJ cZ cO) (ep_cwS 1 hg tw_571 tw_572 tw_1 tk_EP_checkKind rfl rfl (by decide +kernel) ⟨(Nat.le_of_ble_eq_true rfl), (Nat.le_of_ble_eq_true rfl)⟩) ⟨ep_blind, ep_pre hKn (trivial)⟩ rfl rfl hl.1 rfl (lv_room (Nat.le_of_ble_eq_true rfl)) d_EP_least_25 ⟨Nat.zero_le _, Nat.zero_le _⟩) ?_
    refine W.eq (g2 := F0 m 28 ls []) rfl ?_
    refine lv_aload hx hb d_EP_least_28 (lv_at hl 0 rfl) ?_
    refine va_get (D := D) (ci := 0) (v := .ref (o + 2 + 15 * j + 1)) (C := R_Co) (T := F_Co) (N := 3) hx hb hg in_Co hown hK hC 0 rfl rfl 1 (Nat.le_of_ble_eq_true rfl) (hg _ tw_78) (fun _ h9 => h9) rfl d_EP_least_30 ?_
    refine lv_iload_n hx hb d_EP_least_33 rfl (lv_at hl 3 rfl) ?_
    refine lv_aload_n hx hb d_EP_least_34 rfl (lv_at hl 1 rfl) ?_
    refine va_get (D := D) (ci := 8) (v := .ref (o + 69)) (C := R_EP) (T := F_EP) (N := 7) hx hb hg in_EP hown hK hE 0 rfl rfl 4 (Nat.le_of_ble_eq_true rfl) (hg _ tw_202) (fun _ h9 => h9) rfl d_EP_least_35 ?_
    refine ep_callH (W.runV (As := [.int t, .ref (o + 69)]) (rest := []) ⟨hx, hb, hml, hown, hg⟩ (m_Li_runUpTo_He l D cI cJ cZ cO (o + 2 + 15 * j + 1) n mo na aa bb re ef (o + 69) qn qv qr qf t (by omega) (by omega) _ rfl) (ep_cwV 2 hg tw_575 tw_576 tw_577 tw_3 tk_Li_runUpTo rfl rfl (by decide +kernel) ⟨(Nat.le_of_ble_eq_true rfl), (Nat.le_of_ble_eq_true rfl)⟩) ⟨ep_blind, va_recv (q0 := 0) (ci := 1) hK hN rfl rfl, ep_pre hKn (hN.app hQ)⟩ rfl rfl hl.1 rfl (lv_room (Nat.le_of_ble_eq_true rfl)) d_EP_least_38 ⟨Nat.zero_le _, Nat.zero_le _⟩) hS ((by intro q h; simp only [blk] at h ⊢; omega)) (fun H locs hsz9 hk1 hP1 hS => ?_)
    refine W.eq (g2 := F0 m 41 ls []) rfl ?_
    have hE := wo_kc hE hk1 (off_in (rng_of wEP_in) (by intro q h1 h2 h3; simp only [blk] at h3; omega))
    have hC := wo_kc hC hk1 (off_in (rng_of wCo_in) (by intro q h1 h2 h3; simp only [blk] at h3; omega))
    have hN : va_P D cls (wLi cI cJ cZ (o + 2 + 15 * j + 1) n mo na aa bb re ef) H := wo_l hP1
    have hQ : va_P D cls (wBa cI 4 (o + 69) ((rut (fun nm x _ => bgS 4 nm x) mo na aa bb t n 0 ((0, qv), qr, qf)).1.1) ((rut (fun nm x _ => bgS 4 nm x) mo na aa bb t n 0 ((0, qv), qr, qf)).1.2) ((rut (fun nm x _ => bgS 4 nm x) mo na aa bb t n 0 ((0, qv), qr, qf)).2.1) ((rut (fun nm x _ => bgS 4 nm x) mo na aa bb t n 0 ((0, qv), qr, qf)).2.2)) H := wo_r hP1
    have hm9 : (rut (fun nm x _ => bgS 4 nm x) mo na aa bb t n 0 ((0, qv), qr, qf)).1.1 ≤ n := rut_le_3
    refine lv_iload_n hx hb d_EP_least_41 rfl (lv_at hl 4 rfl) ?_
    refine lv_if_lt (tgt := 56) hx hb d_EP_least_42 (by decide) (fun hc => False.elim (by have hc := (nI_ltI (a := x9) (b := 0) (by omega) (by omega)).mp hc; omega)) (fun hc => ?_)
    refine lv_iload_n hx hb d_EP_least_45 rfl (lv_at hl 4 rfl) ?_
    refine lv_aload_n hx hb d_EP_least_46 rfl (lv_at hl 1 rfl) ?_
    refine va_get (D := D) (ci := 8) (v := .ref (o + 69)) (C := R_EP) (T := F_EP) (N := 7) hx hb hg in_EP hown hK hE 0 rfl rfl 4 (Nat.le_of_ble_eq_true rfl) (hg _ tw_202) (fun _ h9 => h9) rfl d_EP_least_47 ?_
    refine va_get (D := D) (ci := 4) (v := .int (nI ((rut (fun nm x _ => bgS 4 nm x) mo na aa bb t n 0 ((0, qv), qr, qf)).1.1))) (C := R_He) (T := F_He) (N := 4) hx hb hg in_He hown hK hQ 0 rfl rfl 1 (Nat.le_of_ble_eq_true rfl) (hg _ tw_117) (fun x9 h9 => u_same (hg _ tw_108) x9 h9) rfl d_EP_least_50 ?_
    refine lv_icmp_lt (tgt := 66) hx hb d_EP_least_53 (by decide) (fun hc2 => ?_) (fun hc2 => ?_)
    · have hc2 : x9 < (rut (fun nm x _ => bgS 4 nm x) mo na aa bb t n 0 ((0, qv), qr, qf)).1.1 := (nI_ltI (a := x9) (b := (rut (fun nm x _ => bgS 4 nm x) mo na aa bb t n 0 ((0, qv), qr, qf)).1.1) (by omega) (by omega)).mp hc2
      refine lv_aload_n hx hb d_EP_least_66 rfl (lv_at hl 1 rfl) ?_
      refine va_get (D := D) (ci := 8) (v := .ref (o + 69)) (C := R_EP) (T := F_EP) (N := 7) hx hb hg in_EP hown hK hE 0 rfl rfl 4 (Nat.le_of_ble_eq_true rfl) (hg _ tw_202) (fun _ h9 => h9) rfl d_EP_least_67 ?_
      refine va_get (D := D) (ci := 4) (v := .ref (o + 69 + 1)) (C := R_He) (T := F_He) (N := 4) hx hb hg in_He hown hK hQ 0 rfl rfl 0 (Nat.le_of_ble_eq_true rfl) (hg _ tw_104) (fun x9 h9 => u_same (hg _ tw_102) x9 h9) rfl d_EP_least_70 ?_
      refine lv_iload_n hx hb d_EP_least_73 rfl (lv_at hl 4 rfl) ?_
      refine ep_iald hx hb hK hQ 1 0 rfl rfl (i := x9) (by omega) (by decide) d_EP_least_74 ?_
      rw [if_pos hc1, if_pos hc2] at hR
      subst hR
      refine vx_ret ?_
      refine W.widen (k := 1) (n := 6) (Nat.le_of_ble_eq_true rfl) (Nat.le_of_ble_eq_true rfl) ?_
      exact W.iret (v := (((rut (fun nm x _ => bgS 4 nm x) mo na aa bb t n 0 ((0, qv), qr, qf)).1.2) x9)) hx hb hr (fun t9 ht hW => ⟨rfl, rfl, hS.F ht, ⟨_, _, _, _, by rw [ht]; exact hQ⟩⟩) hS.2.2 d_EP_least_75
    · have hc2 : ¬ (x9 < (rut (fun nm x _ => bgS 4 nm x) mo na aa bb t n 0 ((0, qv), qr, qf)).1.1) := fun h9 => hc2 ((nI_ltI (a := x9) (b := (rut (fun nm x _ => bgS 4 nm x) mo na aa bb t n 0 ((0, qv), qr, qf)).1.1) (by omega) (by omega)).mpr h9)
      rw [if_pos hc1, if_neg hc2] at hR
      subst hR
      obtain ⟨sa, hsa⟩ := hKn.2.2.2.2.2 ("EditablePast", 175, "there are not so many values") (by decide +kernel)
      exact vx_throwS (text := "there are not so many values") (names := th_n) hx hb hlt hown (by decide +kernel) (by decide +kernel) (hg _ tw_604) (hg _ tw_21) hsa (ta_IOB hg hKn) ta_IOB_o hZ.1 hZ.2 hS (hl.1.trans hml.symm) d_EP_least_56 d_EP_least_59 d_EP_least_60 d_EP_least_62 d_EP_least_65 (fun x h => (hno x h).elim) (Nat.le_of_ble_eq_true rfl) (Nat.le_of_ble_eq_true rfl) (Nat.le_of_ble_eq_true rfl) (Nat.le_of_ble_eq_true rfl) hlocks (fun t9 hv h1 h2 => ⟨by show (3 : Nat) ≠ 0; decide, rfl, F_ext hS h1 h2, ⟨_, _, _, _, wo_kx hQ h2⟩⟩) hS.2.2 (Nat.le_of_ble_eq_true rfl) (Nat.le_of_ble_eq_true rfl)
  · rw [if_neg hc1] at hR
    subst hR
    refine ep_callX (E := E_IAE) (vx_runS (As := [.int t]) (rest := []) ⟨hx, hb, hml, hown, hg⟩ (m_EP_checkMoment_x l hlt D cI cJ cZ cO t hc1) (ep_cwS 1 hg tw_340 tw_341 tw_1 tk_EP_checkMoment rfl rfl (by decide +kernel) ⟨(Nat.le_of_ble_eq_true rfl), (Nat.le_of_ble_eq_true rfl)⟩) ⟨ep_blindX, ep_preX hKn (Zs.kept hZ hS (fun q h => h.elim)) (trivial)⟩ rfl rfl hl.1 rfl (lv_room (Nat.le_of_ble_eq_true rfl)) d_EP_least_1 ⟨(Nat.le_of_ble_eq_true rfl), (Nat.le_of_ble_eq_true rfl)⟩) hS (fun q h => h.elim) (fun ce q9 H1 locs1 hz1 hk1 hS1 hce hcv hcl => ?_)
    exact vx_out (fun x h => (hno x h).elim) hlocks hce hcv hcl (fun t9 ht hv => ⟨by show (1 : Nat) ≠ 0; decide, rfl, hS1.F ht, ⟨_, _, _, _, by rw [ht]; exact wo_kx hQ (fun q h => hk1 q h (fun z => z))⟩⟩) hS1.2.2 (Nat.le_of_ble_eq_true rfl) (Nat.le_of_ble_eq_true rfl)

def f_EP_sum_b (t : Int32) : Nat × Int64 := if okM t then ((1, 0)) else ((1, 0))

set_option maxHeartbeats 4000000 in
set_option maxRecDepth 100000 in
theorem m_EP_sum_b (l : Launch) (hlt : l.stackTraces = false) (D : va_G) (cI cJ cZ cO : ClassId) (o : Nat) (id : Int32) (t : Int32) (hid : ¬ okI id) (R : Nat × Int64) (hR : f_EP_sum_b t = R) : vx_Met l y_EP_sum (k_EP_sum :: gt) rx_EP_sum (PcX D cI cJ cZ cO (fun _ => False) [.ref o, .int id, .int t] (fun H => va_P D cls (wEP cO o) H)) (Qt R.1 (fun _ => False) (some (.long R.2)) (fun H => True)) (Xt R.1 E_NSE (fun _ => False) (fun H => True)) 1 6 (fun _ => False) := by
  refine vx_ofW (cc := c_EP_sum) (maxL := 4) (ret := (Option.some FieldType.long)) (by decide) rfl ?_
  intro p e s m args below meth c s₁ B hml hno hv
  obtain ⟨rfl, hKn, hZ, hE⟩ := hv
  have hx := B.exec
  have hb := B.bytes
  have hr := B.returns
  have hts := atoms_spec (ws := k_EP_sum :: gt) B.pre
  have hg : ∀ w ∈ gt, w.before _ s = true := fun w h => hts w (List.mem_cons_of_mem _ h)
  have hown : s.vm.findClass R_EP = some m.cls := findClass_of_methodNamed B.named
  have hlocks := B.notSynchronized
  have hK := hKn.1
  have hl := lv_entry ([.ref o, .int id, .int t]) (n := 4) (Nat.le_of_ble_eq_true rfl)
  rw [lg_entry_eq]
  generalize (lg_sl ([.ref o, .int id, .int t]) ++ List.replicate (4 - (lg_sl ([.ref o, .int id, .int t])).length) Slot.unset).toArray = ls at hl ⊢
  have hl : lv_has ls 4 [(0, .ref o), (1, .int id), (2, .int t)] := hl
  have hS : va_S (fun _ => False) s.heap s.heap [] := va_S.rf
  have hR : (if okM t then ((1, 0)) else ((1, 0))) = R := hR
  refine lv_iload_n hx hb d_EP_sum_0 rfl (lv_at hl 2 rfl) ?_
  by_cases hc1 : okM t
  · refine ep_callP (W.runS (As := [.int t]) (rest := []) ⟨hx, hb, hml, hown, hg⟩ (m_EP_checkMoment_ok l D cI cJ cZ cO t hc1) (ep_cwS 1 hg tw_340 tw_341 tw_1 tk_EP_checkMoment rfl rfl (by decide +kernel) ⟨(Nat.le_of_ble_eq_true rfl), (Nat.le_of_ble_eq_true rfl)⟩) ⟨ep_blind, ep_pre hKn (trivial)⟩ rfl rfl hl.1 rfl (lv_room (Nat.le_of_ble_eq_true rfl)) d_EP_sum_1 ⟨Nat.zero_le _, Nat.zero_le _⟩) ?_
    refine W.eq (g2 := F0 m 4 ls []) rfl ?_
    refine lv_aload_n hx hb d_EP_sum_4 rfl (lv_at hl 0 rfl) ?_
    refine lv_iload_n hx hb d_EP_sum_5 rfl (lv_at hl 1 rfl) ?_
    rw [if_pos hc1] at hR
    subst hR
    refine ep_callX (E := E_IAE) (vx_runV (As := [.int id]) (rest := []) ⟨hx, hb, hml, hown, hg⟩ (m_EP_openCollection_b l hlt D cI cJ cZ cO o id hid) (ep_cwV 1 hg tw_327 tw_329 ts_2 tw_1 tk_EP_openCollection rfl rfl (by decide +kernel) ⟨(Nat.le_of_ble_eq_true rfl), (Nat.le_of_ble_eq_true rfl)⟩) ⟨ep_blindX, va_recv (q0 := 0) (ci := 8) hK hE rfl rfl, ep_preX hKn (Zs.kept hZ hS (fun q h => h.elim)) (hE)⟩ rfl rfl hl.1 rfl (lv_room (Nat.le_of_ble_eq_true rfl)) d_EP_sum_6 ⟨(Nat.le_of_ble_eq_true rfl), (Nat.le_of_ble_eq_true rfl)⟩) hS (fun q h => h.elim) (fun ce q9 H1 locs1 hz1 hk1 hS1 hce hcv hcl => ?_)
    exact vx_out (fun x h => (hno x h).elim) hlocks hce hcv hcl (fun t9 ht hv => ⟨by show (1 : Nat) ≠ 0; decide, rfl, hS1.F ht, trivial⟩) hS1.2.2 (Nat.le_of_ble_eq_true rfl) (Nat.le_of_ble_eq_true rfl)
  · rw [if_neg hc1] at hR
    subst hR
    refine ep_callX (E := E_IAE) (vx_runS (As := [.int t]) (rest := []) ⟨hx, hb, hml, hown, hg⟩ (m_EP_checkMoment_x l hlt D cI cJ cZ cO t hc1) (ep_cwS 1 hg tw_340 tw_341 tw_1 tk_EP_checkMoment rfl rfl (by decide +kernel) ⟨(Nat.le_of_ble_eq_true rfl), (Nat.le_of_ble_eq_true rfl)⟩) ⟨ep_blindX, ep_preX hKn (Zs.kept hZ hS (fun q h => h.elim)) (trivial)⟩ rfl rfl hl.1 rfl (lv_room (Nat.le_of_ble_eq_true rfl)) d_EP_sum_1 ⟨(Nat.le_of_ble_eq_true rfl), (Nat.le_of_ble_eq_true rfl)⟩) hS (fun q h => h.elim) (fun ce q9 H1 locs1 hz1 hk1 hS1 hce hcv hcl => ?_)
    exact vx_out (fun x h => (hno x h).elim) hlocks hce hcv hcl (fun t9 ht hv => ⟨by show (1 : Nat) ≠ 0; decide, rfl, hS1.F ht, trivial⟩) hS1.2.2 (Nat.le_of_ble_eq_true rfl) (Nat.le_of_ble_eq_true rfl)

def f_EP_sum_c (t : Int32) : Nat × Int64 := if okM t then ((2, 0)) else ((1, 0))

set_option maxHeartbeats 4000000 in
set_option maxRecDepth 100000 in
theorem m_EP_sum_c (l : Launch) (hlt : l.stackTraces = false) (D : va_G) (cI cJ cZ cO : ClassId) (o : Nat) (j : Nat) (t : Int32) (hj : j < 4) (R : Nat × Int64) (hR : f_EP_sum_c t = R) : vx_Met l y_EP_sum (k_EP_sum :: gt) rx_EP_sum (PcX D cI cJ cZ cO (fun _ => False) [.ref o, .int (nI j), .int t] (fun H => va_P D cls (wEP cO o) H ∧ va_P D cls (wCo (o + 2 + 15 * j) (-1)) H)) (Qt R.1 (fun _ => False) (some (.long R.2)) (fun H => True)) (Xt R.1 E_NSE (fun _ => False) (fun H => True)) 1 6 (fun _ => False) := by
  refine vx_ofW (cc := c_EP_sum) (maxL := 4) (ret := (Option.some FieldType.long)) (by decide) rfl ?_
  intro p e s m args below meth c s₁ B hml hno hv
  obtain ⟨rfl, hKn, hZ, hE, hC⟩ := hv
  have hx := B.exec
  have hb := B.bytes
  have hr := B.returns
  have hts := atoms_spec (ws := k_EP_sum :: gt) B.pre
  have hg : ∀ w ∈ gt, w.before _ s = true := fun w h => hts w (List.mem_cons_of_mem _ h)
  have hown : s.vm.findClass R_EP = some m.cls := findClass_of_methodNamed B.named
  have hlocks := B.notSynchronized
  have hK := hKn.1
  have hl := lv_entry ([.ref o, .int (nI j), .int t]) (n := 4) (Nat.le_of_ble_eq_true rfl)
  rw [lg_entry_eq]
  generalize (lg_sl ([.ref o, .int (nI j), .int t]) ++ List.replicate (4 - (lg_sl ([.ref o, .int (nI j), .int t])).length) Slot.unset).toArray = ls at hl ⊢
  have hl : lv_has ls 4 [(0, .ref o), (1, .int (nI j)), (2, .int t)] := hl
  have hS : va_S (fun _ => False) s.heap s.heap [] := va_S.rf
  have hR : (if okM t then ((2, 0)) else ((1, 0))) = R := hR
  refine lv_iload_n hx hb d_EP_sum_0 rfl (lv_at hl 2 rfl) ?_
  by_cases hc1 : okM t
  · refine ep_callP (W.runS (As := [.int t]) (rest := []) ⟨hx, hb, hml, hown, hg⟩ (m_EP_checkMoment_ok l D cI cJ cZ cO t hc1) (ep_cwS 1 hg tw_340 tw_341 tw_1 tk_EP_checkMoment rfl rfl (by decide +kernel) ⟨(Nat.le_of_ble_eq_true rfl), (Nat.le_of_ble_eq_true rfl)⟩) ⟨ep_blind, ep_pre hKn (trivial)⟩ rfl rfl hl.1 rfl (lv_room (Nat.le_of_ble_eq_true rfl)) d_EP_sum_1 ⟨Nat.zero_le _, Nat.zero_le _⟩) ?_
    refine W.eq (g2 := F0 m 4 ls []) rfl ?_
    refine lv_aload_n hx hb d_EP_sum_4 rfl (lv_at hl 0 rfl) ?_
    refine lv_iload_n hx hb d_EP_sum_5 rfl (lv_at hl 1 rfl) ?_
    rw [if_pos hc1] at hR
    subst hR
    refine ep_callX (E := E_ISE) (vx_runV (As := [.int (nI j)]) (rest := []) ⟨hx, hb, hml, hown, hg⟩ (m_EP_openCollection_c l hlt D cI cJ cZ cO o j (by omega)) (ep_cwV 1 hg tw_327 tw_329 ts_2 tw_1 tk_EP_openCollection rfl rfl (by decide +kernel) ⟨(Nat.le_of_ble_eq_true rfl), (Nat.le_of_ble_eq_true rfl)⟩) ⟨ep_blindX, va_recv (q0 := 0) (ci := 8) hK hE rfl rfl, ep_preX hKn (Zs.kept hZ hS (fun q h => h.elim)) (⟨hE, hC⟩)⟩ rfl rfl hl.1 rfl (lv_room (Nat.le_of_ble_eq_true rfl)) d_EP_sum_6 ⟨(Nat.le_of_ble_eq_true rfl), (Nat.le_of_ble_eq_true rfl)⟩) hS (fun q h => h.elim) (fun ce q9 H1 locs1 hz1 hk1 hS1 hce hcv hcl => ?_)
    exact vx_out (fun x h => (hno x h).elim) hlocks hce hcv hcl (fun t9 ht hv => ⟨by show (2 : Nat) ≠ 0; decide, rfl, hS1.F ht, trivial⟩) hS1.2.2 (Nat.le_of_ble_eq_true rfl) (Nat.le_of_ble_eq_true rfl)
  · rw [if_neg hc1] at hR
    subst hR
    refine ep_callX (E := E_IAE) (vx_runS (As := [.int t]) (rest := []) ⟨hx, hb, hml, hown, hg⟩ (m_EP_checkMoment_x l hlt D cI cJ cZ cO t hc1) (ep_cwS 1 hg tw_340 tw_341 tw_1 tk_EP_checkMoment rfl rfl (by decide +kernel) ⟨(Nat.le_of_ble_eq_true rfl), (Nat.le_of_ble_eq_true rfl)⟩) ⟨ep_blindX, ep_preX hKn (Zs.kept hZ hS (fun q h => h.elim)) (trivial)⟩ rfl rfl hl.1 rfl (lv_room (Nat.le_of_ble_eq_true rfl)) d_EP_sum_1 ⟨(Nat.le_of_ble_eq_true rfl), (Nat.le_of_ble_eq_true rfl)⟩) hS (fun q h => h.elim) (fun ce q9 H1 locs1 hz1 hk1 hS1 hce hcv hcl => ?_)
    exact vx_out (fun x h => (hno x h).elim) hlocks hce hcv hcl (fun t9 ht hv => ⟨by show (1 : Nat) ≠ 0; decide, rfl, hS1.F ht, trivial⟩) hS1.2.2 (Nat.le_of_ble_eq_true rfl) (Nat.le_of_ble_eq_true rfl)

def f_EP_sum_w (t : Int32) : Nat × Int64 := if okM t then ((2, 0)) else ((1, 0))

set_option maxHeartbeats 4000000 in
set_option maxRecDepth 100000 in
theorem m_EP_sum_w (l : Launch) (hlt : l.stackTraces = false) (D : va_G) (cI cJ cZ cO : ClassId) (o : Nat) (j : Nat) (kd : Int32) (t : Int32) (hj : j < 4) (hkd : ¬ kd = -1) (hk0 : ¬ kd = 4) (R : Nat × Int64) (hR : f_EP_sum_w t = R) : vx_Met l y_EP_sum (k_EP_sum :: gt) rx_EP_sum (PcX D cI cJ cZ cO (fun _ => False) [.ref o, .int (nI j), .int t] (fun H => va_P D cls (wEP cO o) H ∧ va_P D cls (wCo (o + 2 + 15 * j) kd) H)) (Qt R.1 (fun _ => False) (some (.long R.2)) (fun H => True)) (Xt R.1 E_NSE (fun _ => False) (fun H => True)) 1 6 (fun _ => False) := by
  refine vx_ofW (cc := c_EP_sum) (maxL := 4) (ret := (Option.some FieldType.long)) (by decide) rfl ?_
  intro p e s m args below meth c s₁ B hml hno hv
  obtain ⟨rfl, hKn, hZ, hE, hC⟩ := hv
  have hx := B.exec
  have hb := B.bytes
  have hr := B.returns
  have hts := atoms_spec (ws := k_EP_sum :: gt) B.pre
  have hg : ∀ w ∈ gt, w.before _ s = true := fun w h => hts w (List.mem_cons_of_mem _ h)
  have hown : s.vm.findClass R_EP = some m.cls := findClass_of_methodNamed B.named
  have hlocks := B.notSynchronized
  have hK := hKn.1
  have hl := lv_entry ([.ref o, .int (nI j), .int t]) (n := 4) (Nat.le_of_ble_eq_true rfl)
  rw [lg_entry_eq]
  generalize (lg_sl ([.ref o, .int (nI j), .int t]) ++ List.replicate (4 - (lg_sl ([.ref o, .int (nI j), .int t])).length) Slot.unset).toArray = ls at hl ⊢
  have hl : lv_has ls 4 [(0, .ref o), (1, .int (nI j)), (2, .int t)] := hl
  have hS : va_S (fun _ => False) s.heap s.heap [] := va_S.rf
  have hR : (if okM t then ((2, 0)) else ((1, 0))) = R := hR
  refine lv_iload_n hx hb d_EP_sum_0 rfl (lv_at hl 2 rfl) ?_
  by_cases hc1 : okM t
  · refine ep_callP (W.runS (As := [.int t]) (rest := []) ⟨hx, hb, hml, hown, hg⟩ (m_EP_checkMoment_ok l D cI cJ cZ cO t hc1) (ep_cwS 1 hg tw_340 tw_341 tw_1 tk_EP_checkMoment rfl rfl (by decide +kernel) ⟨(Nat.le_of_ble_eq_true rfl), (Nat.le_of_ble_eq_true rfl)⟩) ⟨ep_blind, ep_pre hKn (trivial)⟩ rfl rfl hl.1 rfl (lv_room (Nat.le_of_ble_eq_true rfl)) d_EP_sum_1 ⟨Nat.zero_le _, Nat.zero_le _⟩) ?_
    refine W.eq (g2 := F0 m 4 ls []) rfl ?_
    refine lv_aload_n hx hb d_EP_sum_4 rfl (lv_at hl 0 rfl) ?_
    refine lv_iload_n hx hb d_EP_sum_5 rfl (lv_at hl 1 rfl) ?_
    refine ep_callP (W.runV (As := [.int (nI j)]) (rest := []) ⟨hx, hb, hml, hown, hg⟩ (m_EP_openCollection_ok l D cI cJ cZ cO o j kd (by omega) hkd) (ep_cwV 1 hg tw_327 tw_329 ts_2 tw_1 tk_EP_openCollection rfl rfl (by decide +kernel) ⟨(Nat.le_of_ble_eq_true rfl), (Nat.le_of_ble_eq_true rfl)⟩) ⟨ep_blind, va_recv (q0 := 0) (ci := 8) hK hE rfl rfl, ep_pre hKn (⟨hE, hC⟩)⟩ rfl rfl hl.1 rfl (lv_room (Nat.le_of_ble_eq_true rfl)) d_EP_sum_6 ⟨Nat.zero_le _, Nat.zero_le _⟩) ?_
    refine W.eq (g2 := F0 m 9 ls [.ref (o + 2 + 15 * j)]) rfl ?_
    refine lv_astore_n (lv' := [(3, .ref (o + 2 + 15 * j)), (0, .ref o), (1, .int (nI j)), (2, .int t)]) hx hb d_EP_sum_9 rfl hl (by decide) rfl (fun ls hl => ?_)
    refine lv_aload_n hx hb d_EP_sum_10 rfl (lv_at hl 0 rfl) ?_
    refine va_get (D := D) (ci := 0) (v := .int kd) (C := R_Co) (T := F_Co) (N := 3) hx hb hg in_Co hown hK hC 0 rfl rfl 0 (Nat.le_of_ble_eq_true rfl) (hg _ tw_76) (fun _ h9 => h9) rfl d_EP_sum_11 ?_
    refine lv_iconst (v := 4) hx hb d_EP_sum_14 (by decide) ?_
    refine lv_icmp_ne (tgt := 22) hx hb d_EP_sum_15 (by decide) (fun hc => ?_) (fun hc => absurd hc hk0)
    refine lv_iconst (v := 0) hx hb d_EP_sum_22 (by decide) ?_
    rw [if_pos hc1] at hR
    subst hR
    refine ep_callX (E := E_ISE) (vx_runS (As := [.int 0]) (rest := []) ⟨hx, hb, hml, hown, hg⟩ (m_EP_checkKind_0 l hlt D cI cJ cZ cO) (ep_cwS 1 hg tw_571 tw_572 tw_1 tk_EP_checkKind rfl rfl (by decide +kernel) ⟨(Nat.le_of_ble_eq_true rfl), (Nat.le_of_ble_eq_true rfl)⟩) ⟨ep_blindX, ep_preX hKn (Zs.kept hZ hS (fun q h => h.elim)) (trivial)⟩ rfl rfl hl.1 rfl (lv_room (Nat.le_of_ble_eq_true rfl)) d_EP_sum_23 ⟨(Nat.le_of_ble_eq_true rfl), (Nat.le_of_ble_eq_true rfl)⟩) hS (fun q h => h.elim) (fun ce q9 H1 locs1 hz1 hk1 hS1 hce hcv hcl => ?_)
    exact vx_out (fun x h => (hno x h).elim) hlocks hce hcv hcl (fun t9 ht hv => ⟨by show (2 : Nat) ≠ 0; decide, rfl, hS1.F ht, trivial⟩) hS1.2.2 (Nat.le_of_ble_eq_true rfl) (Nat.le_of_ble_eq_true rfl)
  · rw [if_neg hc1] at hR
    subst hR
    refine ep_callX (E := E_IAE) (vx_runS (As := [.int t]) (rest := []) ⟨hx, hb, hml, hown, hg⟩ (m_EP_checkMoment_x l hlt D cI cJ cZ cO t hc1) (ep_cwS 1 hg tw_340 tw_341 tw_1 tk_EP_checkMoment rfl rfl (by decide +kernel) ⟨(Nat.le_of_ble_eq_true rfl), (Nat.le_of_ble_eq_true rfl)⟩) ⟨ep_blindX, ep_preX hKn (Zs.kept hZ hS (fun q h => h.elim)) (trivial)⟩ rfl rfl hl.1 rfl (lv_room (Nat.le_of_ble_eq_true rfl)) d_EP_sum_1 ⟨(Nat.le_of_ble_eq_true rfl), (Nat.le_of_ble_eq_true rfl)⟩) hS (fun q h => h.elim) (fun ce q9 H1 locs1 hz1 hk1 hS1 hce hcv hcl => ?_)
    exact vx_out (fun x h => (hno x h).elim) hlocks hce hcv hcl (fun t9 ht hv => ⟨by show (1 : Nat) ≠ 0; decide, rfl, hS1.F ht, trivial⟩) hS1.2.2 (Nat.le_of_ble_eq_true rfl) (Nat.le_of_ble_eq_true rfl)

def f_EP_sum_4 (n : Nat) (mo : Nat → Int32) (na : Nat → Int32) (aa : Nat → Int32) (bb : Nat → Int32) (qn : Nat) (qr : Int64) (qf : Int32) (t : Int32) : Nat × Int64 := if okM t then ((0, (rut (fun _ x _ => reS x) mo na aa bb t n 0 ((0, qn), qr, qf)).1.1)) else ((1, 0))

set_option maxHeartbeats 4000000 in
set_option maxRecDepth 100000 in
theorem m_EP_sum_4 (l : Launch) (hlt : l.stackTraces = false) (D : va_G) (cI cJ cZ cO : ClassId) (o : Nat) (j : Nat) (n : Nat) (mo : Nat → Int32) (na : Nat → Int32) (aa : Nat → Int32) (bb : Nat → Int32) (re : Nat → Int64) (ef : Nat → Int32) (qn : Nat) (qr : Int64) (qt : Int64) (qf : Int32) (t : Int32) (hj : j < 4) (hn : n ≤ 32) (R : Nat × Int64) (hR : f_EP_sum_4 n mo na aa bb qn qr qf t = R) : vx_Met l y_EP_sum (k_EP_sum :: gt) rx_EP_sum (PcX D cI cJ cZ cO (fun q => blk (o + 71) 1 q) [.ref o, .int (nI j), .int t] (fun H => va_P D cls (wEP cO o) H ∧ va_P D cls (wCo (o + 2 + 15 * j) 4) H ∧ va_P D cls (wLi cI cJ cZ (o + 2 + 15 * j + 1) n mo na aa bb re ef) H ∧ va_P D cls (wRe (o + 71) qt qn qr qf) H)) (Qt R.1 (fun q => blk (o + 71) 1 q) (some (.long R.2)) (fun H => (∃ (qt : Int64) (qn : Nat) (qr : Int64) (qf : Int32), va_P D cls (wRe (o + 71) qt qn qr qf) H))) (Xt R.1 E_NSE (fun q => blk (o + 71) 1 q) (fun H => (∃ (qt : Int64) (qn : Nat) (qr : Int64) (qf : Int32), va_P D cls (wRe (o + 71) qt qn qr qf) H))) 1 6 (fun q => blk (o + 71) 1 q) := by
  refine vx_ofW (cc := c_EP_sum) (maxL := 4) (ret := (Option.some FieldType.long)) (by decide) rfl ?_
  intro p e s m args below meth c s₁ B hml hno hv
  obtain ⟨rfl, hKn, hZ, hE, hC, hN, hQ⟩ := hv
  have hx := B.exec
  have hb := B.bytes
  have hr := B.returns
  have hts := atoms_spec (ws := k_EP_sum :: gt) B.pre
  have hg : ∀ w ∈ gt, w.before _ s = true := fun w h => hts w (List.mem_cons_of_mem _ h)
  have hown : s.vm.findClass R_EP = some m.cls := findClass_of_methodNamed B.named
  have hlocks := B.notSynchronized
  have hK := hKn.1
  have hl := lv_entry ([.ref o, .int (nI j), .int t]) (n := 4) (Nat.le_of_ble_eq_true rfl)
  rw [lg_entry_eq]
  generalize (lg_sl ([.ref o, .int (nI j), .int t]) ++ List.replicate (4 - (lg_sl ([.ref o, .int (nI j), .int t])).length) Slot.unset).toArray = ls at hl ⊢
  have hl : lv_has ls 4 [(0, .ref o), (1, .int (nI j)), (2, .int t)] := hl
  have hS : va_S (fun q => blk (o + 71) 1 q) s.heap s.heap [] := va_S.rf
  have hR : (if okM t then ((0, (rut (fun _ x _ => reS x) mo na aa bb t n 0 ((0, qn), qr, qf)).1.1)) else ((1, 0))) = R := hR
  refine lv_iload_n hx hb d_EP_sum_0 rfl (lv_at hl 2 rfl) ?_
  by_cases hc1 : okM t
  · refine ep_callP (W.runS (As := [.int t]) (rest := []) ⟨hx, hb, hml, hown, hg⟩ (m_EP_checkMoment_ok l D cI cJ cZ cO t hc1) (ep_cwS 1 hg tw_340 tw_341 tw_1 tk_EP_checkMoment rfl rfl (by decide +kernel) ⟨(Nat.le_of_ble_eq_true rfl), (Nat.le_of_ble_eq_true rfl)⟩) ⟨ep_blind, ep_pre hKn (trivial)⟩ rfl rfl hl.1 rfl (lv_room (Nat.le_of_ble_eq_true rfl)) d_EP_sum_1 ⟨Nat.zero_le _, Nat.zero_le _⟩) ?_
    refine W.eq (g2 := F0 m 4 ls []) rfl ?_
    refine lv_aload_n hx hb d_EP_sum_4 rfl (lv_at hl 0 rfl) ?_
    refine lv_iload_n hx hb d_EP_sum_5 rfl (lv_at hl 1 rfl) ?_
    refine ep_callP (W.runV (As := [.int (nI j)]) (rest := []) ⟨hx, hb, hml, hown, hg⟩ (m_EP_openCollection_ok l D cI cJ cZ cO o j 4 (by omega) (by decide)) (ep_cwV 1 hg tw_327 tw_329 ts_2 tw_1 tk_EP_openCollection rfl rfl (by decide +kernel) ⟨(Nat.le_of_ble_eq_true rfl), (Nat.le_of_ble_eq_true rfl)⟩) ⟨ep_blind, va_recv (q0 := 0) (ci := 8) hK hE rfl rfl, ep_pre hKn (⟨hE, hC⟩)⟩ rfl rfl hl.1 rfl (lv_room (Nat.le_of_ble_eq_true rfl)) d_EP_sum_6 ⟨Nat.zero_le _, Nat.zero_le _⟩) ?_
    refine W.eq (g2 := F0 m 9 ls [.ref (o + 2 + 15 * j)]) rfl ?_
    refine lv_astore_n (lv' := [(3, .ref (o + 2 + 15 * j)), (0, .ref o), (1, .int (nI j)), (2, .int t)]) hx hb d_EP_sum_9 rfl hl (by decide) rfl (fun ls hl => ?_)
    refine lv_aload_n hx hb d_EP_sum_10 rfl (lv_at hl 0 rfl) ?_
    refine va_get (D := D) (ci := 0) (v := .int 4) (C := R_Co) (T := F_Co) (N := 3) hx hb hg in_Co hown hK hC 0 rfl rfl 0 (Nat.le_of_ble_eq_true rfl) (hg _ tw_76) (fun _ h9 => h9) rfl d_EP_sum_11 ?_
    refine lv_iconst (v := 4) hx hb d_EP_sum_14 (by decide) ?_
    refine lv_icmp_ne (tgt := 22) hx hb d_EP_sum_15 (by decide) (fun hc => False.elim (by revert hc; decide)) (fun hc => ?_)
    refine lv_iconst (v := 1) hx hb d_EP_sum_18 (by decide) ?_
    refine lv_goto (tgt := 23) hx hb d_EP_sum_19 (by decide) ?_
    refine ep_callP (W.runS (As := [.int 1]) (rest := []) ⟨hx, hb, hml, hown, hg⟩ (m_EP_checkKind_1 l D cI cJ cZ cO) (ep_cwS 1 hg tw_571 tw_572 tw_1 tk_EP_checkKind rfl rfl (by decide +kernel) ⟨(Nat.le_of_ble_eq_true rfl), (Nat.le_of_ble_eq_true rfl)⟩) ⟨ep_blind, ep_pre hKn (trivial)⟩ rfl rfl hl.1 rfl (lv_room (Nat.le_of_ble_eq_true rfl)) d_EP_sum_23 ⟨Nat.zero_le _, Nat.zero_le _⟩) ?_
    refine W.eq (g2 := F0 m 26 ls []) rfl ?_
    refine lv_aload_n hx hb d_EP_sum_26 rfl (lv_at hl 0 rfl) ?_
    refine va_get (D := D) (ci := 0) (v := .ref (o + 2 + 15 * j + 1)) (C := R_Co) (T := F_Co) (N := 3) hx hb hg in_Co hown hK hC 0 rfl rfl 1 (Nat.le_of_ble_eq_true rfl) (hg _ tw_78) (fun _ h9 => h9) rfl d_EP_sum_27 ?_
    refine lv_iload_n hx hb d_EP_sum_30 rfl (lv_at hl 3 rfl) ?_
    refine lv_aload_n hx hb d_EP_sum_31 rfl (lv_at hl 1 rfl) ?_
    refine va_get (D := D) (ci := 8) (v := .ref (o + 71)) (C := R_EP) (T := F_EP) (N := 7) hx hb hg in_EP hown hK hE 0 rfl rfl 5 (Nat.le_of_ble_eq_true rfl) (hg _ tw_203) (fun _ h9 => h9) rfl d_EP_sum_32 ?_
    refine ep_callH (W.runV (As := [.int t, .ref (o + 71)]) (rest := []) ⟨hx, hb, hml, hown, hg⟩ (m_Li_runUpTo_Re l D cI cJ cZ cO (o + 2 + 15 * j + 1) n mo na aa bb re ef (o + 71) qt qn qr qf t (by omega) (by omega) _ rfl) (ep_cwV 2 hg tw_575 tw_576 tw_577 tw_3 tk_Li_runUpTo rfl rfl (by decide +kernel) ⟨(Nat.le_of_ble_eq_true rfl), (Nat.le_of_ble_eq_true rfl)⟩) ⟨ep_blind, va_recv (q0 := 0) (ci := 1) hK hN rfl rfl, ep_pre hKn (hN.app hQ)⟩ rfl rfl hl.1 rfl (lv_room (Nat.le_of_ble_eq_true rfl)) d_EP_sum_35 ⟨Nat.zero_le _, Nat.zero_le _⟩) hS ((by intro q h; simp only [blk] at h ⊢; omega)) (fun H locs hsz9 hk1 hP1 hS => ?_)
    refine W.eq (g2 := F0 m 38 ls []) rfl ?_
    have hE := wo_kc hE hk1 (off_in (rng_of wEP_in) (by intro q h1 h2 h3; simp only [blk] at h3; omega))
    have hC := wo_kc hC hk1 (off_in (rng_of wCo_in) (by intro q h1 h2 h3; simp only [blk] at h3; omega))
    have hN : va_P D cls (wLi cI cJ cZ (o + 2 + 15 * j + 1) n mo na aa bb re ef) H := wo_l hP1
    have hQ : va_P D cls (wRe (o + 71) ((rut (fun _ x _ => reS x) mo na aa bb t n 0 ((0, qn), qr, qf)).1.1) ((rut (fun _ x _ => reS x) mo na aa bb t n 0 ((0, qn), qr, qf)).1.2) ((rut (fun _ x _ => reS x) mo na aa bb t n 0 ((0, qn), qr, qf)).2.1) ((rut (fun _ x _ => reS x) mo na aa bb t n 0 ((0, qn), qr, qf)).2.2)) H := wo_r hP1
    refine lv_aload_n hx hb d_EP_sum_38 rfl (lv_at hl 1 rfl) ?_
    refine va_get (D := D) (ci := 8) (v := .ref (o + 71)) (C := R_EP) (T := F_EP) (N := 7) hx hb hg in_EP hown hK hE 0 rfl rfl 5 (Nat.le_of_ble_eq_true rfl) (hg _ tw_203) (fun _ h9 => h9) rfl d_EP_sum_39 ?_
    refine va_get (D := D) (ci := 6) (v := .long ((rut (fun _ x _ => reS x) mo na aa bb t n 0 ((0, qn), qr, qf)).1.1)) (C := R_Re) (T := F_Re) (N := 4) hx hb hg in_Re hown hK hQ 0 rfl rfl 0 (Nat.le_of_ble_eq_true rfl) (hg _ tw_177) (fun _ h9 => h9) rfl d_EP_sum_42 ?_
    rw [if_pos hc1] at hR
    subst hR
    refine vx_ret ?_
    refine W.widen (k := 1) (n := 6) (Nat.le_of_ble_eq_true rfl) (Nat.le_of_ble_eq_true rfl) ?_
    exact W.lret (v := ((rut (fun _ x _ => reS x) mo na aa bb t n 0 ((0, qn), qr, qf)).1.1)) hx hb hr (fun t9 ht hW => ⟨rfl, rfl, hS.F ht, ⟨_, _, _, _, by rw [ht]; exact hQ⟩⟩) hS.2.2 d_EP_sum_45
  · rw [if_neg hc1] at hR
    subst hR
    refine ep_callX (E := E_IAE) (vx_runS (As := [.int t]) (rest := []) ⟨hx, hb, hml, hown, hg⟩ (m_EP_checkMoment_x l hlt D cI cJ cZ cO t hc1) (ep_cwS 1 hg tw_340 tw_341 tw_1 tk_EP_checkMoment rfl rfl (by decide +kernel) ⟨(Nat.le_of_ble_eq_true rfl), (Nat.le_of_ble_eq_true rfl)⟩) ⟨ep_blindX, ep_preX hKn (Zs.kept hZ hS (fun q h => h.elim)) (trivial)⟩ rfl rfl hl.1 rfl (lv_room (Nat.le_of_ble_eq_true rfl)) d_EP_sum_1 ⟨(Nat.le_of_ble_eq_true rfl), (Nat.le_of_ble_eq_true rfl)⟩) hS (fun q h => h.elim) (fun ce q9 H1 locs1 hz1 hk1 hS1 hce hcv hcl => ?_)
    exact vx_out (fun x h => (hno x h).elim) hlocks hce hcv hcl (fun t9 ht hv => ⟨by show (1 : Nat) ≠ 0; decide, rfl, hS1.F ht, ⟨_, _, _, _, by rw [ht]; exact wo_kx hQ (fun q h => hk1 q h (fun z => z))⟩⟩) hS1.2.2 (Nat.le_of_ble_eq_true rfl) (Nat.le_of_ble_eq_true rfl)

def f_EP_together_b (t : Int32) : Nat × Int32 := if okM t then ((1, 0)) else ((1, 0))

set_option maxHeartbeats 4000000 in
set_option maxRecDepth 100000 in
theorem m_EP_together_b (l : Launch) (hlt : l.stackTraces = false) (D : va_G) (cI cJ cZ cO : ClassId) (o : Nat) (id : Int32) (t : Int32) (x9 : Nat) (y9 : Nat) (hid : ¬ okI id) (hx9 : x9 < 16) (hy9 : y9 < 16) (R : Nat × Int32) (hR : f_EP_together_b t = R) : vx_Met l y_EP_together (k_EP_together :: gt) rx_EP_together (PcX D cI cJ cZ cO (fun _ => False) [.ref o, .int id, .int t, .int (nI x9), .int (nI y9)] (fun H => va_P D cls (wEP cO o) H)) (Qt R.1 (fun _ => False) (some (.int R.2)) (fun H => True)) (Xt R.1 E_NSE (fun _ => False) (fun H => True)) 1 6 (fun _ => False) := by
  refine vx_ofW (cc := c_EP_together) (maxL := 6) (ret := (Option.some FieldType.boolean)) (by decide) rfl ?_
  intro p e s m args below meth c s₁ B hml hno hv
  obtain ⟨rfl, hKn, hZ, hE⟩ := hv
  have hx := B.exec
  have hb := B.bytes
  have hr := B.returns
  have hts := atoms_spec (ws := k_EP_together :: gt) B.pre
  have hg : ∀ w ∈ gt, w.before _ s = true := fun w h => hts w (List.mem_cons_of_mem _ h)
  have hown : s.vm.findClass R_EP = some m.cls := findClass_of_methodNamed B.named
  have hlocks := B.notSynchronized
  have hK := hKn.1
  have hl := lv_entry ([.ref o, .int id, .int t, .int (nI x9), .int (nI y9)]) (n := 6) (Nat.le_of_ble_eq_true rfl)
  rw [lg_entry_eq]
  generalize (lg_sl ([.ref o, .int id, .int t, .int (nI x9), .int (nI y9)]) ++ List.replicate (6 - (lg_sl ([.ref o, .int id, .int t, .int (nI x9), .int (nI y9)])).length) Slot.unset).toArray = ls at hl ⊢
  have hl : lv_has ls 6 [(0, .ref o), (1, .int id), (2, .int t), (3, .int (nI x9)), (4, .int (nI y9))] := hl
  have hS : va_S (fun _ => False) s.heap s.heap [] := va_S.rf
  have hR : (if okM t then ((1, 0)) else ((1, 0))) = R := hR
  refine lv_iload_n hx hb d_EP_together_0 rfl (lv_at hl 2 rfl) ?_
  by_cases hc1 : okM t
  · refine ep_callP (W.runS (As := [.int t]) (rest := []) ⟨hx, hb, hml, hown, hg⟩ (m_EP_checkMoment_ok l D cI cJ cZ cO t hc1) (ep_cwS 1 hg tw_340 tw_341 tw_1 tk_EP_checkMoment rfl rfl (by decide +kernel) ⟨(Nat.le_of_ble_eq_true rfl), (Nat.le_of_ble_eq_true rfl)⟩) ⟨ep_blind, ep_pre hKn (trivial)⟩ rfl rfl hl.1 rfl (lv_room (Nat.le_of_ble_eq_true rfl)) d_EP_together_1 ⟨Nat.zero_le _, Nat.zero_le _⟩) ?_
    refine W.eq (g2 := F0 m 4 ls []) rfl ?_
    refine lv_iload_n hx hb d_EP_together_4 rfl (lv_at hl 3 rfl) ?_
    refine ep_callP (W.runS (As := [.int (nI x9)]) (rest := []) ⟨hx, hb, hml, hown, hg⟩ (m_EP_isElement l D cI cJ cZ cO (nI x9)) (ep_cwS 1 hg tw_634 tw_381 tw_1 tk_EP_isElement rfl rfl (by decide +kernel) ⟨(Nat.le_of_ble_eq_true rfl), (Nat.le_of_ble_eq_true rfl)⟩) ⟨ep_blind, ep_pre hKn (trivial)⟩ rfl rfl hl.1 rfl (lv_room (Nat.le_of_ble_eq_true rfl)) d_EP_together_5 ⟨Nat.zero_le _, Nat.zero_le _⟩) ?_
    refine W.eq (g2 := F0 m 8 ls [.int (bI (okE (nI x9)))]) rfl ?_
    refine lv_topi (fun z8 e_z8 => ?_)
    obtain rfl : z8 = 1 := by rw [e_z8]; exact (if_pos (okE_n (by omega)))
    refine lv_if_eq (tgt := 19) hx hb d_EP_together_8 (by decide) (fun hc => False.elim (by revert hc; decide)) (fun hc => ?_)
    refine lv_iload hx hb d_EP_together_11 (lv_at hl 4 rfl) ?_
    refine ep_callP (W.runS (As := [.int (nI y9)]) (rest := []) ⟨hx, hb, hml, hown, hg⟩ (m_EP_isElement l D cI cJ cZ cO (nI y9)) (ep_cwS 1 hg tw_634 tw_381 tw_1 tk_EP_isElement rfl rfl (by decide +kernel) ⟨(Nat.le_of_ble_eq_true rfl), (Nat.le_of_ble_eq_true rfl)⟩) ⟨ep_blind, ep_pre hKn (trivial)⟩ rfl rfl hl.1 rfl (lv_room (Nat.le_of_ble_eq_true rfl)) d_EP_together_13 ⟨Nat.zero_le _, Nat.zero_le _⟩) ?_
    refine W.eq (g2 := F0 m 16 ls [.int (bI (okE (nI y9)))]) rfl ?_
    refine lv_topi (fun z8 e_z8 => ?_)
    obtain rfl : z8 = 1 := by rw [e_z8]; exact (if_pos (okE_n (by omega)))
    refine lv_if_ne (tgt := 29) hx hb d_EP_together_16 (by decide) (fun hc => ?_) (fun hc => False.elim (by revert hc; decide))
    refine lv_aload_n hx hb d_EP_together_29 rfl (lv_at hl 0 rfl) ?_
    refine lv_iload_n hx hb d_EP_together_30 rfl (lv_at hl 1 rfl) ?_
    rw [if_pos hc1] at hR
    subst hR
    refine ep_callX (E := E_IAE) (vx_runV (As := [.int id]) (rest := []) ⟨hx, hb, hml, hown, hg⟩ (m_EP_openCollection_b l hlt D cI cJ cZ cO o id hid) (ep_cwV 1 hg tw_327 tw_329 ts_2 tw_1 tk_EP_openCollection rfl rfl (by decide +kernel) ⟨(Nat.le_of_ble_eq_true rfl), (Nat.le_of_ble_eq_true rfl)⟩) ⟨ep_blindX, va_recv (q0 := 0) (ci := 8) hK hE rfl rfl, ep_preX hKn (Zs.kept hZ hS (fun q h => h.elim)) (hE)⟩ rfl rfl hl.1 rfl (lv_room (Nat.le_of_ble_eq_true rfl)) d_EP_together_31 ⟨(Nat.le_of_ble_eq_true rfl), (Nat.le_of_ble_eq_true rfl)⟩) hS (fun q h => h.elim) (fun ce q9 H1 locs1 hz1 hk1 hS1 hce hcv hcl => ?_)
    exact vx_out (fun x h => (hno x h).elim) hlocks hce hcv hcl (fun t9 ht hv => ⟨by show (1 : Nat) ≠ 0; decide, rfl, hS1.F ht, trivial⟩) hS1.2.2 (Nat.le_of_ble_eq_true rfl) (Nat.le_of_ble_eq_true rfl)
  · rw [if_neg hc1] at hR
    subst hR
    refine ep_callX (E := E_IAE) (vx_runS (As := [.int t]) (rest := []) ⟨hx, hb, hml, hown, hg⟩ (m_EP_checkMoment_x l hlt D cI cJ cZ cO t hc1) (ep_cwS 1 hg tw_340 tw_341 tw_1 tk_EP_checkMoment rfl rfl (by decide +kernel) ⟨(Nat.le_of_ble_eq_true rfl), (Nat.le_of_ble_eq_true rfl)⟩) ⟨ep_blindX, ep_preX hKn (Zs.kept hZ hS (fun q h => h.elim)) (trivial)⟩ rfl rfl hl.1 rfl (lv_room (Nat.le_of_ble_eq_true rfl)) d_EP_together_1 ⟨(Nat.le_of_ble_eq_true rfl), (Nat.le_of_ble_eq_true rfl)⟩) hS (fun q h => h.elim) (fun ce q9 H1 locs1 hz1 hk1 hS1 hce hcv hcl => ?_)
    exact vx_out (fun x h => (hno x h).elim) hlocks hce hcv hcl (fun t9 ht hv => ⟨by show (1 : Nat) ≠ 0; decide, rfl, hS1.F ht, trivial⟩) hS1.2.2 (Nat.le_of_ble_eq_true rfl) (Nat.le_of_ble_eq_true rfl)

def f_EP_together_c (t : Int32) : Nat × Int32 := if okM t then ((2, 0)) else ((1, 0))

set_option maxHeartbeats 4000000 in
set_option maxRecDepth 100000 in
theorem m_EP_together_c (l : Launch) (hlt : l.stackTraces = false) (D : va_G) (cI cJ cZ cO : ClassId) (o : Nat) (j : Nat) (t : Int32) (x9 : Nat) (y9 : Nat) (hj : j < 4) (hx9 : x9 < 16) (hy9 : y9 < 16) (R : Nat × Int32) (hR : f_EP_together_c t = R) : vx_Met l y_EP_together (k_EP_together :: gt) rx_EP_together (PcX D cI cJ cZ cO (fun _ => False) [.ref o, .int (nI j), .int t, .int (nI x9), .int (nI y9)] (fun H => va_P D cls (wEP cO o) H ∧ va_P D cls (wCo (o + 2 + 15 * j) (-1)) H)) (Qt R.1 (fun _ => False) (some (.int R.2)) (fun H => True)) (Xt R.1 E_NSE (fun _ => False) (fun H => True)) 1 6 (fun _ => False) := by
  refine vx_ofW (cc := c_EP_together) (maxL := 6) (ret := (Option.some FieldType.boolean)) (by decide) rfl ?_
  intro p e s m args below meth c s₁ B hml hno hv
  obtain ⟨rfl, hKn, hZ, hE, hC⟩ := hv
  have hx := B.exec
  have hb := B.bytes
  have hr := B.returns
  have hts := atoms_spec (ws := k_EP_together :: gt) B.pre
  have hg : ∀ w ∈ gt, w.before _ s = true := fun w h => hts w (List.mem_cons_of_mem _ h)
  have hown : s.vm.findClass R_EP = some m.cls := findClass_of_methodNamed B.named
  have hlocks := B.notSynchronized
  have hK := hKn.1
  have hl := lv_entry ([.ref o, .int (nI j), .int t, .int (nI x9), .int (nI y9)]) (n := 6) (Nat.le_of_ble_eq_true rfl)
  rw [lg_entry_eq]
  generalize (lg_sl ([.ref o, .int (nI j), .int t, .int (nI x9), .int (nI y9)]) ++ List.replicate (6 - (lg_sl ([.ref o, .int (nI j), .int t, .int (nI x9), .int (nI y9)])).length) Slot.unset).toArray = ls at hl ⊢
  have hl : lv_has ls 6 [(0, .ref o), (1, .int (nI j)), (2, .int t), (3, .int (nI x9)), (4, .int (nI y9))] := hl
  have hS : va_S (fun _ => False) s.heap s.heap [] := va_S.rf
  have hR : (if okM t then ((2, 0)) else ((1, 0))) = R := hR
  refine lv_iload_n hx hb d_EP_together_0 rfl (lv_at hl 2 rfl) ?_
  by_cases hc1 : okM t
  · refine ep_callP (W.runS (As := [.int t]) (rest := []) ⟨hx, hb, hml, hown, hg⟩ (m_EP_checkMoment_ok l D cI cJ cZ cO t hc1) (ep_cwS 1 hg tw_340 tw_341 tw_1 tk_EP_checkMoment rfl rfl (by decide +kernel) ⟨(Nat.le_of_ble_eq_true rfl), (Nat.le_of_ble_eq_true rfl)⟩) ⟨ep_blind, ep_pre hKn (trivial)⟩ rfl rfl hl.1 rfl (lv_room (Nat.le_of_ble_eq_true rfl)) d_EP_together_1 ⟨Nat.zero_le _, Nat.zero_le _⟩) ?_
    refine W.eq (g2 := F0 m 4 ls []) rfl ?_
    refine lv_iload_n hx hb d_EP_together_4 rfl (lv_at hl 3 rfl) ?_
    refine ep_callP (W.runS (As := [.int (nI x9)]) (rest := []) ⟨hx, hb, hml, hown, hg⟩ (m_EP_isElement l D cI cJ cZ cO (nI x9)) (ep_cwS 1 hg tw_634 tw_381 tw_1 tk_EP_isElement rfl rfl (by decide +kernel) ⟨(Nat.le_of_ble_eq_true rfl), (Nat.le_of_ble_eq_true rfl)⟩) ⟨ep_blind, ep_pre hKn (trivial)⟩ rfl rfl hl.1 rfl (lv_room (Nat.le_of_ble_eq_true rfl)) d_EP_together_5 ⟨Nat.zero_le _, Nat.zero_le _⟩) ?_
    refine W.eq (g2 := F0 m 8 ls [.int (bI (okE (nI x9)))]) rfl ?_
    refine lv_topi (fun z8 e_z8 => ?_)
    obtain rfl : z8 = 1 := by rw [e_z8]; exact (if_pos (okE_n (by omega)))
    refine lv_if_eq (tgt := 19) hx hb d_EP_together_8 (by decide) (fun hc => False.elim (by revert hc; decide)) (fun hc => ?_)
    refine lv_iload hx hb d_EP_together_11 (lv_at hl 4 rfl) ?_
    refine ep_callP (W.runS (As := [.int (nI y9)]) (rest := []) ⟨hx, hb, hml, hown, hg⟩ (m_EP_isElement l D cI cJ cZ cO (nI y9)) (ep_cwS 1 hg tw_634 tw_381 tw_1 tk_EP_isElement rfl rfl (by decide +kernel) ⟨(Nat.le_of_ble_eq_true rfl), (Nat.le_of_ble_eq_true rfl)⟩) ⟨ep_blind, ep_pre hKn (trivial)⟩ rfl rfl hl.1 rfl (lv_room (Nat.le_of_ble_eq_true rfl)) d_EP_together_13 ⟨Nat.zero_le _, Nat.zero_le _⟩) ?_
    refine W.eq (g2 := F0 m 16 ls [.int (bI (okE (nI y9)))]) rfl ?_
    refine lv_topi (fun z8 e_z8 => ?_)
    obtain rfl : z8 = 1 := by rw [e_z8]; exact (if_pos (okE_n (by omega)))
    refine lv_if_ne (tgt := 29) hx hb d_EP_together_16 (by decide) (fun hc => ?_) (fun hc => False.elim (by revert hc; decide))
    refine lv_aload_n hx hb d_EP_together_29 rfl (lv_at hl 0 rfl) ?_
    refine lv_iload_n hx hb d_EP_together_30 rfl (lv_at hl 1 rfl) ?_
    rw [if_pos hc1] at hR
    subst hR
    refine ep_callX (E := E_ISE) (vx_runV (As := [.int (nI j)]) (rest := []) ⟨hx, hb, hml, hown, hg⟩ (m_EP_openCollection_c l hlt D cI cJ cZ cO o j (by omega)) (ep_cwV 1 hg tw_327 tw_329 ts_2 tw_1 tk_EP_openCollection rfl rfl (by decide +kernel) ⟨(Nat.le_of_ble_eq_true rfl), (Nat.le_of_ble_eq_true rfl)⟩) ⟨ep_blindX, va_recv (q0 := 0) (ci := 8) hK hE rfl rfl, ep_preX hKn (Zs.kept hZ hS (fun q h => h.elim)) (⟨hE, hC⟩)⟩ rfl rfl hl.1 rfl (lv_room (Nat.le_of_ble_eq_true rfl)) d_EP_together_31 ⟨(Nat.le_of_ble_eq_true rfl), (Nat.le_of_ble_eq_true rfl)⟩) hS (fun q h => h.elim) (fun ce q9 H1 locs1 hz1 hk1 hS1 hce hcv hcl => ?_)
    exact vx_out (fun x h => (hno x h).elim) hlocks hce hcv hcl (fun t9 ht hv => ⟨by show (2 : Nat) ≠ 0; decide, rfl, hS1.F ht, trivial⟩) hS1.2.2 (Nat.le_of_ble_eq_true rfl) (Nat.le_of_ble_eq_true rfl)
  · rw [if_neg hc1] at hR
    subst hR
    refine ep_callX (E := E_IAE) (vx_runS (As := [.int t]) (rest := []) ⟨hx, hb, hml, hown, hg⟩ (m_EP_checkMoment_x l hlt D cI cJ cZ cO t hc1) (ep_cwS 1 hg tw_340 tw_341 tw_1 tk_EP_checkMoment rfl rfl (by decide +kernel) ⟨(Nat.le_of_ble_eq_true rfl), (Nat.le_of_ble_eq_true rfl)⟩) ⟨ep_blindX, ep_preX hKn (Zs.kept hZ hS (fun q h => h.elim)) (trivial)⟩ rfl rfl hl.1 rfl (lv_room (Nat.le_of_ble_eq_true rfl)) d_EP_together_1 ⟨(Nat.le_of_ble_eq_true rfl), (Nat.le_of_ble_eq_true rfl)⟩) hS (fun q h => h.elim) (fun ce q9 H1 locs1 hz1 hk1 hS1 hce hcv hcl => ?_)
    exact vx_out (fun x h => (hno x h).elim) hlocks hce hcv hcl (fun t9 ht hv => ⟨by show (1 : Nat) ≠ 0; decide, rfl, hS1.F ht, trivial⟩) hS1.2.2 (Nat.le_of_ble_eq_true rfl) (Nat.le_of_ble_eq_true rfl)

def f_EP_together_w (t : Int32) : Nat × Int32 := if okM t then ((2, 0)) else ((1, 0))

set_option maxHeartbeats 4000000 in
set_option maxRecDepth 100000 in
theorem m_EP_together_w (l : Launch) (hlt : l.stackTraces = false) (D : va_G) (cI cJ cZ cO : ClassId) (o : Nat) (j : Nat) (kd : Int32) (t : Int32) (x9 : Nat) (y9 : Nat) (hj : j < 4) (hkd : ¬ kd = -1) (hk0 : ¬ kd = 5) (hx9 : x9 < 16) (hy9 : y9 < 16) (R : Nat × Int32) (hR : f_EP_together_w t = R) : vx_Met l y_EP_together (k_EP_together :: gt) rx_EP_together (PcX D cI cJ cZ cO (fun _ => False) [.ref o, .int (nI j), .int t, .int (nI x9), .int (nI y9)] (fun H => va_P D cls (wEP cO o) H ∧ va_P D cls (wCo (o + 2 + 15 * j) kd) H)) (Qt R.1 (fun _ => False) (some (.int R.2)) (fun H => True)) (Xt R.1 E_NSE (fun _ => False) (fun H => True)) 1 6 (fun _ => False) := by
  refine vx_ofW (cc := c_EP_together) (maxL := 6) (ret := (Option.some FieldType.boolean)) (by decide) rfl ?_
  intro p e s m args below meth c s₁ B hml hno hv
  obtain ⟨rfl, hKn, hZ, hE, hC⟩ := hv
  have hx := B.exec
  have hb := B.bytes
  have hr := B.returns
  have hts := atoms_spec (ws := k_EP_together :: gt) B.pre
  have hg : ∀ w ∈ gt, w.before _ s = true := fun w h => hts w (List.mem_cons_of_mem _ h)
  have hown : s.vm.findClass R_EP = some m.cls := findClass_of_methodNamed B.named
  have hlocks := B.notSynchronized
  have hK := hKn.1
  have hl := lv_entry ([.ref o, .int (nI j), .int t, .int (nI x9), .int (nI y9)]) (n := 6) (Nat.le_of_ble_eq_true rfl)
  rw [lg_entry_eq]
  generalize (lg_sl ([.ref o, .int (nI j), .int t, .int (nI x9), .int (nI y9)]) ++ List.replicate (6 - (lg_sl ([.ref o, .int (nI j), .int t, .int (nI x9), .int (nI y9)])).length) Slot.unset).toArray = ls at hl ⊢
  have hl : lv_has ls 6 [(0, .ref o), (1, .int (nI j)), (2, .int t), (3, .int (nI x9)), (4, .int (nI y9))] := hl
  have hS : va_S (fun _ => False) s.heap s.heap [] := va_S.rf
  have hR : (if okM t then ((2, 0)) else ((1, 0))) = R := hR
  refine lv_iload_n hx hb d_EP_together_0 rfl (lv_at hl 2 rfl) ?_
  by_cases hc1 : okM t
  · refine ep_callP (W.runS (As := [.int t]) (rest := []) ⟨hx, hb, hml, hown, hg⟩ (m_EP_checkMoment_ok l D cI cJ cZ cO t hc1) (ep_cwS 1 hg tw_340 tw_341 tw_1 tk_EP_checkMoment rfl rfl (by decide +kernel) ⟨(Nat.le_of_ble_eq_true rfl), (Nat.le_of_ble_eq_true rfl)⟩) ⟨ep_blind, ep_pre hKn (trivial)⟩ rfl rfl hl.1 rfl (lv_room (Nat.le_of_ble_eq_true rfl)) d_EP_together_1 ⟨Nat.zero_le _, Nat.zero_le _⟩) ?_
    refine W.eq (g2 := F0 m 4 ls []) rfl ?_
    refine lv_iload_n hx hb d_EP_together_4 rfl (lv_at hl 3 rfl) ?_
    refine ep_callP (W.runS (As := [.int (nI x9)]) (rest := []) ⟨hx, hb, hml, hown, hg⟩ (m_EP_isElement l D cI cJ cZ cO (nI x9)) (ep_cwS 1 hg tw_634 tw_381 tw_1 tk_EP_isElement rfl rfl (by decide +kernel) ⟨(Nat.le_of_ble_eq_true rfl), (Nat.le_of_ble_eq_true rfl)⟩) ⟨ep_blind, ep_pre hKn (trivial)⟩ rfl rfl hl.1 rfl (lv_room (Nat.le_of_ble_eq_true rfl)) d_EP_together_5 ⟨Nat.zero_le _, Nat.zero_le _⟩) ?_
    refine W.eq (g2 := F0 m 8 ls [.int (bI (okE (nI x9)))]) rfl ?_
    refine lv_topi (fun z8 e_z8 => ?_)
    obtain rfl : z8 = 1 := by rw [e_z8]; exact (if_pos (okE_n (by omega)))
    refine lv_if_eq (tgt := 19) hx hb d_EP_together_8 (by decide) (fun hc => False.elim (by revert hc; decide)) (fun hc => ?_)
    refine lv_iload hx hb d_EP_together_11 (lv_at hl 4 rfl) ?_
    refine ep_callP (W.runS (As := [.int (nI y9)]) (rest := []) ⟨hx, hb, hml, hown, hg⟩ (m_EP_isElement l D cI cJ cZ cO (nI y9)) (ep_cwS 1 hg tw_634 tw_381 tw_1 tk_EP_isElement rfl rfl (by decide +kernel) ⟨(Nat.le_of_ble_eq_true rfl), (Nat.le_of_ble_eq_true rfl)⟩) ⟨ep_blind, ep_pre hKn (trivial)⟩ rfl rfl hl.1 rfl (lv_room (Nat.le_of_ble_eq_true rfl)) d_EP_together_13 ⟨Nat.zero_le _, Nat.zero_le _⟩) ?_
    refine W.eq (g2 := F0 m 16 ls [.int (bI (okE (nI y9)))]) rfl ?_
    refine lv_topi (fun z8 e_z8 => ?_)
    obtain rfl : z8 = 1 := by rw [e_z8]; exact (if_pos (okE_n (by omega)))
    refine lv_if_ne (tgt := 29) hx hb d_EP_together_16 (by decide) (fun hc => ?_) (fun hc => False.elim (by revert hc; decide))
    refine lv_aload_n hx hb d_EP_together_29 rfl (lv_at hl 0 rfl) ?_
    refine lv_iload_n hx hb d_EP_together_30 rfl (lv_at hl 1 rfl) ?_
    refine ep_callP (W.runV (As := [.int (nI j)]) (rest := []) ⟨hx, hb, hml, hown, hg⟩ (m_EP_openCollection_ok l D cI cJ cZ cO o j kd (by omega) hkd) (ep_cwV 1 hg tw_327 tw_329 ts_2 tw_1 tk_EP_openCollection rfl rfl (by decide +kernel) ⟨(Nat.le_of_ble_eq_true rfl), (Nat.le_of_ble_eq_true rfl)⟩) ⟨ep_blind, va_recv (q0 := 0) (ci := 8) hK hE rfl rfl, ep_pre hKn (⟨hE, hC⟩)⟩ rfl rfl hl.1 rfl (lv_room (Nat.le_of_ble_eq_true rfl)) d_EP_together_31 ⟨Nat.zero_le _, Nat.zero_le _⟩) ?_
    refine W.eq (g2 := F0 m 34 ls [.ref (o + 2 + 15 * j)]) rfl ?_
    refine lv_astore (lv' := [(5, .ref (o + 2 + 15 * j)), (0, .ref o), (1, .int (nI j)), (2, .int t), (3, .int (nI x9)), (4, .int (nI y9))]) hx hb d_EP_together_34 hl (by decide) rfl (fun ls hl => ?_)
    refine lv_aload hx hb d_EP_together_36 (lv_at hl 0 rfl) ?_
    refine va_get (D := D) (ci := 0) (v := .int kd) (C := R_Co) (T := F_Co) (N := 3) hx hb hg in_Co hown hK hC 0 rfl rfl 0 (Nat.le_of_ble_eq_true rfl) (hg _ tw_76) (fun _ h9 => h9) rfl d_EP_together_38 ?_
    refine lv_iconst (v := 5) hx hb d_EP_together_41 (by decide) ?_
    refine lv_icmp_ne (tgt := 49) hx hb d_EP_together_42 (by decide) (fun hc => ?_) (fun hc => absurd hc hk0)
    refine lv_iconst (v := 0) hx hb d_EP_together_49 (by decide) ?_
    rw [if_pos hc1] at hR
    subst hR
    refine ep_callX (E := E_ISE) (vx_runS (As := [.int 0]) (rest := []) ⟨hx, hb, hml, hown, hg⟩ (m_EP_checkKind_0 l hlt D cI cJ cZ cO) (ep_cwS 1 hg tw_571 tw_572 tw_1 tk_EP_checkKind rfl rfl (by decide +kernel) ⟨(Nat.le_of_ble_eq_true rfl), (Nat.le_of_ble_eq_true rfl)⟩) ⟨ep_blindX, ep_preX hKn (Zs.kept hZ hS (fun q h => h.elim)) (trivial)⟩ rfl rfl hl.1 rfl (lv_room (Nat.le_of_ble_eq_true rfl)) d_EP_together_50 ⟨(Nat.le_of_ble_eq_true rfl), (Nat.le_of_ble_eq_true rfl)⟩) hS (fun q h => h.elim) (fun ce q9 H1 locs1 hz1 hk1 hS1 hce hcv hcl => ?_)
    exact vx_out (fun x h => (hno x h).elim) hlocks hce hcv hcl (fun t9 ht hv => ⟨by show (2 : Nat) ≠ 0; decide, rfl, hS1.F ht, trivial⟩) hS1.2.2 (Nat.le_of_ble_eq_true rfl) (Nat.le_of_ble_eq_true rfl)
  · rw [if_neg hc1] at hR
    subst hR
    refine ep_callX (E := E_IAE) (vx_runS (As := [.int t]) (rest := []) ⟨hx, hb, hml, hown, hg⟩ (m_EP_checkMoment_x l hlt D cI cJ cZ cO t hc1) (ep_cwS 1 hg tw_340 tw_341 tw_1 tk_EP_checkMoment rfl rfl (by decide +kernel) ⟨(Nat.le_of_ble_eq_true rfl), (Nat.le_of_ble_eq_true rfl)⟩) ⟨ep_blindX, ep_preX hKn (Zs.kept hZ hS (fun q h => h.elim)) (trivial)⟩ rfl rfl hl.1 rfl (lv_room (Nat.le_of_ble_eq_true rfl)) d_EP_together_1 ⟨(Nat.le_of_ble_eq_true rfl), (Nat.le_of_ble_eq_true rfl)⟩) hS (fun q h => h.elim) (fun ce q9 H1 locs1 hz1 hk1 hS1 hce hcv hcl => ?_)
    exact vx_out (fun x h => (hno x h).elim) hlocks hce hcv hcl (fun t9 ht hv => ⟨by show (1 : Nat) ≠ 0; decide, rfl, hS1.F ht, trivial⟩) hS1.2.2 (Nat.le_of_ble_eq_true rfl) (Nat.le_of_ble_eq_true rfl)

def f_EP_together_5 (n : Nat) (mo : Nat → Int32) (na : Nat → Int32) (aa : Nat → Int32) (bb : Nat → Int32) (ql : Nat → Int32) (qr : Int64) (qf : Int32) (t : Int32) (x9 : Nat) (y9 : Nat) : Nat × Int32 := if okM t then (if (((rut (fun _ x y => seS x y) mo na aa bb t n 0 ((16, sal 16 0 ql), qr, qf)).1.2) x9) = (((rut (fun _ x y => seS x y) mo na aa bb t n 0 ((16, sal 16 0 ql), qr, qf)).1.2) y9) then ((0, 1)) else ((0, 0))) else ((1, 0))

set_option maxHeartbeats 4000000 in
set_option maxRecDepth 100000 in
theorem m_EP_together_5 (l : Launch) (hlt : l.stackTraces = false) (D : va_G) (cI cJ cZ cO : ClassId) (o : Nat) (j : Nat) (n : Nat) (mo : Nat → Int32) (na : Nat → Int32) (aa : Nat → Int32) (bb : Nat → Int32) (re : Nat → Int64) (ef : Nat → Int32) (ql : Nat → Int32) (qr : Int64) (qf : Int32) (qc : Int32) (t : Int32) (x9 : Nat) (y9 : Nat) (hj : j < 4) (hn : n ≤ 32) (hop : ∀ i, i < n → ∃ x y : Nat, x < 16 ∧ y < 16 ∧ aa i = nI x ∧ bb i = nI y) (hx9 : x9 < 16) (hy9 : y9 < 16) (R : Nat × Int32) (hR : f_EP_together_5 n mo na aa bb ql qr qf t x9 y9 = R) : vx_Met l y_EP_together (k_EP_together :: gt) rx_EP_together (PcX D cI cJ cZ cO (fun q => blk (o + 72) 2 q) [.ref o, .int (nI j), .int t, .int (nI x9), .int (nI y9)] (fun H => va_P D cls (wEP cO o) H ∧ va_P D cls (wCo (o + 2 + 15 * j) 5) H ∧ va_P D cls (wLi cI cJ cZ (o + 2 + 15 * j + 1) n mo na aa bb re ef) H ∧ va_P D cls (wSe cI (o + 72) qc ql qr qf) H)) (Qt R.1 (fun q => blk (o + 72) 2 q) (some (.int R.2)) (fun H => (∃ (qc : Int32) (ql : Nat → Int32) (qr : Int64) (qf : Int32), va_P D cls (wSe cI (o + 72) qc ql qr qf) H))) (Xt R.1 E_NSE (fun q => blk (o + 72) 2 q) (fun H => (∃ (qc : Int32) (ql : Nat → Int32) (qr : Int64) (qf : Int32), va_P D cls (wSe cI (o + 72) qc ql qr qf) H))) 1 6 (fun q => blk (o + 72) 2 q) := by
  refine vx_ofW (cc := c_EP_together) (maxL := 6) (ret := (Option.some FieldType.boolean)) (by decide) rfl ?_
  intro p e s m args below meth c s₁ B hml hno hv
  obtain ⟨rfl, hKn, hZ, hE, hC, hN, hQ⟩ := hv
  have hx := B.exec
  have hb := B.bytes
  have hr := B.returns
  have hts := atoms_spec (ws := k_EP_together :: gt) B.pre
  have hg : ∀ w ∈ gt, w.before _ s = true := fun w h => hts w (List.mem_cons_of_mem _ h)
  have hown : s.vm.findClass R_EP = some m.cls := findClass_of_methodNamed B.named
  have hlocks := B.notSynchronized
  have hK := hKn.1
  have hl := lv_entry ([.ref o, .int (nI j), .int t, .int (nI x9), .int (nI y9)]) (n := 6) (Nat.le_of_ble_eq_true rfl)
  rw [lg_entry_eq]
  generalize (lg_sl ([.ref o, .int (nI j), .int t, .int (nI x9), .int (nI y9)]) ++ List.replicate (6 - (lg_sl ([.ref o, .int (nI j), .int t, .int (nI x9), .int (nI y9)])).length) Slot.unset).toArray = ls at hl ⊢
  have hl : lv_has ls 6 [(0, .ref o), (1, .int (nI j)), (2, .int t), (3, .int (nI x9)), (4, .int (nI y9))] := hl
  have hS : va_S (fun q => blk (o + 72) 2 q) s.heap s.heap [] := va_S.rf
  have hR : (if okM t then (if (((rut (fun _ x y => seS x y) mo na aa bb t n 0 ((16, sal 16 0 ql), qr, qf)).1.2) x9) = (((rut (fun _ x y => seS x y) mo na aa bb t n 0 ((16, sal 16 0 ql), qr, qf)).1.2) y9) then ((0, 1)) else ((0, 0))) else ((1, 0))) = R := hR
  refine lv_iload_n hx hb d_EP_together_0 rfl (lv_at hl 2 rfl) ?_
  by_cases hc1 : okM t
  · refine ep_callP (W.runS (As := [.int t]) (rest := []) ⟨hx, hb, hml, hown, hg⟩ (m_EP_checkMoment_ok l D cI cJ cZ cO t hc1) (ep_cwS 1 hg tw_340 tw_341 tw_1 tk_EP_checkMoment rfl rfl (by decide +kernel) ⟨(Nat.le_of_ble_eq_true rfl), (Nat.le_of_ble_eq_true rfl)⟩) ⟨ep_blind, ep_pre hKn (trivial)⟩ rfl rfl hl.1 rfl (lv_room (Nat.le_of_ble_eq_true rfl)) d_EP_together_1 ⟨Nat.zero_le _, Nat.zero_le _⟩) ?_
    refine W.eq (g2 := F0 m 4 ls []) rfl ?_
    refine lv_iload_n hx hb d_EP_together_4 rfl (lv_at hl 3 rfl) ?_
    refine ep_callP (W.runS (As := [.int (nI x9)]) (rest := []) ⟨hx, hb, hml, hown, hg⟩ (m_EP_isElement l D cI cJ cZ cO (nI x9)) (ep_cwS 1 hg tw_634 tw_381 tw_1 tk_EP_isElement rfl rfl (by decide +kernel) ⟨(Nat.le_of_ble_eq_true rfl), (Nat.le_of_ble_eq_true rfl)⟩) ⟨ep_blind, ep_pre hKn (trivial)⟩ rfl rfl hl.1 rfl (lv_room (Nat.le_of_ble_eq_true rfl)) d_EP_together_5 ⟨Nat.zero_le _, Nat.zero_le _⟩) ?_
    refine W.eq (g2 := F0 m 8 ls [.int (bI (okE (nI x9)))]) rfl ?_
    refine lv_topi (fun z8 e_z8 => ?_)
    obtain rfl : z8 = 1 := by rw [e_z8]; exact (if_pos (okE_n (by omega)))
    refine lv_if_eq (tgt := 19) hx hb d_EP_together_8 (by decide) (fun hc => False.elim (by revert hc; decide)) (fun hc => ?_)
    refine lv_iload hx hb d_EP_together_11 (lv_at hl 4 rfl) ?_
    refine ep_callP (W.runS (As := [.int (nI y9)]) (rest := []) ⟨hx, hb, hml, hown, hg⟩ (m_EP_isElement l D cI cJ cZ cO (nI y9)) (ep_cwS 1 hg tw_634 tw_381 tw_1 tk_EP_isElement rfl rfl (by decide +kernel) ⟨(Nat.le_of_ble_eq_true rfl), (Nat.le_of_ble_eq_true rfl)⟩) ⟨ep_blind, ep_pre hKn (trivial)⟩ rfl rfl hl.1 rfl (lv_room (Nat.le_of_ble_eq_true rfl)) d_EP_together_13 ⟨Nat.zero_le _, Nat.zero_le _⟩) ?_
    refine W.eq (g2 := F0 m 16 ls [.int (bI (okE (nI y9)))]) rfl ?_
    refine lv_topi (fun z8 e_z8 => ?_)
    obtain rfl : z8 = 1 := by rw [e_z8]; exact (if_pos (okE_n (by omega)))
    refine lv_if_ne (tgt := 29) hx hb d_EP_together_16 (by decide) (fun hc => ?_) (fun hc => False.elim (by revert hc; decide))
    refine lv_aload_n hx hb d_EP_together_29 rfl (lv_at hl 0 rfl) ?_
    refine lv_iload_n hx hb d_EP_together_30 rfl (lv_at hl 1 rfl) ?_
    refine ep_callP (W.runV (As := [.int (nI j)]) (rest := []) ⟨hx, hb, hml, hown, hg⟩ (m_EP_openCollection_ok l D cI cJ cZ cO o j 5 (by omega) (by decide)) (ep_cwV 1 hg tw_327 tw_329 ts_2 tw_1 tk_EP_openCollection rfl rfl (by decide +kernel) ⟨(Nat.le_of_ble_eq_true rfl), (Nat.le_of_ble_eq_true rfl)⟩) ⟨ep_blind, va_recv (q0 := 0) (ci := 8) hK hE rfl rfl, ep_pre hKn (⟨hE, hC⟩)⟩ rfl rfl hl.1 rfl (lv_room (Nat.le_of_ble_eq_true rfl)) d_EP_together_31 ⟨Nat.zero_le _, Nat.zero_le _⟩) ?_
    refine W.eq (g2 := F0 m 34 ls [.ref (o + 2 + 15 * j)]) rfl ?_
    refine lv_astore (lv' := [(5, .ref (o + 2 + 15 * j)), (0, .ref o), (1, .int (nI j)), (2, .int t), (3, .int (nI x9)), (4, .int (nI y9))]) hx hb d_EP_together_34 hl (by decide) rfl (fun ls hl => ?_)
    refine lv_aload hx hb d_EP_together_36 (lv_at hl 0 rfl) ?_
    refine va_get (D := D) (ci := 0) (v := .int 5) (C := R_Co) (T := F_Co) (N := 3) hx hb hg in_Co hown hK hC 0 rfl rfl 0 (Nat.le_of_ble_eq_true rfl) (hg _ tw_76) (fun _ h9 => h9) rfl d_EP_together_38 ?_
    refine lv_iconst (v := 5) hx hb d_EP_together_41 (by decide) ?_
    refine lv_icmp_ne (tgt := 49) hx hb d_EP_together_42 (by decide) (fun hc => False.elim (by revert hc; decide)) (fun hc => ?_)
    refine lv_iconst (v := 1) hx hb d_EP_together_45 (by decide) ?_
    refine lv_goto (tgt := 50) hx hb d_EP_together_46 (by decide) ?_
    refine ep_callP (W.runS (As := [.int 1]) (rest := []) ⟨hx, hb, hml, hown, hg⟩ (m_EP_checkKind_1 l D cI cJ cZ cO) (ep_cwS 1 hg tw_571 tw_572 tw_1 tk_EP_checkKind rfl rfl (by decide +kernel) ⟨(Nat.le_of_ble_eq_true rfl), (Nat.le_of_ble_eq_true rfl)⟩) ⟨ep_blind, ep_pre hKn (trivial)⟩ rfl rfl hl.1 rfl (lv_room (Nat.le_of_ble_eq_true rfl)) d_EP_together_50 ⟨Nat.zero_le _, Nat.zero_le _⟩) ?_
    refine W.eq (g2 := F0 m 53 ls []) rfl ?_
    refine lv_aload hx hb d_EP_together_53 (lv_at hl 0 rfl) ?_
    refine va_get (D := D) (ci := 0) (v := .ref (o + 2 + 15 * j + 1)) (C := R_Co) (T := F_Co) (N := 3) hx hb hg in_Co hown hK hC 0 rfl rfl 1 (Nat.le_of_ble_eq_true rfl) (hg _ tw_78) (fun _ h9 => h9) rfl d_EP_together_55 ?_
    refine lv_iload_n hx hb d_EP_together_58 rfl (lv_at hl 3 rfl) ?_
    refine lv_aload_n hx hb d_EP_together_59 rfl (lv_at hl 1 rfl) ?_
    refine va_get (D := D) (ci := 8) (v := .ref (o + 72)) (C := R_EP) (T := F_EP) (N := 7) hx hb hg in_EP hown hK hE 0 rfl rfl 6 (Nat.le_of_ble_eq_true rfl) (hg _ tw_204) (fun _ h9 => h9) rfl d_EP_together_60 ?_
    refine ep_callH (W.runV (As := [.int t, .ref (o + 72)]) (rest := []) ⟨hx, hb, hml, hown, hg⟩ (m_Li_runUpTo_Se l D cI cJ cZ cO (o + 2 + 15 * j + 1) n mo na aa bb re ef (o + 72) qc ql qr qf t (by omega) (by omega) hop _ rfl) (ep_cwV 2 hg tw_575 tw_576 tw_577 tw_3 tk_Li_runUpTo rfl rfl (by decide +kernel) ⟨(Nat.le_of_ble_eq_true rfl), (Nat.le_of_ble_eq_true rfl)⟩) ⟨ep_blind, va_recv (q0 := 0) (ci := 1) hK hN rfl rfl, ep_pre hKn (hN.app hQ)⟩ rfl rfl hl.1 rfl (lv_room (Nat.le_of_ble_eq_true rfl)) d_EP_together_63 ⟨Nat.zero_le _, Nat.zero_le _⟩) hS ((by intro q h; simp only [blk] at h ⊢; omega)) (fun H locs hsz9 hk1 hP1 hS => ?_)
    refine W.eq (g2 := F0 m 66 ls []) rfl ?_
    have hE := wo_kc hE hk1 (off_in (rng_of wEP_in) (by intro q h1 h2 h3; simp only [blk] at h3; omega))
    have hC := wo_kc hC hk1 (off_in (rng_of wCo_in) (by intro q h1 h2 h3; simp only [blk] at h3; omega))
    have hN : va_P D cls (wLi cI cJ cZ (o + 2 + 15 * j + 1) n mo na aa bb re ef) H := wo_l hP1
    have hQ : va_P D cls (wSe cI (o + 72) ((rut (fun _ x y => seS x y) mo na aa bb t n 0 ((16, sal 16 0 ql), qr, qf)).1.1) ((rut (fun _ x y => seS x y) mo na aa bb t n 0 ((16, sal 16 0 ql), qr, qf)).1.2) ((rut (fun _ x y => seS x y) mo na aa bb t n 0 ((16, sal 16 0 ql), qr, qf)).2.1) ((rut (fun _ x y => seS x y) mo na aa bb t n 0 ((16, sal 16 0 ql), qr, qf)).2.2)) H := wo_r hP1
    refine lv_aload_n hx hb d_EP_together_66 rfl (lv_at hl 1 rfl) ?_
    refine va_get (D := D) (ci := 8) (v := .ref (o + 72)) (C := R_EP) (T := F_EP) (N := 7) hx hb hg in_EP hown hK hE 0 rfl rfl 6 (Nat.le_of_ble_eq_true rfl) (hg _ tw_204) (fun _ h9 => h9) rfl d_EP_together_67 ?_
    refine va_get (D := D) (ci := 7) (v := .ref (o + 72 + 1)) (C := R_Se) (T := F_Se) (N := 4) hx hb hg in_Se hown hK hQ 0 rfl rfl 0 (Nat.le_of_ble_eq_true rfl) (hg _ tw_191) (fun _ h9 => h9) rfl d_EP_together_70 ?_
    refine lv_iload_n hx hb d_EP_together_73 rfl (lv_at hl 4 rfl) ?_
    refine ep_iald hx hb hK hQ 1 0 rfl rfl (i := x9) (by omega) (by decide) d_EP_together_74 ?_
    refine lv_aload_n hx hb d_EP_together_75 rfl (lv_at hl 1 rfl) ?_
    refine va_get (D := D) (ci := 8) (v := .ref (o + 72)) (C := R_EP) (T := F_EP) (N := 7) hx hb hg in_EP hown hK hE 0 rfl rfl 6 (Nat.le_of_ble_eq_true rfl) (hg _ tw_204) (fun _ h9 => h9) rfl d_EP_together_76 ?_
    refine va_get (D := D) (ci := 7) (v := .ref (o + 72 + 1)) (C := R_Se) (T := F_Se) (N := 4) hx hb hg in_Se hown hK hQ 0 rfl rfl 0 (Nat.le_of_ble_eq_true rfl) (hg _ tw_191) (fun _ h9 => h9) rfl d_EP_together_79 ?_
    refine lv_iload hx hb d_EP_together_82 (lv_at hl 5 rfl) ?_
    refine ep_iald hx hb hK hQ 1 0 rfl rfl (i := y9) (by omega) (by decide) d_EP_together_84 ?_
    refine lv_icmp_ne (tgt := 92) hx hb d_EP_together_85 (by decide) (fun hc2 => ?_) (fun hc2 => ?_)
    · have hc2 : ¬ ((((rut (fun _ x y => seS x y) mo na aa bb t n 0 ((16, sal 16 0 ql), qr, qf)).1.2) x9) = (((rut (fun _ x y => seS x y) mo na aa bb t n 0 ((16, sal 16 0 ql), qr, qf)).1.2) y9)) := hc2
      refine lv_iconst (v := 0) hx hb d_EP_together_92 (by decide) ?_
      rw [if_pos hc1, if_neg hc2] at hR
      subst hR
      refine vx_ret ?_
      refine W.widen (k := 1) (n := 6) (Nat.le_of_ble_eq_true rfl) (Nat.le_of_ble_eq_true rfl) ?_
      exact W.zret (v := 0) hx hb hr (by decide) (fun t9 ht hW => ⟨rfl, rfl, hS.F ht, ⟨_, _, _, _, by rw [ht]; exact hQ⟩⟩) hS.2.2 d_EP_together_93
    · have hc2 : (((rut (fun _ x y => seS x y) mo na aa bb t n 0 ((16, sal 16 0 ql), qr, qf)).1.2) x9) = (((rut (fun _ x y => seS x y) mo na aa bb t n 0 ((16, sal 16 0 ql), qr, qf)).1.2) y9) := hc2
      refine lv_iconst (v := 1) hx hb d_EP_together_88 (by decide) ?_
      refine lv_goto (tgt := 93) hx hb d_EP_together_89 (by decide) ?_
      rw [if_pos hc1, if_pos hc2] at hR
      subst hR
      refine vx_ret ?_
      refine W.widen (k := 1) (n := 6) (Nat.le_of_ble_eq_true rfl) (Nat.le_of_ble_eq_true rfl) ?_
      exact W.zret (v := 1) hx hb hr (by decide) (fun t9 ht hW => ⟨rfl, rfl, hS.F ht, ⟨_, _, _, _, by rw [ht]; exact hQ⟩⟩) hS.2.2 d_EP_together_93
  · rw [if_neg hc1] at hR
    subst hR
    refine ep_callX (E := E_IAE) (vx_runS (As := [.int t]) (rest := []) ⟨hx, hb, hml, hown, hg⟩ (m_EP_checkMoment_x l hlt D cI cJ cZ cO t hc1) (ep_cwS 1 hg tw_340 tw_341 tw_1 tk_EP_checkMoment rfl rfl (by decide +kernel) ⟨(Nat.le_of_ble_eq_true rfl), (Nat.le_of_ble_eq_true rfl)⟩) ⟨ep_blindX, ep_preX hKn (Zs.kept hZ hS (fun q h => h.elim)) (trivial)⟩ rfl rfl hl.1 rfl (lv_room (Nat.le_of_ble_eq_true rfl)) d_EP_together_1 ⟨(Nat.le_of_ble_eq_true rfl), (Nat.le_of_ble_eq_true rfl)⟩) hS (fun q h => h.elim) (fun ce q9 H1 locs1 hz1 hk1 hS1 hce hcv hcl => ?_)
    exact vx_out (fun x h => (hno x h).elim) hlocks hce hcv hcl (fun t9 ht hv => ⟨by show (1 : Nat) ≠ 0; decide, rfl, hS1.F ht, ⟨_, _, _, _, by rw [ht]; exact wo_kx hQ (fun q h => hk1 q h (fun z => z))⟩⟩) hS1.2.2 (Nat.le_of_ble_eq_true rfl) (Nat.le_of_ble_eq_true rfl)

def f_EP_together_x (t : Int32) (x : Int32) (y : Int32) : Nat × Int32 := if okM t then (if okE x then (if okE y then ((1, 0)) else ((1, 0))) else ((1, 0))) else ((1, 0))

set_option maxHeartbeats 4000000 in
set_option maxRecDepth 100000 in
theorem m_EP_together_x (l : Launch) (hlt : l.stackTraces = false) (D : va_G) (cI cJ cZ cO : ClassId) (o : Nat) (id : Int32) (t : Int32) (x : Int32) (y : Int32) (hbad : ¬ (okE x ∧ okE y)) (R : Nat × Int32) (hR : f_EP_together_x t x y = R) : vx_Met l y_EP_together (k_EP_together :: gt) rx_EP_together (PcX D cI cJ cZ cO (fun _ => False) [.ref o, .int id, .int t, .int x, .int y] (fun H => va_P D cls (wEP cO o) H)) (Qt R.1 (fun _ => False) (some (.int R.2)) (fun H => True)) (Xt R.1 E_NSE (fun _ => False) (fun H => True)) 1 6 (fun _ => False) := by
  refine vx_ofW (cc := c_EP_together) (maxL := 6) (ret := (Option.some FieldType.boolean)) (by decide) rfl ?_
  intro p e s m args below meth c s₁ B hml hno hv
  obtain ⟨rfl, hKn, hZ, hE⟩ := hv
  have hx := B.exec
  have hb := B.bytes
  have hr := B.returns
  have hts := atoms_spec (ws := k_EP_together :: gt) B.pre
  have hg : ∀ w ∈ gt, w.before _ s = true := fun w h => hts w (List.mem_cons_of_mem _ h)
  have hown : s.vm.findClass R_EP = some m.cls := findClass_of_methodNamed B.named
  have hlocks := B.notSynchronized
  have hK := hKn.1
  have hl := lv_entry ([.ref o, .int id, .int t, .int x, .int y]) (n := 6) (Nat.le_of_ble_eq_true rfl)
  rw [lg_entry_eq]
  generalize (lg_sl ([.ref o, .int id, .int t, .int x, .int y]) ++ List.replicate (6 - (lg_sl ([.ref o, .int id, .int t, .int x, .int y])).length) Slot.unset).toArray = ls at hl ⊢
  have hl : lv_has ls 6 [(0, .ref o), (1, .int id), (2, .int t), (3, .int x), (4, .int y)] := hl
  have hS : va_S (fun _ => False) s.heap s.heap [] := va_S.rf
  have hR : (if okM t then (if okE x then (if okE y then ((1, 0)) else ((1, 0))) else ((1, 0))) else ((1, 0))) = R := hR
  refine lv_iload_n hx hb d_EP_together_0 rfl (lv_at hl 2 rfl) ?_
  by_cases hc1 : okM t
  · refine ep_callP (W.runS (As := [.int t]) (rest := []) ⟨hx, hb, hml, hown, hg⟩ (m_EP_checkMoment_ok l D cI cJ cZ cO t hc1) (ep_cwS 1 hg tw_340 tw_341 tw_1 tk_EP_checkMoment rfl rfl (by decide +kernel) ⟨(Nat.le_of_ble_eq_true rfl), (Nat.le_of_ble_eq_true rfl)⟩) ⟨ep_blind, ep_pre hKn (trivial)⟩ rfl rfl hl.1 rfl (lv_room (Nat.le_of_ble_eq_true rfl)) d_EP_together_1 ⟨Nat.zero_le _, Nat.zero_le _⟩) ?_
    refine W.eq (g2 := F0 m 4 ls []) rfl ?_
    refine lv_iload_n hx hb d_EP_together_4 rfl (lv_at hl 3 rfl) ?_
    refine ep_callP (W.runS (As := [.int x]) (rest := []) ⟨hx, hb, hml, hown, hg⟩ (m_EP_isElement l D cI cJ cZ cO x) (ep_cwS 1 hg tw_634 tw_381 tw_1 tk_EP_isElement rfl rfl (by decide +kernel) ⟨(Nat.le_of_ble_eq_true rfl), (Nat.le_of_ble_eq_true rfl)⟩) ⟨ep_blind, ep_pre hKn (trivial)⟩ rfl rfl hl.1 rfl (lv_room (Nat.le_of_ble_eq_true rfl)) d_EP_together_5 ⟨Nat.zero_le _, Nat.zero_le _⟩) ?_
    refine W.eq (g2 := F0 m 8 ls [.int (bI (okE x))]) rfl ?_
    by_cases hc2 : okE x
    · rw [show bI (okE x) = 1 from if_pos hc2]
      refine lv_if_eq (tgt := 19) hx hb d_EP_together_8 (by decide) (fun hc => False.elim (by revert hc; decide)) (fun hc => ?_)
      refine lv_iload hx hb d_EP_together_11 (lv_at hl 4 rfl) ?_
      refine ep_callP (W.runS (As := [.int y]) (rest := []) ⟨hx, hb, hml, hown, hg⟩ (m_EP_isElement l D cI cJ cZ cO y) (ep_cwS 1 hg tw_634 tw_381 tw_1 tk_EP_isElement rfl rfl (by decide +kernel) ⟨(Nat.le_of_ble_eq_true rfl), (Nat.le_of_ble_eq_true rfl)⟩) ⟨ep_blind, ep_pre hKn (trivial)⟩ rfl rfl hl.1 rfl (lv_room (Nat.le_of_ble_eq_true rfl)) d_EP_together_13 ⟨Nat.zero_le _, Nat.zero_le _⟩) ?_
      refine W.eq (g2 := F0 m 16 ls [.int (bI (okE y))]) rfl ?_
      by_cases hc3 : okE y
      · rw [show bI (okE y) = 1 from if_pos hc3]
        refine lv_if_ne (tgt := 29) hx hb d_EP_together_16 (by decide) (fun hc => ?_) (fun hc => False.elim (by revert hc; decide))
        exact (hbad ⟨hc2, hc3⟩).elim
      · rw [show bI (okE y) = 0 from if_neg hc3]
        refine lv_if_ne (tgt := 29) hx hb d_EP_together_16 (by decide) (fun hc => False.elim (by revert hc; decide)) (fun hc => ?_)
        rw [if_pos hc1, if_pos hc2, if_neg hc3] at hR
        subst hR
        obtain ⟨sa, hsa⟩ := hKn.2.2.2.2.2 ("EditablePast", 187, "there is no such element") (by decide +kernel)
        exact vx_throwS (text := "there is no such element") (names := th_n) hx hb hlt hown (by decide +kernel) (by decide +kernel) (hg _ tw_229) (hg _ tw_16) hsa (ta_IAE hg hKn) ta_IAE_o hZ.1 hZ.2 hS (hl.1.trans hml.symm) d_EP_together_19 d_EP_together_22 d_EP_together_23 d_EP_together_25 d_EP_together_28 (fun x h => (hno x h).elim) (Nat.le_of_ble_eq_true rfl) (Nat.le_of_ble_eq_true rfl) (Nat.le_of_ble_eq_true rfl) (Nat.le_of_ble_eq_true rfl) hlocks (fun t9 hv h1 h2 => ⟨by show (1 : Nat) ≠ 0; decide, rfl, F_ext hS h1 h2, trivial⟩) hS.2.2 (Nat.le_of_ble_eq_true rfl) (Nat.le_of_ble_eq_true rfl)
    · rw [show bI (okE x) = 0 from if_neg hc2]
      refine lv_if_eq (tgt := 19) hx hb d_EP_together_8 (by decide) (fun hc => ?_) (fun hc => False.elim (by revert hc; decide))
      rw [if_pos hc1, if_neg hc2] at hR
      subst hR
      obtain ⟨sa, hsa⟩ := hKn.2.2.2.2.2 ("EditablePast", 187, "there is no such element") (by decide +kernel)
      exact vx_throwS (text := "there is no such element") (names := th_n) hx hb hlt hown (by decide +kernel) (by decide +kernel) (hg _ tw_229) (hg _ tw_16) hsa (ta_IAE hg hKn) ta_IAE_o hZ.1 hZ.2 hS (hl.1.trans hml.symm) d_EP_together_19 d_EP_together_22 d_EP_together_23 d_EP_together_25 d_EP_together_28 (fun x h => (hno x h).elim) (Nat.le_of_ble_eq_true rfl) (Nat.le_of_ble_eq_true rfl) (Nat.le_of_ble_eq_true rfl) (Nat.le_of_ble_eq_true rfl) hlocks (fun t9 hv h1 h2 => ⟨by show (1 : Nat) ≠ 0; decide, rfl, F_ext hS h1 h2, trivial⟩) hS.2.2 (Nat.le_of_ble_eq_true rfl) (Nat.le_of_ble_eq_true rfl)
  · rw [if_neg hc1] at hR
    subst hR
    refine ep_callX (E := E_IAE) (vx_runS (As := [.int t]) (rest := []) ⟨hx, hb, hml, hown, hg⟩ (m_EP_checkMoment_x l hlt D cI cJ cZ cO t hc1) (ep_cwS 1 hg tw_340 tw_341 tw_1 tk_EP_checkMoment rfl rfl (by decide +kernel) ⟨(Nat.le_of_ble_eq_true rfl), (Nat.le_of_ble_eq_true rfl)⟩) ⟨ep_blindX, ep_preX hKn (Zs.kept hZ hS (fun q h => h.elim)) (trivial)⟩ rfl rfl hl.1 rfl (lv_room (Nat.le_of_ble_eq_true rfl)) d_EP_together_1 ⟨(Nat.le_of_ble_eq_true rfl), (Nat.le_of_ble_eq_true rfl)⟩) hS (fun q h => h.elim) (fun ce q9 H1 locs1 hz1 hk1 hS1 hce hcv hcl => ?_)
    exact vx_out (fun x h => (hno x h).elim) hlocks hce hcv hcl (fun t9 ht hv => ⟨by show (1 : Nat) ≠ 0; decide, rfl, hS1.F ht, trivial⟩) hS1.2.2 (Nat.le_of_ble_eq_true rfl) (Nat.le_of_ble_eq_true rfl)

def f_EP_firstChange_b (t : Int32) (u : Int32) : Nat × Int32 := if okM t then (if okM u then ((1, 0)) else ((1, 0))) else ((1, 0))

set_option maxHeartbeats 4000000 in
set_option maxRecDepth 100000 in
theorem m_EP_firstChange_b (l : Launch) (hlt : l.stackTraces = false) (D : va_G) (cI cJ cZ cO : ClassId) (o : Nat) (id : Int32) (t : Int32) (u : Int32) (hid : ¬ okI id) (R : Nat × Int32) (hR : f_EP_firstChange_b t u = R) : vx_Met l y_EP_firstChange (k_EP_firstChange :: gt) rx_EP_firstChange (PcX D cI cJ cZ cO (fun _ => False) [.ref o, .int id, .int t, .int u] (fun H => va_P D cls (wEP cO o) H)) (Qt R.1 (fun _ => False) (some (.int R.2)) (fun H => True)) (Xt R.1 E_NSE (fun _ => False) (fun H => True)) 1 6 (fun _ => False) := by
  refine vx_ofW (cc := c_EP_firstChange) (maxL := 6) (ret := (Option.some FieldType.int)) (by decide) rfl ?_
  intro p e s m args below meth c s₁ B hml hno hv
  obtain ⟨rfl, hKn, hZ, hE⟩ := hv
  have hx := B.exec
  have hb := B.bytes
  have hr := B.returns
  have hts := atoms_spec (ws := k_EP_firstChange :: gt) B.pre
  have hg : ∀ w ∈ gt, w.before _ s = true := fun w h => hts w (List.mem_cons_of_mem _ h)
  have hown : s.vm.findClass R_EP = some m.cls := findClass_of_methodNamed B.named
  have hlocks := B.notSynchronized
  have hK := hKn.1
  have hl := lv_entry ([.ref o, .int id, .int t, .int u]) (n := 6) (Nat.le_of_ble_eq_true rfl)
  rw [lg_entry_eq]
  generalize (lg_sl ([.ref o, .int id, .int t, .int u]) ++ List.replicate (6 - (lg_sl ([.ref o, .int id, .int t, .int u])).length) Slot.unset).toArray = ls at hl ⊢
  have hl : lv_has ls 6 [(0, .ref o), (1, .int id), (2, .int t), (3, .int u)] := hl
  have hS : va_S (fun _ => False) s.heap s.heap [] := va_S.rf
  have hR : (if okM t then (if okM u then ((1, 0)) else ((1, 0))) else ((1, 0))) = R := hR
  refine lv_iload_n hx hb d_EP_firstChange_0 rfl (lv_at hl 2 rfl) ?_
  by_cases hc1 : okM t
  · refine ep_callP (W.runS (As := [.int t]) (rest := []) ⟨hx, hb, hml, hown, hg⟩ (m_EP_checkMoment_ok l D cI cJ cZ cO t hc1) (ep_cwS 1 hg tw_340 tw_341 tw_1 tk_EP_checkMoment rfl rfl (by decide +kernel) ⟨(Nat.le_of_ble_eq_true rfl), (Nat.le_of_ble_eq_true rfl)⟩) ⟨ep_blind, ep_pre hKn (trivial)⟩ rfl rfl hl.1 rfl (lv_room (Nat.le_of_ble_eq_true rfl)) d_EP_firstChange_1 ⟨Nat.zero_le _, Nat.zero_le _⟩) ?_
    refine W.eq (g2 := F0 m 4 ls []) rfl ?_
    refine lv_iload_n hx hb d_EP_firstChange_4 rfl (lv_at hl 3 rfl) ?_
    by_cases hc2 : okM u
    · refine ep_callP (W.runS (As := [.int u]) (rest := []) ⟨hx, hb, hml, hown, hg⟩ (m_EP_checkMoment_ok l D cI cJ cZ cO u hc2) (ep_cwS 1 hg tw_340 tw_341 tw_1 tk_EP_checkMoment rfl rfl (by decide +kernel) ⟨(Nat.le_of_ble_eq_true rfl), (Nat.le_of_ble_eq_true rfl)⟩) ⟨ep_blind, ep_pre hKn (trivial)⟩ rfl rfl hl.1 rfl (lv_room (Nat.le_of_ble_eq_true rfl)) d_EP_firstChange_5 ⟨Nat.zero_le _, Nat.zero_le _⟩) ?_
      refine W.eq (g2 := F0 m 8 ls []) rfl ?_
      refine lv_aload_n hx hb d_EP_firstChange_8 rfl (lv_at hl 0 rfl) ?_
      refine lv_iload_n hx hb d_EP_firstChange_9 rfl (lv_at hl 1 rfl) ?_
      rw [if_pos hc1, if_pos hc2] at hR
      subst hR
      refine ep_callX (E := E_IAE) (vx_runV (As := [.int id]) (rest := []) ⟨hx, hb, hml, hown, hg⟩ (m_EP_openCollection_b l hlt D cI cJ cZ cO o id hid) (ep_cwV 1 hg tw_327 tw_329 ts_2 tw_1 tk_EP_openCollection rfl rfl (by decide +kernel) ⟨(Nat.le_of_ble_eq_true rfl), (Nat.le_of_ble_eq_true rfl)⟩) ⟨ep_blindX, va_recv (q0 := 0) (ci := 8) hK hE rfl rfl, ep_preX hKn (Zs.kept hZ hS (fun q h => h.elim)) (hE)⟩ rfl rfl hl.1 rfl (lv_room (Nat.le_of_ble_eq_true rfl)) d_EP_firstChange_10 ⟨(Nat.le_of_ble_eq_true rfl), (Nat.le_of_ble_eq_true rfl)⟩) hS (fun q h => h.elim) (fun ce q9 H1 locs1 hz1 hk1 hS1 hce hcv hcl => ?_)
      exact vx_out (fun x h => (hno x h).elim) hlocks hce hcv hcl (fun t9 ht hv => ⟨by show (1 : Nat) ≠ 0; decide, rfl, hS1.F ht, trivial⟩) hS1.2.2 (Nat.le_of_ble_eq_true rfl) (Nat.le_of_ble_eq_true rfl)
    · rw [if_pos hc1, if_neg hc2] at hR
      subst hR
      refine ep_callX (E := E_IAE) (vx_runS (As := [.int u]) (rest := []) ⟨hx, hb, hml, hown, hg⟩ (m_EP_checkMoment_x l hlt D cI cJ cZ cO u hc2) (ep_cwS 1 hg tw_340 tw_341 tw_1 tk_EP_checkMoment rfl rfl (by decide +kernel) ⟨(Nat.le_of_ble_eq_true rfl), (Nat.le_of_ble_eq_true rfl)⟩) ⟨ep_blindX, ep_preX hKn (Zs.kept hZ hS (fun q h => h.elim)) (trivial)⟩ rfl rfl hl.1 rfl (lv_room (Nat.le_of_ble_eq_true rfl)) d_EP_firstChange_5 ⟨(Nat.le_of_ble_eq_true rfl), (Nat.le_of_ble_eq_true rfl)⟩) hS (fun q h => h.elim) (fun ce q9 H1 locs1 hz1 hk1 hS1 hce hcv hcl => ?_)
      exact vx_out (fun x h => (hno x h).elim) hlocks hce hcv hcl (fun t9 ht hv => ⟨by show (1 : Nat) ≠ 0; decide, rfl, hS1.F ht, trivial⟩) hS1.2.2 (Nat.le_of_ble_eq_true rfl) (Nat.le_of_ble_eq_true rfl)
  · rw [if_neg hc1] at hR
    subst hR
    refine ep_callX (E := E_IAE) (vx_runS (As := [.int t]) (rest := []) ⟨hx, hb, hml, hown, hg⟩ (m_EP_checkMoment_x l hlt D cI cJ cZ cO t hc1) (ep_cwS 1 hg tw_340 tw_341 tw_1 tk_EP_checkMoment rfl rfl (by decide +kernel) ⟨(Nat.le_of_ble_eq_true rfl), (Nat.le_of_ble_eq_true rfl)⟩) ⟨ep_blindX, ep_preX hKn (Zs.kept hZ hS (fun q h => h.elim)) (trivial)⟩ rfl rfl hl.1 rfl (lv_room (Nat.le_of_ble_eq_true rfl)) d_EP_firstChange_1 ⟨(Nat.le_of_ble_eq_true rfl), (Nat.le_of_ble_eq_true rfl)⟩) hS (fun q h => h.elim) (fun ce q9 H1 locs1 hz1 hk1 hS1 hce hcv hcl => ?_)
    exact vx_out (fun x h => (hno x h).elim) hlocks hce hcv hcl (fun t9 ht hv => ⟨by show (1 : Nat) ≠ 0; decide, rfl, hS1.F ht, trivial⟩) hS1.2.2 (Nat.le_of_ble_eq_true rfl) (Nat.le_of_ble_eq_true rfl)

def f_EP_firstChange_c (t : Int32) (u : Int32) : Nat × Int32 := if okM t then (if okM u then ((2, 0)) else ((1, 0))) else ((1, 0))

set_option maxHeartbeats 4000000 in
set_option maxRecDepth 100000 in
theorem m_EP_firstChange_c (l : Launch) (hlt : l.stackTraces = false) (D : va_G) (cI cJ cZ cO : ClassId) (o : Nat) (j : Nat) (t : Int32) (u : Int32) (hj : j < 4) (R : Nat × Int32) (hR : f_EP_firstChange_c t u = R) : vx_Met l y_EP_firstChange (k_EP_firstChange :: gt) rx_EP_firstChange (PcX D cI cJ cZ cO (fun _ => False) [.ref o, .int (nI j), .int t, .int u] (fun H => va_P D cls (wEP cO o) H ∧ va_P D cls (wCo (o + 2 + 15 * j) (-1)) H)) (Qt R.1 (fun _ => False) (some (.int R.2)) (fun H => True)) (Xt R.1 E_NSE (fun _ => False) (fun H => True)) 1 6 (fun _ => False) := by
  refine vx_ofW (cc := c_EP_firstChange) (maxL := 6) (ret := (Option.some FieldType.int)) (by decide) rfl ?_
  intro p e s m args below meth c s₁ B hml hno hv
  obtain ⟨rfl, hKn, hZ, hE, hC⟩ := hv
  have hx := B.exec
  have hb := B.bytes
  have hr := B.returns
  have hts := atoms_spec (ws := k_EP_firstChange :: gt) B.pre
  have hg : ∀ w ∈ gt, w.before _ s = true := fun w h => hts w (List.mem_cons_of_mem _ h)
  have hown : s.vm.findClass R_EP = some m.cls := findClass_of_methodNamed B.named
  have hlocks := B.notSynchronized
  have hK := hKn.1
  have hl := lv_entry ([.ref o, .int (nI j), .int t, .int u]) (n := 6) (Nat.le_of_ble_eq_true rfl)
  rw [lg_entry_eq]
  generalize (lg_sl ([.ref o, .int (nI j), .int t, .int u]) ++ List.replicate (6 - (lg_sl ([.ref o, .int (nI j), .int t, .int u])).length) Slot.unset).toArray = ls at hl ⊢
  have hl : lv_has ls 6 [(0, .ref o), (1, .int (nI j)), (2, .int t), (3, .int u)] := hl
  have hS : va_S (fun _ => False) s.heap s.heap [] := va_S.rf
  have hR : (if okM t then (if okM u then ((2, 0)) else ((1, 0))) else ((1, 0))) = R := hR
  refine lv_iload_n hx hb d_EP_firstChange_0 rfl (lv_at hl 2 rfl) ?_
  by_cases hc1 : okM t
  · refine ep_callP (W.runS (As := [.int t]) (rest := []) ⟨hx, hb, hml, hown, hg⟩ (m_EP_checkMoment_ok l D cI cJ cZ cO t hc1) (ep_cwS 1 hg tw_340 tw_341 tw_1 tk_EP_checkMoment rfl rfl (by decide +kernel) ⟨(Nat.le_of_ble_eq_true rfl), (Nat.le_of_ble_eq_true rfl)⟩) ⟨ep_blind, ep_pre hKn (trivial)⟩ rfl rfl hl.1 rfl (lv_room (Nat.le_of_ble_eq_true rfl)) d_EP_firstChange_1 ⟨Nat.zero_le _, Nat.zero_le _⟩) ?_
    refine W.eq (g2 := F0 m 4 ls []) rfl ?_
    refine lv_iload_n hx hb d_EP_firstChange_4 rfl (lv_at hl 3 rfl) ?_
    by_cases hc2 : okM u
    · refine ep_callP (W.runS (As := [.int u]) (rest := []) ⟨hx, hb, hml, hown, hg⟩ (m_EP_checkMoment_ok l D cI cJ cZ cO u hc2) (ep_cwS 1 hg tw_340 tw_341 tw_1 tk_EP_checkMoment rfl rfl (by decide +kernel) ⟨(Nat.le_of_ble_eq_true rfl), (Nat.le_of_ble_eq_true rfl)⟩) ⟨ep_blind, ep_pre hKn (trivial)⟩ rfl rfl hl.1 rfl (lv_room (Nat.le_of_ble_eq_true rfl)) d_EP_firstChange_5 ⟨Nat.zero_le _, Nat.zero_le _⟩) ?_
      refine W.eq (g2 := F0 m 8 ls []) rfl ?_
      refine lv_aload_n hx hb d_EP_firstChange_8 rfl (lv_at hl 0 rfl) ?_
      refine lv_iload_n hx hb d_EP_firstChange_9 rfl (lv_at hl 1 rfl) ?_
      rw [if_pos hc1, if_pos hc2] at hR
      subst hR
      refine ep_callX (E := E_ISE) (vx_runV (As := [.int (nI j)]) (rest := []) ⟨hx, hb, hml, hown, hg⟩ (m_EP_openCollection_c l hlt D cI cJ cZ cO o j (by omega)) (ep_cwV 1 hg tw_327 tw_329 ts_2 tw_1 tk_EP_openCollection rfl rfl (by decide +kernel) ⟨(Nat.le_of_ble_eq_true rfl), (Nat.le_of_ble_eq_true rfl)⟩) ⟨ep_blindX, va_recv (q0 := 0) (ci := 8) hK hE rfl rfl, ep_preX hKn (Zs.kept hZ hS (fun q h => h.elim)) (⟨hE, hC⟩)⟩ rfl rfl hl.1 rfl (lv_room (Nat.le_of_ble_eq_true rfl)) d_EP_firstChange_10 ⟨(Nat.le_of_ble_eq_true rfl), (Nat.le_of_ble_eq_true rfl)⟩) hS (fun q h => h.elim) (fun ce q9 H1 locs1 hz1 hk1 hS1 hce hcv hcl => ?_)
      exact vx_out (fun x h => (hno x h).elim) hlocks hce hcv hcl (fun t9 ht hv => ⟨by show (2 : Nat) ≠ 0; decide, rfl, hS1.F ht, trivial⟩) hS1.2.2 (Nat.le_of_ble_eq_true rfl) (Nat.le_of_ble_eq_true rfl)
    · rw [if_pos hc1, if_neg hc2] at hR
      subst hR
      refine ep_callX (E := E_IAE) (vx_runS (As := [.int u]) (rest := []) ⟨hx, hb, hml, hown, hg⟩ (m_EP_checkMoment_x l hlt D cI cJ cZ cO u hc2) (ep_cwS 1 hg tw_340 tw_341 tw_1 tk_EP_checkMoment rfl rfl (by decide +kernel) ⟨(Nat.le_of_ble_eq_true rfl), (Nat.le_of_ble_eq_true rfl)⟩) ⟨ep_blindX, ep_preX hKn (Zs.kept hZ hS (fun q h => h.elim)) (trivial)⟩ rfl rfl hl.1 rfl (lv_room (Nat.le_of_ble_eq_true rfl)) d_EP_firstChange_5 ⟨(Nat.le_of_ble_eq_true rfl), (Nat.le_of_ble_eq_true rfl)⟩) hS (fun q h => h.elim) (fun ce q9 H1 locs1 hz1 hk1 hS1 hce hcv hcl => ?_)
      exact vx_out (fun x h => (hno x h).elim) hlocks hce hcv hcl (fun t9 ht hv => ⟨by show (1 : Nat) ≠ 0; decide, rfl, hS1.F ht, trivial⟩) hS1.2.2 (Nat.le_of_ble_eq_true rfl) (Nat.le_of_ble_eq_true rfl)
  · rw [if_neg hc1] at hR
    subst hR
    refine ep_callX (E := E_IAE) (vx_runS (As := [.int t]) (rest := []) ⟨hx, hb, hml, hown, hg⟩ (m_EP_checkMoment_x l hlt D cI cJ cZ cO t hc1) (ep_cwS 1 hg tw_340 tw_341 tw_1 tk_EP_checkMoment rfl rfl (by decide +kernel) ⟨(Nat.le_of_ble_eq_true rfl), (Nat.le_of_ble_eq_true rfl)⟩) ⟨ep_blindX, ep_preX hKn (Zs.kept hZ hS (fun q h => h.elim)) (trivial)⟩ rfl rfl hl.1 rfl (lv_room (Nat.le_of_ble_eq_true rfl)) d_EP_firstChange_1 ⟨(Nat.le_of_ble_eq_true rfl), (Nat.le_of_ble_eq_true rfl)⟩) hS (fun q h => h.elim) (fun ce q9 H1 locs1 hz1 hk1 hS1 hce hcv hcl => ?_)
    exact vx_out (fun x h => (hno x h).elim) hlocks hce hcv hcl (fun t9 ht hv => ⟨by show (1 : Nat) ≠ 0; decide, rfl, hS1.F ht, trivial⟩) hS1.2.2 (Nat.le_of_ble_eq_true rfl) (Nat.le_of_ble_eq_true rfl)

def f_EP_firstChange (n : Nat) (mo : Nat → Int32) (re : Nat → Int64) (ef : Nat → Int32) (n2 : Nat) (mo2 : Nat → Int32) (re2 : Nat → Int64) (ef2 : Nat → Int32) (t : Int32) (u : Int32) : Nat × Int32 := if okM t then (if okM u then (if u < (f_Li_firstDifference n mo re ef n2 mo2 re2 ef2 t) then ((0, 0)) else ((0, f_Li_firstDifference n mo re ef n2 mo2 re2 ef2 t))) else ((1, 0))) else ((1, 0))

set_option maxHeartbeats 4000000 in
set_option maxRecDepth 100000 in
theorem m_EP_firstChange (l : Launch) (hlt : l.stackTraces = false) (D : va_G) (cI cJ cZ cO : ClassId) (o : Nat) (j : Nat) (kd : Int32) (n : Nat) (mo : Nat → Int32) (na : Nat → Int32) (aa : Nat → Int32) (bb : Nat → Int32) (re : Nat → Int64) (ef : Nat → Int32) (n2 : Nat) (mo2 : Nat → Int32) (na2 : Nat → Int32) (aa2 : Nat → Int32) (bb2 : Nat → Int32) (re2 : Nat → Int64) (ef2 : Nat → Int32) (t : Int32) (u : Int32) (hj : j < 4) (hkd : ¬ kd = -1) (hn : n ≤ 32) (hn2 : n2 ≤ 32) (R : Nat × Int32) (hR : f_EP_firstChange n mo re ef n2 mo2 re2 ef2 t u = R) : vx_Met l y_EP_firstChange (k_EP_firstChange :: gt) rx_EP_firstChange (PcX D cI cJ cZ cO (fun _ => False) [.ref o, .int (nI j), .int t, .int u] (fun H => va_P D cls (wEP cO o) H ∧ va_P D cls (wCo (o + 2 + 15 * j) kd) H ∧ va_P D cls (wLi cI cJ cZ (o + 2 + 15 * j + 1) n mo na aa bb re ef) H ∧ va_P D cls (wLi cI cJ cZ (o + 2 + 15 * j + 8) n2 mo2 na2 aa2 bb2 re2 ef2) H)) (Qt R.1 (fun _ => False) (some (.int R.2)) (fun H => True)) (Xt R.1 E_NSE (fun _ => False) (fun H => True)) 1 6 (fun _ => False) := by
  refine vx_ofW (cc := c_EP_firstChange) (maxL := 6) (ret := (Option.some FieldType.int)) (by decide) rfl ?_
  intro p e s m args below meth c s₁ B hml hno hv
  obtain ⟨rfl, hKn, hZ, hE, hC, hN, hB⟩ := hv
  have hx := B.exec
  have hb := B.bytes
  have hr := B.returns
  have hts := atoms_spec (ws := k_EP_firstChange :: gt) B.pre
  have hg : ∀ w ∈ gt, w.before _ s = true := fun w h => hts w (List.mem_cons_of_mem _ h)
  have hown : s.vm.findClass R_EP = some m.cls := findClass_of_methodNamed B.named
  have hlocks := B.notSynchronized
  have hK := hKn.1
  have hl := lv_entry ([.ref o, .int (nI j), .int t, .int u]) (n := 6) (Nat.le_of_ble_eq_true rfl)
  rw [lg_entry_eq]
  generalize (lg_sl ([.ref o, .int (nI j), .int t, .int u]) ++ List.replicate (6 - (lg_sl ([.ref o, .int (nI j), .int t, .int u])).length) Slot.unset).toArray = ls at hl ⊢
  have hl : lv_has ls 6 [(0, .ref o), (1, .int (nI j)), (2, .int t), (3, .int u)] := hl
  have hS : va_S (fun _ => False) s.heap s.heap [] := va_S.rf
  have hR : (if okM t then (if okM u then (if u < (f_Li_firstDifference n mo re ef n2 mo2 re2 ef2 t) then ((0, 0)) else ((0, f_Li_firstDifference n mo re ef n2 mo2 re2 ef2 t))) else ((1, 0))) else ((1, 0))) = R := hR
  refine lv_iload_n hx hb d_EP_firstChange_0 rfl (lv_at hl 2 rfl) ?_
  by_cases hc1 : okM t
  · refine ep_callP (W.runS (As := [.int t]) (rest := []) ⟨hx, hb, hml, hown, hg⟩ (m_EP_checkMoment_ok l D cI cJ cZ cO t hc1) (ep_cwS 1 hg tw_340 tw_341 tw_1 tk_EP_checkMoment rfl rfl (by decide +kernel) ⟨(Nat.le_of_ble_eq_true rfl), (Nat.le_of_ble_eq_true rfl)⟩) ⟨ep_blind, ep_pre hKn (trivial)⟩ rfl rfl hl.1 rfl (lv_room (Nat.le_of_ble_eq_true rfl)) d_EP_firstChange_1 ⟨Nat.zero_le _, Nat.zero_le _⟩) ?_
    refine W.eq (g2 := F0 m 4 ls []) rfl ?_
    refine lv_iload_n hx hb d_EP_firstChange_4 rfl (lv_at hl 3 rfl) ?_
    by_cases hc2 : okM u
    · refine ep_callP (W.runS (As := [.int u]) (rest := []) ⟨hx, hb, hml, hown, hg⟩ (m_EP_checkMoment_ok l D cI cJ cZ cO u hc2) (ep_cwS 1 hg tw_340 tw_341 tw_1 tk_EP_checkMoment rfl rfl (by decide +kernel) ⟨(Nat.le_of_ble_eq_true rfl), (Nat.le_of_ble_eq_true rfl)⟩) ⟨ep_blind, ep_pre hKn (trivial)⟩ rfl rfl hl.1 rfl (lv_room (Nat.le_of_ble_eq_true rfl)) d_EP_firstChange_5 ⟨Nat.zero_le _, Nat.zero_le _⟩) ?_
      refine W.eq (g2 := F0 m 8 ls []) rfl ?_
      refine lv_aload_n hx hb d_EP_firstChange_8 rfl (lv_at hl 0 rfl) ?_
      refine lv_iload_n hx hb d_EP_firstChange_9 rfl (lv_at hl 1 rfl) ?_
      refine ep_callP (W.runV (As := [.int (nI j)]) (rest := []) ⟨hx, hb, hml, hown, hg⟩ (m_EP_openCollection_ok l D cI cJ cZ cO o j kd (by omega) hkd) (ep_cwV 1 hg tw_327 tw_329 ts_2 tw_1 tk_EP_openCollection rfl rfl (by decide +kernel) ⟨(Nat.le_of_ble_eq_true rfl), (Nat.le_of_ble_eq_true rfl)⟩) ⟨ep_blind, va_recv (q0 := 0) (ci := 8) hK hE rfl rfl, ep_pre hKn (⟨hE, hC⟩)⟩ rfl rfl hl.1 rfl (lv_room (Nat.le_of_ble_eq_true rfl)) d_EP_firstChange_10 ⟨Nat.zero_le _, Nat.zero_le _⟩) ?_
      refine W.eq (g2 := F0 m 13 ls [.ref (o + 2 + 15 * j)]) rfl ?_
      refine lv_astore (lv' := [(4, .ref (o + 2 + 15 * j)), (0, .ref o), (1, .int (nI j)), (2, .int t), (3, .int u)]) hx hb d_EP_firstChange_13 hl (by decide) rfl (fun ls hl => ?_)
      refine lv_aload hx hb d_EP_firstChange_15 (lv_at hl 0 rfl) ?_
      refine va_get (D := D) (ci := 0) (v := .ref (o + 2 + 15 * j + 1)) (C := R_Co) (T := F_Co) (N := 3) hx hb hg in_Co hown hK hC 0 rfl rfl 1 (Nat.le_of_ble_eq_true rfl) (hg _ tw_78) (fun _ h9 => h9) rfl d_EP_firstChange_17 ?_
      refine lv_aload hx hb d_EP_firstChange_20 (lv_at hl 0 rfl) ?_
      refine va_get (D := D) (ci := 0) (v := .ref (o + 2 + 15 * j + 8)) (C := R_Co) (T := F_Co) (N := 3) hx hb hg in_Co hown hK hC 0 rfl rfl 2 (Nat.le_of_ble_eq_true rfl) (hg _ tw_80) (fun _ h9 => h9) rfl d_EP_firstChange_22 ?_
      refine lv_iload_n hx hb d_EP_firstChange_25 rfl (lv_at hl 3 rfl) ?_
      refine ep_callP (W.runV (As := [.ref (o + 2 + 15 * j + 8), .int t]) (rest := []) ⟨hx, hb, hml, hown, hg⟩ (m_Li_firstDifference l D cI cJ cZ cO (o + 2 + 15 * j + 1) n mo na aa bb re ef (o + 2 + 15 * j + 8) n2 mo2 na2 aa2 bb2 re2 ef2 t hn hn2 _ rfl) (ep_cwV 2 hg tw_668 tw_669 tw_670 tw_3 tk_Li_firstDifference rfl rfl (by decide +kernel) ⟨(Nat.le_of_ble_eq_true rfl), (Nat.le_of_ble_eq_true rfl)⟩) ⟨ep_blind, va_recv (q0 := 0) (ci := 1) hK hN rfl rfl, ep_pre hKn (⟨hN, hB⟩)⟩ rfl rfl hl.1 rfl (lv_room (Nat.le_of_ble_eq_true rfl)) d_EP_firstChange_26 ⟨Nat.zero_le _, Nat.zero_le _⟩) ?_
      refine W.eq (g2 := F0 m 29 ls [.int (f_Li_firstDifference n mo re ef n2 mo2 re2 ef2 t)]) rfl ?_
      refine lv_istore (lv' := [(5, .int (f_Li_firstDifference n mo re ef n2 mo2 re2 ef2 t)), (4, .ref (o + 2 + 15 * j)), (0, .ref o), (1, .int (nI j)), (2, .int t), (3, .int u)]) hx hb d_EP_firstChange_29 hl (by decide) rfl (fun ls hl => ?_)
      refine lv_iload hx hb d_EP_firstChange_31 (lv_at hl 0 rfl) ?_
      refine lv_iload_n hx hb d_EP_firstChange_33 rfl (lv_at hl 5 rfl) ?_
      refine lv_icmp_gt (tgt := 42) hx hb d_EP_firstChange_34 (by decide) (fun hc3 => ?_) (fun hc3 => ?_)
      · have hc3 : u < (f_Li_firstDifference n mo re ef n2 mo2 re2 ef2 t) := hc3
        refine lv_iconst (v := 0) hx hb d_EP_firstChange_42 (by decide) ?_
        rw [if_pos hc1, if_pos hc2, if_pos hc3] at hR
        subst hR
        refine vx_ret ?_
        refine W.widen (k := 1) (n := 6) (Nat.le_of_ble_eq_true rfl) (Nat.le_of_ble_eq_true rfl) ?_
        exact W.iret (v := 0) hx hb hr (fun t9 ht hW => ⟨rfl, rfl, hS.F ht, trivial⟩) hS.2.2 d_EP_firstChange_43
      · have hc3 : ¬ (u < (f_Li_firstDifference n mo re ef n2 mo2 re2 ef2 t)) := hc3
        refine lv_iload hx hb d_EP_firstChange_37 (lv_at hl 0 rfl) ?_
        refine lv_goto (tgt := 43) hx hb d_EP_firstChange_39 (by decide) ?_
        rw [if_pos hc1, if_pos hc2, if_neg hc3] at hR
        subst hR
        refine vx_ret ?_
        refine W.widen (k := 1) (n := 6) (Nat.le_of_ble_eq_true rfl) (Nat.le_of_ble_eq_true rfl) ?_
        exact W.iret (v := (f_Li_firstDifference n mo re ef n2 mo2 re2 ef2 t)) hx hb hr (fun t9 ht hW => ⟨rfl, rfl, hS.F ht, trivial⟩) hS.2.2 d_EP_firstChange_43
    · rw [if_pos hc1, if_neg hc2] at hR
      subst hR
      refine ep_callX (E := E_IAE) (vx_runS (As := [.int u]) (rest := []) ⟨hx, hb, hml, hown, hg⟩ (m_EP_checkMoment_x l hlt D cI cJ cZ cO u hc2) (ep_cwS 1 hg tw_340 tw_341 tw_1 tk_EP_checkMoment rfl rfl (by decide +kernel) ⟨(Nat.le_of_ble_eq_true rfl), (Nat.le_of_ble_eq_true rfl)⟩) ⟨ep_blindX, ep_preX hKn (Zs.kept hZ hS (fun q h => h.elim)) (trivial)⟩ rfl rfl hl.1 rfl (lv_room (Nat.le_of_ble_eq_true rfl)) d_EP_firstChange_5 ⟨(Nat.le_of_ble_eq_true rfl), (Nat.le_of_ble_eq_true rfl)⟩) hS (fun q h => h.elim) (fun ce q9 H1 locs1 hz1 hk1 hS1 hce hcv hcl => ?_)
      exact vx_out (fun x h => (hno x h).elim) hlocks hce hcv hcl (fun t9 ht hv => ⟨by show (1 : Nat) ≠ 0; decide, rfl, hS1.F ht, trivial⟩) hS1.2.2 (Nat.le_of_ble_eq_true rfl) (Nat.le_of_ble_eq_true rfl)
  · rw [if_neg hc1] at hR
    subst hR
    refine ep_callX (E := E_IAE) (vx_runS (As := [.int t]) (rest := []) ⟨hx, hb, hml, hown, hg⟩ (m_EP_checkMoment_x l hlt D cI cJ cZ cO t hc1) (ep_cwS 1 hg tw_340 tw_341 tw_1 tk_EP_checkMoment rfl rfl (by decide +kernel) ⟨(Nat.le_of_ble_eq_true rfl), (Nat.le_of_ble_eq_true rfl)⟩) ⟨ep_blindX, ep_preX hKn (Zs.kept hZ hS (fun q h => h.elim)) (trivial)⟩ rfl rfl hl.1 rfl (lv_room (Nat.le_of_ble_eq_true rfl)) d_EP_firstChange_1 ⟨(Nat.le_of_ble_eq_true rfl), (Nat.le_of_ble_eq_true rfl)⟩) hS (fun q h => h.elim) (fun ce q9 H1 locs1 hz1 hk1 hS1 hce hcv hcl => ?_)
    exact vx_out (fun x h => (hno x h).elim) hlocks hce hcv hcl (fun t9 ht hv => ⟨by show (1 : Nat) ≠ 0; decide, rfl, hS1.F ht, trivial⟩) hS1.2.2 (Nat.le_of_ble_eq_true rfl) (Nat.le_of_ble_eq_true rfl)
