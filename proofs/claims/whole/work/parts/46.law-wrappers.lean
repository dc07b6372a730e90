/-! the law's own small methods (by wip/whole/gen/law.py) -/
set_option maxHeartbeats 4000000 in
set_option maxRecDepth 100000 in
theorem lw_open (l : Launch) (D : va_G) (cI cJ cZ cO : ClassId) (o : Nat) (a0 : Int32) (a1 : Int32) (kap : Nat) (A : Nat → Prop) (Pic P : Heap → Prop) (hpE : ∀ H, Pic H → va_P D cls (wEP cO o) H) (hkap : kap ≤ 2)
    (hM : vx_Met l y_EP_open (k_EP_open :: gt) rx_EP_open (PcX D cI cJ cZ cO A [.ref o, .int a0, .int a1] Pic) (Qt kap A none P) (Xt kap E_NSE A P) 1 6 A) :
    Met l y_Lw_open (k_Lw_open :: gt) rx_Lw_open (PcL D cI cJ cZ cO A [.ref o, .int a0, .int a1] Pic) (Qd A (some (.int (nI kap))) P) 1 6 A := by
  refine va_MetW (cc := c_Lw_open) (maxL := 4) (ret := (Option.some FieldType.int)) (hh := [(0, 6, 9, 13), (0, 6, 12, 15)]) (by decide) rfl ?_
  intro p e s m args below meth c s₁ B hml hv
  obtain ⟨rfl, hKn, hZ, hNx, hPic⟩ := hv
  have hx := B.exec
  have hb := B.bytes
  have hr := B.returns
  have hts := atoms_spec (ws := k_Lw_open :: gt) B.pre
  have hg : ∀ w ∈ gt, w.before _ s = true := fun w h => hts w (List.mem_cons_of_mem _ h)
  have hown : s.vm.findClass R_Lw = some m.cls := findClass_of_methodNamed B.named
  have hlocks := B.notSynchronized
  have hK := hKn.1
  have hl := lv_entry ([.ref o, .int a0, .int a1]) (n := 4) (Nat.le_of_ble_eq_true rfl)
  rw [lg_entry_eq]
  generalize (lg_sl ([.ref o, .int a0, .int a1]) ++ List.replicate (4 - (lg_sl ([.ref o, .int a0, .int a1])).length) Slot.unset).toArray = ls at hl ⊢
  have hl : lv_has ls 4 [(0, .ref o), (1, .int a0), (2, .int a1)] := hl
  have htab := vx_table (x := y_Lw_open) B (hg _ tk_Lw_open)
  have hE := hpE _ hPic
  have hS : va_S A s.heap s.heap [] := va_S.rf
  refine lv_aload_n hx hb d_Lw_open_0 rfl (lv_at hl 0 rfl) ?_
  refine lv_iload_n hx hb d_Lw_open_1 rfl (lv_at hl 1 rfl) ?_
  refine lv_iload_n hx hb d_Lw_open_2 rfl (lv_at hl 2 rfl) ?_
  refine ep_callT (vx_runV (As := [.int a0, .int a1]) (rest := []) ⟨hx, hb, hml, hown, hg⟩ hM (ep_cwV 2 hg tw_225 tw_226 tw_227 tw_1 tk_EP_open rfl rfl (by decide +kernel) ⟨(Nat.le_of_ble_eq_true rfl), (Nat.le_of_ble_eq_true rfl)⟩) ⟨ep_blindX, va_recv (q0 := 0) (ci := 8) hK hE rfl rfl, ep_preX hKn (Zs.kept hZ hS (fun q h => h)) hPic⟩ rfl rfl hl.1 rfl (lv_room (Nat.le_of_ble_eq_true rfl)) d_Lw_open_3 ⟨(Nat.le_of_ble_eq_true rfl), (Nat.le_of_ble_eq_true rfl)⟩) hS (fun q h => h) (fun hk0 ce q9 H locs hsz9 hk1 hP1 hS hce hcv hcl => ?_) (fun hk0 H locs hsz9 hk1 hP1 hS => ?_)
  · rcases (show kap = 1 ∨ kap = 2 by omega) with rfl | rfl
    · refine vx_catch (own := "EditablePastLaw") (name := E_IAE) (E := E_IAE) hown [] _ _ htab (fun z hz => nomatch hz) rfl (by decide) (hg _ tw_223) (va_Nw.use rfl (hKn.2.2.2.1 (E_IAE, E_IAE) (by decide +kernel))) hce hcv hcl ?_
      refine W.eq (g2 := F0 m 9 ls [.ref q9]) rfl ?_
      refine lv_astore_n (lv' := [(3, .ref q9), (0, .ref o), (1, .int a0), (2, .int a1)]) hx hb d_Lw_open_9 rfl hl (by decide) rfl (fun ls hl => ?_)
      refine lv_iconst (v := 1) hx hb d_Lw_open_10 (by decide) ?_
      exact W.iret (v := 1) hx hb hr (fun t9 ht hW => ⟨rfl, hS.F ht, by rw [ht]; exact hP1⟩) hS.2.2 d_Lw_open_11
    · refine vx_catch (own := "EditablePastLaw") (name := E_ISE) (E := E_ISE) hown [_] _ _ htab (fun z hz => by cases List.mem_singleton.mp hz; exact Or.inr ⟨by decide, E_IAE, hg _ tw_223, hNx (E_ISE, E_IAE) (by decide +kernel)⟩) rfl (by decide) (hg _ tw_224) (va_Nw.use rfl (hKn.2.2.2.1 (E_ISE, E_ISE) (by decide +kernel))) hce hcv hcl ?_
      refine W.eq (g2 := F0 m 12 ls [.ref q9]) rfl ?_
      refine lv_astore_n (lv' := [(3, .ref q9), (0, .ref o), (1, .int a0), (2, .int a1)]) hx hb d_Lw_open_12 rfl hl (by decide) rfl (fun ls hl => ?_)
      refine lv_iconst (v := 2) hx hb d_Lw_open_13 (by decide) ?_
      exact W.iret (v := 2) hx hb hr (fun t9 ht hW => ⟨rfl, hS.F ht, by rw [ht]; exact hP1⟩) hS.2.2 d_Lw_open_14
  · subst hk0
    refine W.eq (g2 := F0 m 6 ls []) rfl ?_
    refine lv_goto (tgt := 15) hx hb d_Lw_open_6 (by decide) ?_
    refine lv_iconst (v := 0) hx hb d_Lw_open_15 (by decide) ?_
    exact W.iret (v := 0) hx hb hr (fun t9 ht hW => ⟨rfl, hS.F ht, by rw [ht]; exact hP1⟩) hS.2.2 d_Lw_open_16

set_option maxHeartbeats 4000000 in
set_option maxRecDepth 100000 in
theorem lw_close (l : Launch) (D : va_G) (cI cJ cZ cO : ClassId) (o : Nat) (ob : Nat) (fo : Nat → Int64) (a0 : Int32) (r : Int32) (kap : Nat) (A : Nat → Prop) (Pic P : Heap → Prop) (hpE : ∀ H, Pic H → va_P D cls (wEP cO o) H) (hob : ¬ A ob) (hPs : ∀ H H1 : Heap, (∀ q : Nat, q < H.size → q ≠ ob → H1[q]? = H[q]?) → P H → P H1) (hkap : kap ≤ 2)
    (hM : vx_Met l y_EP_close (k_EP_close :: gt) rx_EP_close (PcX D cI cJ cZ cO A [.ref o, .int a0] Pic) (Qt kap A (some (.int r)) P) (Xt kap E_NSE A P) 1 6 A) :
    Met l y_Lw_close (k_Lw_close :: gt) rx_Lw_close (PcL D cI cJ cZ cO (fun q => A q ∨ q = ob) [.ref o, .int a0, .ref ob] (fun H => Pic H ∧ va_P D cls (wOut cJ ob fo) H)) (Qd (fun q => A q ∨ q = ob) (some (.int (nI kap))) (fun H => P H ∧ ∃ fo1 : Nat → Int64, va_P D cls (wOut cJ ob fo1) H ∧ (kap = 0 → fo1 0 = r.toInt64))) 1 6 (fun q => A q ∨ q = ob) := by
  refine va_MetW (cc := c_Lw_close) (maxL := 4) (ret := (Option.some FieldType.int)) (hh := [(0, 9, 12, 13), (0, 9, 15, 15)]) (by decide) rfl ?_
  intro p e s m args below meth c s₁ B hml hv
  obtain ⟨rfl, hKn, hZ, hNx, hPic, hO⟩ := hv
  have hx := B.exec
  have hb := B.bytes
  have hr := B.returns
  have hts := atoms_spec (ws := k_Lw_close :: gt) B.pre
  have hg : ∀ w ∈ gt, w.before _ s = true := fun w h => hts w (List.mem_cons_of_mem _ h)
  have hown : s.vm.findClass R_Lw = some m.cls := findClass_of_methodNamed B.named
  have hlocks := B.notSynchronized
  have hK := hKn.1
  have hl := lv_entry ([.ref o, .int a0, .ref ob]) (n := 4) (Nat.le_of_ble_eq_true rfl)
  rw [lg_entry_eq]
  generalize (lg_sl ([.ref o, .int a0, .ref ob]) ++ List.replicate (4 - (lg_sl ([.ref o, .int a0, .ref ob])).length) Slot.unset).toArray = ls at hl ⊢
  have hl : lv_has ls 4 [(0, .ref o), (1, .int a0), (2, .ref ob)] := hl
  have htab := vx_table (x := y_Lw_close) B (hg _ tk_Lw_close)
  have hE := hpE _ hPic
  have hS : va_S (fun q => A q ∨ q = ob) s.heap s.heap [] := va_S.rf
  refine lv_aload_n hx hb d_Lw_close_0 rfl (lv_at hl 2 rfl) ?_
  refine lv_iconst (v := 0) hx hb d_Lw_close_1 (by decide) ?_
  refine lv_aload_n hx hb d_Lw_close_2 rfl (lv_at hl 0 rfl) ?_
  refine lv_iload_n hx hb d_Lw_close_3 rfl (lv_at hl 1 rfl) ?_
  refine ep_callT (vx_runV (As := [.int a0]) (rest := [.int 0, .ref ob]) ⟨hx, hb, hml, hown, hg⟩ hM (ep_cwV 1 hg tw_323 tw_324 tw_325 tw_1 tk_EP_close rfl rfl (by decide +kernel) ⟨(Nat.le_of_ble_eq_true rfl), (Nat.le_of_ble_eq_true rfl)⟩) ⟨ep_blindX, va_recv (q0 := 0) (ci := 8) hK hE rfl rfl, ep_preX hKn (Zs.kept hZ hS (fun q h => Or.inl h)) hPic⟩ rfl rfl hl.1 rfl (lv_room (Nat.le_of_ble_eq_true rfl)) d_Lw_close_4 ⟨(Nat.le_of_ble_eq_true rfl), (Nat.le_of_ble_eq_true rfl)⟩) hS (fun q h => Or.inl h) (fun hk0 ce q9 H locs hsz9 hk1 hP1 hS hce hcv hcl => ?_) (fun hk0 H locs hsz9 hk1 hP1 hS => ?_)
  · have hO := wo_kc hO hk1 (fun k q hk h => by have h1 := wOut_in k q hk; rw [show q.1 = ob by omega] at h; exact hob h)
    rcases (show kap = 1 ∨ kap = 2 by omega) with rfl | rfl
    · refine vx_catch (own := "EditablePastLaw") (name := E_IAE) (E := E_IAE) hown [] _ _ htab (fun z hz => nomatch hz) rfl (by decide) (hg _ tw_223) (va_Nw.use rfl (hKn.2.2.2.1 (E_IAE, E_IAE) (by decide +kernel))) hce hcv hcl ?_
      refine W.eq (g2 := F0 m 12 ls [.ref q9]) rfl ?_
      refine lv_astore_n (lv' := [(3, .ref q9), (0, .ref o), (1, .int a0), (2, .ref ob)]) hx hb d_Lw_close_12 rfl hl (by decide) rfl (fun ls hl => ?_)
      refine lv_iconst (v := 1) hx hb d_Lw_close_13 (by decide) ?_
      exact W.iret (v := 1) hx hb hr (fun t9 ht hW => ⟨rfl, hS.F ht, by rw [ht]; exact ⟨hP1, fo, hO, fun h => absurd h (by decide)⟩⟩) hS.2.2 d_Lw_close_14
    · refine vx_catch (own := "EditablePastLaw") (name := E_ISE) (E := E_ISE) hown [_] _ _ htab (fun z hz => by cases List.mem_singleton.mp hz; exact Or.inr ⟨by decide, E_IAE, hg _ tw_223, hNx (E_ISE, E_IAE) (by decide +kernel)⟩) rfl (by decide) (hg _ tw_224) (va_Nw.use rfl (hKn.2.2.2.1 (E_ISE, E_ISE) (by decide +kernel))) hce hcv hcl ?_
      refine W.eq (g2 := F0 m 15 ls [.ref q9]) rfl ?_
      refine lv_astore_n (lv' := [(3, .ref q9), (0, .ref o), (1, .int a0), (2, .ref ob)]) hx hb d_Lw_close_15 rfl hl (by decide) rfl (fun ls hl => ?_)
      refine lv_iconst (v := 2) hx hb d_Lw_close_16 (by decide) ?_
      exact W.iret (v := 2) hx hb hr (fun t9 ht hW => ⟨rfl, hS.F ht, by rw [ht]; exact ⟨hP1, fo, hO, fun h => absurd h (by decide)⟩⟩) hS.2.2 d_Lw_close_17
  · subst hk0
    refine W.eq (g2 := F0 m 7 ls [.int r, .int 0, .ref ob]) rfl ?_
    have hO := wo_kc hO hk1 (fun k q hk h => by have h1 := wOut_in k q hk; rw [show q.1 = ob by omega] at h; exact hob h)
    have hD : va_D ((fun q => A q ∨ q = ob)) (wOut cJ ob fo) := wOut_D (Or.inr rfl)
    refine lv_i2l hx hb d_Lw_close_7 rfl ?_
    refine ep_keepL (x := r.toInt64) hx hb hK hO hD hS rfl d_Lw_close_8 (fun H2 locs2 hk2 hO hS => ?_)
    refine lv_goto (tgt := 18) hx hb d_Lw_close_9 (by decide) ?_
    refine lv_iconst (v := 0) hx hb d_Lw_close_18 (by decide) ?_
    exact W.iret (v := 0) hx hb hr (fun t9 ht hW => ⟨rfl, hS.F ht, by rw [ht]; exact ⟨hPs _ _ hk2 hP1, _, hO, fun _ => updL_at _ _ _⟩⟩) hS.2.2 d_Lw_close_19

set_option maxHeartbeats 4000000 in
set_option maxRecDepth 100000 in
theorem lw_put (l : Launch) (D : va_G) (cI cJ cZ cO : ClassId) (o : Nat) (a0 : Int32) (a1 : Int32) (a2 : Int32) (a3 : Int32) (a4 : Int32) (kap : Nat) (A : Nat → Prop) (Pic P : Heap → Prop) (hpE : ∀ H, Pic H → va_P D cls (wEP cO o) H) (hkap : kap ≤ 3)
    (hM : vx_Met l y_EP_put (k_EP_put :: gt) rx_EP_put (PcX D cI cJ cZ cO A [.ref o, .int a0, .int a1, .int a2, .int a3, .int a4] Pic) (Qt kap A none P) (Xt kap E_UOE A P) 1 6 A) :
    Met l y_Lw_put (k_Lw_put :: gt) rx_Lw_put (PcL D cI cJ cZ cO A [.ref o, .int a0, .int a1, .int a2, .int a3, .int a4] Pic) (Qd A (some (.int (nI kap))) P) 1 6 A := by
  refine va_MetW (cc := c_Lw_put) (maxL := 7) (ret := (Option.some FieldType.int)) (hh := [(0, 11, 14, 13), (0, 11, 18, 15), (0, 11, 22, 25)]) (by decide) rfl ?_
  intro p e s m args below meth c s₁ B hml hv
  obtain ⟨rfl, hKn, hZ, hNx, hPic⟩ := hv
  have hx := B.exec
  have hb := B.bytes
  have hr := B.returns
  have hts := atoms_spec (ws := k_Lw_put :: gt) B.pre
  have hg : ∀ w ∈ gt, w.before _ s = true := fun w h => hts w (List.mem_cons_of_mem _ h)
  have hown : s.vm.findClass R_Lw = some m.cls := findClass_of_methodNamed B.named
  have hlocks := B.notSynchronized
  have hK := hKn.1
  have hl := lv_entry ([.ref o, .int a0, .int a1, .int a2, .int a3, .int a4]) (n := 7) (Nat.le_of_ble_eq_true rfl)
  rw [lg_entry_eq]
  generalize (lg_sl ([.ref o, .int a0, .int a1, .int a2, .int a3, .int a4]) ++ List.replicate (7 - (lg_sl ([.ref o, .int a0, .int a1, .int a2, .int a3, .int a4])).length) Slot.unset).toArray = ls at hl ⊢
  have hl : lv_has ls 7 [(0, .ref o), (1, .int a0), (2, .int a1), (3, .int a2), (4, .int a3), (5, .int a4)] := hl
  have htab := vx_table (x := y_Lw_put) B (hg _ tk_Lw_put)
  have hE := hpE _ hPic
  have hS : va_S A s.heap s.heap [] := va_S.rf
  refine lv_aload_n hx hb d_Lw_put_0 rfl (lv_at hl 0 rfl) ?_
  refine lv_iload_n hx hb d_Lw_put_1 rfl (lv_at hl 1 rfl) ?_
  refine lv_iload_n hx hb d_Lw_put_2 rfl (lv_at hl 2 rfl) ?_
  refine lv_iload_n hx hb d_Lw_put_3 rfl (lv_at hl 3 rfl) ?_
  refine lv_iload hx hb d_Lw_put_4 (lv_at hl 4 rfl) ?_
  refine lv_iload hx hb d_Lw_put_6 (lv_at hl 5 rfl) ?_
  refine ep_callT (vx_runV (As := [.int a0, .int a1, .int a2, .int a3, .int a4]) (rest := []) ⟨hx, hb, hml, hown, hg⟩ hM (ep_cwV 5 hg tw_336 tw_337 tw_338 tw_1 tk_EP_put rfl rfl (by decide +kernel) ⟨(Nat.le_of_ble_eq_true rfl), (Nat.le_of_ble_eq_true rfl)⟩) ⟨ep_blindX, va_recv (q0 := 0) (ci := 8) hK hE rfl rfl, ep_preX hKn (Zs.kept hZ hS (fun q h => h)) hPic⟩ rfl rfl hl.1 rfl (lv_room (Nat.le_of_ble_eq_true rfl)) d_Lw_put_8 ⟨(Nat.le_of_ble_eq_true rfl), (Nat.le_of_ble_eq_true rfl)⟩) hS (fun q h => h) (fun hk0 ce q9 H locs hsz9 hk1 hP1 hS hce hcv hcl => ?_) (fun hk0 H locs hsz9 hk1 hP1 hS => ?_)
  · rcases (show kap = 1 ∨ kap = 2 ∨ kap = 3 by omega) with rfl | rfl | rfl
    · refine vx_catch (own := "EditablePastLaw") (name := E_IAE) (E := E_IAE) hown [] _ _ htab (fun z hz => nomatch hz) rfl (by decide) (hg _ tw_223) (va_Nw.use rfl (hKn.2.2.2.1 (E_IAE, E_IAE) (by decide +kernel))) hce hcv hcl ?_
      refine W.eq (g2 := F0 m 14 ls [.ref q9]) rfl ?_
      refine lv_astore (lv' := [(6, .ref q9), (0, .ref o), (1, .int a0), (2, .int a1), (3, .int a2), (4, .int a3), (5, .int a4)]) hx hb d_Lw_put_14 hl (by decide) rfl (fun ls hl => ?_)
      refine lv_iconst (v := 1) hx hb d_Lw_put_16 (by decide) ?_
      exact W.iret (v := 1) hx hb hr (fun t9 ht hW => ⟨rfl, hS.F ht, by rw [ht]; exact hP1⟩) hS.2.2 d_Lw_put_17
    · refine vx_catch (own := "EditablePastLaw") (name := E_ISE) (E := E_ISE) hown [_] _ _ htab (fun z hz => by cases List.mem_singleton.mp hz; exact Or.inr ⟨by decide, E_IAE, hg _ tw_223, hNx (E_ISE, E_IAE) (by decide +kernel)⟩) rfl (by decide) (hg _ tw_224) (va_Nw.use rfl (hKn.2.2.2.1 (E_ISE, E_ISE) (by decide +kernel))) hce hcv hcl ?_
      refine W.eq (g2 := F0 m 18 ls [.ref q9]) rfl ?_
      refine lv_astore (lv' := [(6, .ref q9), (0, .ref o), (1, .int a0), (2, .int a1), (3, .int a2), (4, .int a3), (5, .int a4)]) hx hb d_Lw_put_18 hl (by decide) rfl (fun ls hl => ?_)
      refine lv_iconst (v := 2) hx hb d_Lw_put_20 (by decide) ?_
      exact W.iret (v := 2) hx hb hr (fun t9 ht hW => ⟨rfl, hS.F ht, by rw [ht]; exact hP1⟩) hS.2.2 d_Lw_put_21
    · refine vx_catch (own := "EditablePastLaw") (name := E_UOE) (E := E_UOE) hown [_, _] _ _ htab (fun z hz => by rcases List.mem_cons.mp hz with h9 | h9; (cases h9; exact Or.inr ⟨by decide, E_IAE, hg _ tw_223, hNx (E_UOE, E_IAE) (by decide +kernel)⟩); (cases List.mem_singleton.mp h9; exact Or.inr ⟨by decide, E_ISE, hg _ tw_224, hNx (E_UOE, E_ISE) (by decide +kernel)⟩)) rfl (by decide) (hg _ tw_335) (va_Nw.use rfl (hKn.2.2.2.1 (E_UOE, E_UOE) (by decide +kernel))) hce hcv hcl ?_
      refine W.eq (g2 := F0 m 22 ls [.ref q9]) rfl ?_
      refine lv_astore (lv' := [(6, .ref q9), (0, .ref o), (1, .int a0), (2, .int a1), (3, .int a2), (4, .int a3), (5, .int a4)]) hx hb d_Lw_put_22 hl (by decide) rfl (fun ls hl => ?_)
      refine lv_iconst (v := 3) hx hb d_Lw_put_24 (by decide) ?_
      exact W.iret (v := 3) hx hb hr (fun t9 ht hW => ⟨rfl, hS.F ht, by rw [ht]; exact hP1⟩) hS.2.2 d_Lw_put_25
  · subst hk0
    refine W.eq (g2 := F0 m 11 ls []) rfl ?_
    refine lv_goto (tgt := 26) hx hb d_Lw_put_11 (by decide) ?_
    refine lv_iconst (v := 0) hx hb d_Lw_put_26 (by decide) ?_
    exact W.iret (v := 0) hx hb hr (fun t9 ht hW => ⟨rfl, hS.F ht, by rw [ht]; exact hP1⟩) hS.2.2 d_Lw_put_27

set_option maxHeartbeats 4000000 in
set_option maxRecDepth 100000 in
theorem lw_strike (l : Launch) (D : va_G) (cI cJ cZ cO : ClassId) (o : Nat) (ob : Nat) (fo : Nat → Int64) (a0 : Int32) (a1 : Int32) (r : Int32) (hr01 : r = 0 ∨ r = 1) (kap : Nat) (A : Nat → Prop) (Pic P : Heap → Prop) (hpE : ∀ H, Pic H → va_P D cls (wEP cO o) H) (hob : ¬ A ob) (hPs : ∀ H H1 : Heap, (∀ q : Nat, q < H.size → q ≠ ob → H1[q]? = H[q]?) → P H → P H1) (hkap : kap ≤ 2)
    (hM : vx_Met l y_EP_strike (k_EP_strike :: gt) rx_EP_strike (PcX D cI cJ cZ cO A [.ref o, .int a0, .int a1] Pic) (Qt kap A (some (.int r)) P) (Xt kap E_NSE A P) 1 6 A) :
    Met l y_Lw_strike (k_Lw_strike :: gt) rx_Lw_strike (PcL D cI cJ cZ cO (fun q => A q ∨ q = ob) [.ref o, .int a0, .int a1, .ref ob] (fun H => Pic H ∧ va_P D cls (wOut cJ ob fo) H)) (Qd (fun q => A q ∨ q = ob) (some (.int (nI kap))) (fun H => P H ∧ ∃ fo1 : Nat → Int64, va_P D cls (wOut cJ ob fo1) H ∧ (kap = 0 → fo1 0 = (if r = 0 then 0 else 1)))) 1 6 (fun q => A q ∨ q = ob) := by
  refine va_MetW (cc := c_Lw_strike) (maxL := 5) (ret := (Option.some FieldType.int)) (hh := [(0, 17, 20, 13), (0, 17, 24, 15)]) (by decide) rfl ?_
  intro p e s m args below meth c s₁ B hml hv
  obtain ⟨rfl, hKn, hZ, hNx, hPic, hO⟩ := hv
  have hx := B.exec
  have hb := B.bytes
  have hr := B.returns
  have hts := atoms_spec (ws := k_Lw_strike :: gt) B.pre
  have hg : ∀ w ∈ gt, w.before _ s = true := fun w h => hts w (List.mem_cons_of_mem _ h)
  have hown : s.vm.findClass R_Lw = some m.cls := findClass_of_methodNamed B.named
  have hlocks := B.notSynchronized
  have hK := hKn.1
  have hl := lv_entry ([.ref o, .int a0, .int a1, .ref ob]) (n := 5) (Nat.le_of_ble_eq_true rfl)
  rw [lg_entry_eq]
  generalize (lg_sl ([.ref o, .int a0, .int a1, .ref ob]) ++ List.replicate (5 - (lg_sl ([.ref o, .int a0, .int a1, .ref ob])).length) Slot.unset).toArray = ls at hl ⊢
  have hl : lv_has ls 5 [(0, .ref o), (1, .int a0), (2, .int a1), (3, .ref ob)] := hl
  have htab := vx_table (x := y_Lw_strike) B (hg _ tk_Lw_strike)
  have hE := hpE _ hPic
  have hS : va_S (fun q => A q ∨ q = ob) s.heap s.heap [] := va_S.rf
  refine lv_aload_n hx hb d_Lw_strike_0 rfl (lv_at hl 3 rfl) ?_
  refine lv_iconst (v := 0) hx hb d_Lw_strike_1 (by decide) ?_
  refine lv_aload_n hx hb d_Lw_strike_2 rfl (lv_at hl 0 rfl) ?_
  refine lv_iload_n hx hb d_Lw_strike_3 rfl (lv_at hl 1 rfl) ?_
  refine lv_iload_n hx hb d_Lw_strike_4 rfl (lv_at hl 2 rfl) ?_
  refine ep_callT (vx_runV (As := [.int a0, .int a1]) (rest := [.int 0, .ref ob]) ⟨hx, hb, hml, hown, hg⟩ hM (ep_cwV 2 hg tw_523 tw_524 tw_525 tw_1 tk_EP_strike rfl rfl (by decide +kernel) ⟨(Nat.le_of_ble_eq_true rfl), (Nat.le_of_ble_eq_true rfl)⟩) ⟨ep_blindX, va_recv (q0 := 0) (ci := 8) hK hE rfl rfl, ep_preX hKn (Zs.kept hZ hS (fun q h => Or.inl h)) hPic⟩ rfl rfl hl.1 rfl (lv_room (Nat.le_of_ble_eq_true rfl)) d_Lw_strike_5 ⟨(Nat.le_of_ble_eq_true rfl), (Nat.le_of_ble_eq_true rfl)⟩) hS (fun q h => Or.inl h) (fun hk0 ce q9 H locs hsz9 hk1 hP1 hS hce hcv hcl => ?_) (fun hk0 H locs hsz9 hk1 hP1 hS => ?_)
  · have hO := wo_kc hO hk1 (fun k q hk h => by have h1 := wOut_in k q hk; rw [show q.1 = ob by omega] at h; exact hob h)
    rcases (show kap = 1 ∨ kap = 2 by omega) with rfl | rfl
    · refine vx_catch (own := "EditablePastLaw") (name := E_IAE) (E := E_IAE) hown [] _ _ htab (fun z hz => nomatch hz) rfl (by decide) (hg _ tw_223) (va_Nw.use rfl (hKn.2.2.2.1 (E_IAE, E_IAE) (by decide +kernel))) hce hcv hcl ?_
      refine W.eq (g2 := F0 m 20 ls [.ref q9]) rfl ?_
      refine lv_astore (lv' := [(4, .ref q9), (0, .ref o), (1, .int a0), (2, .int a1), (3, .ref ob)]) hx hb d_Lw_strike_20 hl (by decide) rfl (fun ls hl => ?_)
      refine lv_iconst (v := 1) hx hb d_Lw_strike_22 (by decide) ?_
      exact W.iret (v := 1) hx hb hr (fun t9 ht hW => ⟨rfl, hS.F ht, by rw [ht]; exact ⟨hP1, fo, hO, fun h => absurd h (by decide)⟩⟩) hS.2.2 d_Lw_strike_23
    · refine vx_catch (own := "EditablePastLaw") (name := E_ISE) (E := E_ISE) hown [_] _ _ htab (fun z hz => by cases List.mem_singleton.mp hz; exact Or.inr ⟨by decide, E_IAE, hg _ tw_223, hNx (E_ISE, E_IAE) (by decide +kernel)⟩) rfl (by decide) (hg _ tw_224) (va_Nw.use rfl (hKn.2.2.2.1 (E_ISE, E_ISE) (by decide +kernel))) hce hcv hcl ?_
      refine W.eq (g2 := F0 m 24 ls [.ref q9]) rfl ?_
      refine lv_astore (lv' := [(4, .ref q9), (0, .ref o), (1, .int a0), (2, .int a1), (3, .ref ob)]) hx hb d_Lw_strike_24 hl (by decide) rfl (fun ls hl => ?_)
      refine lv_iconst (v := 2) hx hb d_Lw_strike_26 (by decide) ?_
      exact W.iret (v := 2) hx hb hr (fun t9 ht hW => ⟨rfl, hS.F ht, by rw [ht]; exact ⟨hP1, fo, hO, fun h => absurd h (by decide)⟩⟩) hS.2.2 d_Lw_strike_27
  · subst hk0
    refine W.eq (g2 := F0 m 8 ls [.int r, .int 0, .ref ob]) rfl ?_
    have hO := wo_kc hO hk1 (fun k q hk h => by have h1 := wOut_in k q hk; rw [show q.1 = ob by omega] at h; exact hob h)
    have hD : va_D ((fun q => A q ∨ q = ob)) (wOut cJ ob fo) := wOut_D (Or.inr rfl)
    refine lv_if_eq (tgt := 15) hx hb d_Lw_strike_8 (by decide) (fun hc => ?_) (fun hc => ?_)
    · refine lv_lconst (v := 0) hx hb d_Lw_strike_15 (by decide) ?_
      refine ep_keepL (x := 0) hx hb hK hO hD hS rfl d_Lw_strike_16 (fun H2 locs2 hk2 hO hS => ?_)
      refine lv_goto (tgt := 28) hx hb d_Lw_strike_17 (by decide) ?_
      refine lv_iconst (v := 0) hx hb d_Lw_strike_28 (by decide) ?_
      exact W.iret (v := 0) hx hb hr (fun t9 ht hW => ⟨rfl, hS.F ht, by rw [ht]; exact ⟨hPs _ _ hk2 hP1, _, hO, fun _ => (updL_at _ _ _).trans (if_pos hc).symm⟩⟩) hS.2.2 d_Lw_strike_29
    · refine lv_lconst (v := 1) hx hb d_Lw_strike_11 (by decide) ?_
      refine lv_goto (tgt := 16) hx hb d_Lw_strike_12 (by decide) ?_
      refine ep_keepL (x := 1) hx hb hK hO hD hS rfl d_Lw_strike_16 (fun H2 locs2 hk2 hO hS => ?_)
      refine lv_goto (tgt := 28) hx hb d_Lw_strike_17 (by decide) ?_
      refine lv_iconst (v := 0) hx hb d_Lw_strike_28 (by decide) ?_
      exact W.iret (v := 0) hx hb hr (fun t9 ht hW => ⟨rfl, hS.F ht, by rw [ht]; exact ⟨hPs _ _ hk2 hP1, _, hO, fun _ => (updL_at _ _ _).trans (if_neg hc).symm⟩⟩) hS.2.2 d_Lw_strike_29

set_option maxHeartbeats 4000000 in
set_option maxRecDepth 100000 in
theorem lw_shift (l : Launch) (D : va_G) (cI cJ cZ cO : ClassId) (o : Nat) (a0 : Int32) (a1 : Int32) (a2 : Int32) (kap : Nat) (A : Nat → Prop) (Pic P : Heap → Prop) (hpE : ∀ H, Pic H → va_P D cls (wEP cO o) H) (hkap : kap ≤ 3)
    (hM : vx_Met l y_EP_shift (k_EP_shift :: gt) rx_EP_shift (PcX D cI cJ cZ cO A [.ref o, .int a0, .int a1, .int a2] Pic) (Qt kap A none P) (Xt kap E_NSE A P) 1 6 A) :
    Met l y_Lw_shift (k_Lw_shift :: gt) rx_Lw_shift (PcL D cI cJ cZ cO A [.ref o, .int a0, .int a1, .int a2] Pic) (Qd A (some (.int (nI kap))) P) 1 6 A := by
  refine va_MetW (cc := c_Lw_shift) (maxL := 5) (ret := (Option.some FieldType.int)) (hh := [(0, 7, 10, 13), (0, 7, 14, 15), (0, 7, 18, 35)]) (by decide) rfl ?_
  intro p e s m args below meth c s₁ B hml hv
  obtain ⟨rfl, hKn, hZ, hNx, hPic⟩ := hv
  have hx := B.exec
  have hb := B.bytes
  have hr := B.returns
  have hts := atoms_spec (ws := k_Lw_shift :: gt) B.pre
  have hg : ∀ w ∈ gt, w.before _ s = true := fun w h => hts w (List.mem_cons_of_mem _ h)
  have hown : s.vm.findClass R_Lw = some m.cls := findClass_of_methodNamed B.named
  have hlocks := B.notSynchronized
  have hK := hKn.1
  have hl := lv_entry ([.ref o, .int a0, .int a1, .int a2]) (n := 5) (Nat.le_of_ble_eq_true rfl)
  rw [lg_entry_eq]
  generalize (lg_sl ([.ref o, .int a0, .int a1, .int a2]) ++ List.replicate (5 - (lg_sl ([.ref o, .int a0, .int a1, .int a2])).length) Slot.unset).toArray = ls at hl ⊢
  have hl : lv_has ls 5 [(0, .ref o), (1, .int a0), (2, .int a1), (3, .int a2)] := hl
  have htab := vx_table (x := y_Lw_shift) B (hg _ tk_Lw_shift)
  have hE := hpE _ hPic
  have hS : va_S A s.heap s.heap [] := va_S.rf
  refine lv_aload_n hx hb d_Lw_shift_0 rfl (lv_at hl 0 rfl) ?_
  refine lv_iload_n hx hb d_Lw_shift_1 rfl (lv_at hl 1 rfl) ?_
  refine lv_iload_n hx hb d_Lw_shift_2 rfl (lv_at hl 2 rfl) ?_
  refine lv_iload_n hx hb d_Lw_shift_3 rfl (lv_at hl 3 rfl) ?_
  refine ep_callT (vx_runV (As := [.int a0, .int a1, .int a2]) (rest := []) ⟨hx, hb, hml, hown, hg⟩ hM (ep_cwV 3 hg tw_535 tw_536 tw_537 tw_1 tk_EP_shift rfl rfl (by decide +kernel) ⟨(Nat.le_of_ble_eq_true rfl), (Nat.le_of_ble_eq_true rfl)⟩) ⟨ep_blindX, va_recv (q0 := 0) (ci := 8) hK hE rfl rfl, ep_preX hKn (Zs.kept hZ hS (fun q h => h)) hPic⟩ rfl rfl hl.1 rfl (lv_room (Nat.le_of_ble_eq_true rfl)) d_Lw_shift_4 ⟨(Nat.le_of_ble_eq_true rfl), (Nat.le_of_ble_eq_true rfl)⟩) hS (fun q h => h) (fun hk0 ce q9 H locs hsz9 hk1 hP1 hS hce hcv hcl => ?_) (fun hk0 H locs hsz9 hk1 hP1 hS => ?_)
  · rcases (show kap = 1 ∨ kap = 2 ∨ kap = 3 by omega) with rfl | rfl | rfl
    · refine vx_catch (own := "EditablePastLaw") (name := E_IAE) (E := E_IAE) hown [] _ _ htab (fun z hz => nomatch hz) rfl (by decide) (hg _ tw_223) (va_Nw.use rfl (hKn.2.2.2.1 (E_IAE, E_IAE) (by decide +kernel))) hce hcv hcl ?_
      refine W.eq (g2 := F0 m 10 ls [.ref q9]) rfl ?_
      refine lv_astore (lv' := [(4, .ref q9), (0, .ref o), (1, .int a0), (2, .int a1), (3, .int a2)]) hx hb d_Lw_shift_10 hl (by decide) rfl (fun ls hl => ?_)
      refine lv_iconst (v := 1) hx hb d_Lw_shift_12 (by decide) ?_
      exact W.iret (v := 1) hx hb hr (fun t9 ht hW => ⟨rfl, hS.F ht, by rw [ht]; exact hP1⟩) hS.2.2 d_Lw_shift_13
    · refine vx_catch (own := "EditablePastLaw") (name := E_ISE) (E := E_ISE) hown [_] _ _ htab (fun z hz => by cases List.mem_singleton.mp hz; exact Or.inr ⟨by decide, E_IAE, hg _ tw_223, hNx (E_ISE, E_IAE) (by decide +kernel)⟩) rfl (by decide) (hg _ tw_224) (va_Nw.use rfl (hKn.2.2.2.1 (E_ISE, E_ISE) (by decide +kernel))) hce hcv hcl ?_
      refine W.eq (g2 := F0 m 14 ls [.ref q9]) rfl ?_
      refine lv_astore (lv' := [(4, .ref q9), (0, .ref o), (1, .int a0), (2, .int a1), (3, .int a2)]) hx hb d_Lw_shift_14 hl (by decide) rfl (fun ls hl => ?_)
      refine lv_iconst (v := 2) hx hb d_Lw_shift_16 (by decide) ?_
      exact W.iret (v := 2) hx hb hr (fun t9 ht hW => ⟨rfl, hS.F ht, by rw [ht]; exact hP1⟩) hS.2.2 d_Lw_shift_17
    · refine vx_catch (own := "EditablePastLaw") (name := E_NSE) (E := E_NSE) hown [_, _] _ _ htab (fun z hz => by rcases List.mem_cons.mp hz with h9 | h9; (cases h9; exact Or.inr ⟨by decide, E_IAE, hg _ tw_223, hNx (E_NSE, E_IAE) (by decide +kernel)⟩); (cases List.mem_singleton.mp h9; exact Or.inr ⟨by decide, E_ISE, hg _ tw_224, hNx (E_NSE, E_ISE) (by decide +kernel)⟩)) rfl (by decide) (hg _ tw_534) (va_Nw.use rfl (hKn.2.2.2.1 (E_NSE, E_NSE) (by decide +kernel))) hce hcv hcl ?_
      refine W.eq (g2 := F0 m 18 ls [.ref q9]) rfl ?_
      refine lv_astore (lv' := [(4, .ref q9), (0, .ref o), (1, .int a0), (2, .int a1), (3, .int a2)]) hx hb d_Lw_shift_18 hl (by decide) rfl (fun ls hl => ?_)
      refine lv_iconst (v := 3) hx hb d_Lw_shift_20 (by decide) ?_
      exact W.iret (v := 3) hx hb hr (fun t9 ht hW => ⟨rfl, hS.F ht, by rw [ht]; exact hP1⟩) hS.2.2 d_Lw_shift_21
  · subst hk0
    refine W.eq (g2 := F0 m 7 ls []) rfl ?_
    refine lv_goto (tgt := 22) hx hb d_Lw_shift_7 (by decide) ?_
    refine lv_iconst (v := 0) hx hb d_Lw_shift_22 (by decide) ?_
    exact W.iret (v := 0) hx hb hr (fun t9 ht hW => ⟨rfl, hS.F ht, by rw [ht]; exact hP1⟩) hS.2.2 d_Lw_shift_23

set_option maxHeartbeats 4000000 in
set_option maxRecDepth 100000 in
theorem lw_front (l : Launch) (D : va_G) (cI cJ cZ cO : ClassId) (o : Nat) (ob : Nat) (fo : Nat → Int64) (a0 : Int32) (a1 : Int32) (r : Int32) (kap : Nat) (A : Nat → Prop) (Pic P : Heap → Prop) (hpE : ∀ H, Pic H → va_P D cls (wEP cO o) H) (hob : ¬ A ob) (hPs : ∀ H H1 : Heap, (∀ q : Nat, q < H.size → q ≠ ob → H1[q]? = H[q]?) → P H → P H1) (hkap : kap ≤ 3)
    (hM : vx_Met l y_EP_front (k_EP_front :: gt) rx_EP_front (PcX D cI cJ cZ cO A [.ref o, .int a0, .int a1] Pic) (Qt kap A (some (.int r)) P) (Xt kap E_NSE A P) 1 6 A) :
    Met l y_Lw_front (k_Lw_front :: gt) rx_Lw_front (PcL D cI cJ cZ cO (fun q => A q ∨ q = ob) [.ref o, .int a0, .int a1, .ref ob] (fun H => Pic H ∧ va_P D cls (wOut cJ ob fo) H)) (Qd (fun q => A q ∨ q = ob) (some (.int (nI kap))) (fun H => P H ∧ ∃ fo1 : Nat → Int64, va_P D cls (wOut cJ ob fo1) H ∧ (kap = 0 → fo1 0 = r.toInt64))) 1 6 (fun q => A q ∨ q = ob) := by
  refine va_MetW (cc := c_Lw_front) (maxL := 5) (ret := (Option.some FieldType.int)) (hh := [(0, 10, 13, 13), (0, 10, 17, 15), (0, 10, 21, 35)]) (by decide) rfl ?_
  intro p e s m args below meth c s₁ B hml hv
  obtain ⟨rfl, hKn, hZ, hNx, hPic, hO⟩ := hv
  have hx := B.exec
  have hb := B.bytes
  have hr := B.returns
  have hts := atoms_spec (ws := k_Lw_front :: gt) B.pre
  have hg : ∀ w ∈ gt, w.before _ s = true := fun w h => hts w (List.mem_cons_of_mem _ h)
  have hown : s.vm.findClass R_Lw = some m.cls := findClass_of_methodNamed B.named
  have hlocks := B.notSynchronized
  have hK := hKn.1
  have hl := lv_entry ([.ref o, .int a0, .int a1, .ref ob]) (n := 5) (Nat.le_of_ble_eq_true rfl)
  rw [lg_entry_eq]
  generalize (lg_sl ([.ref o, .int a0, .int a1, .ref ob]) ++ List.replicate (5 - (lg_sl ([.ref o, .int a0, .int a1, .ref ob])).length) Slot.unset).toArray = ls at hl ⊢
  have hl : lv_has ls 5 [(0, .ref o), (1, .int a0), (2, .int a1), (3, .ref ob)] := hl
  have htab := vx_table (x := y_Lw_front) B (hg _ tk_Lw_front)
  have hE := hpE _ hPic
  have hS : va_S (fun q => A q ∨ q = ob) s.heap s.heap [] := va_S.rf
  refine lv_aload_n hx hb d_Lw_front_0 rfl (lv_at hl 3 rfl) ?_
  refine lv_iconst (v := 0) hx hb d_Lw_front_1 (by decide) ?_
  refine lv_aload_n hx hb d_Lw_front_2 rfl (lv_at hl 0 rfl) ?_
  refine lv_iload_n hx hb d_Lw_front_3 rfl (lv_at hl 1 rfl) ?_
  refine lv_iload_n hx hb d_Lw_front_4 rfl (lv_at hl 2 rfl) ?_
  refine ep_callT (vx_runV (As := [.int a0, .int a1]) (rest := [.int 0, .ref ob]) ⟨hx, hb, hml, hown, hg⟩ hM (ep_cwV 2 hg tw_567 tw_568 tw_569 tw_1 tk_EP_front rfl rfl (by decide +kernel) ⟨(Nat.le_of_ble_eq_true rfl), (Nat.le_of_ble_eq_true rfl)⟩) ⟨ep_blindX, va_recv (q0 := 0) (ci := 8) hK hE rfl rfl, ep_preX hKn (Zs.kept hZ hS (fun q h => Or.inl h)) hPic⟩ rfl rfl hl.1 rfl (lv_room (Nat.le_of_ble_eq_true rfl)) d_Lw_front_5 ⟨(Nat.le_of_ble_eq_true rfl), (Nat.le_of_ble_eq_true rfl)⟩) hS (fun q h => Or.inl h) (fun hk0 ce q9 H locs hsz9 hk1 hP1 hS hce hcv hcl => ?_) (fun hk0 H locs hsz9 hk1 hP1 hS => ?_)
  · have hO := wo_kc hO hk1 (fun k q hk h => by have h1 := wOut_in k q hk; rw [show q.1 = ob by omega] at h; exact hob h)
    rcases (show kap = 1 ∨ kap = 2 ∨ kap = 3 by omega) with rfl | rfl | rfl
    · refine vx_catch (own := "EditablePastLaw") (name := E_IAE) (E := E_IAE) hown [] _ _ htab (fun z hz => nomatch hz) rfl (by decide) (hg _ tw_223) (va_Nw.use rfl (hKn.2.2.2.1 (E_IAE, E_IAE) (by decide +kernel))) hce hcv hcl ?_
      refine W.eq (g2 := F0 m 13 ls [.ref q9]) rfl ?_
      refine lv_astore (lv' := [(4, .ref q9), (0, .ref o), (1, .int a0), (2, .int a1), (3, .ref ob)]) hx hb d_Lw_front_13 hl (by decide) rfl (fun ls hl => ?_)
      refine lv_iconst (v := 1) hx hb d_Lw_front_15 (by decide) ?_
      exact W.iret (v := 1) hx hb hr (fun t9 ht hW => ⟨rfl, hS.F ht, by rw [ht]; exact ⟨hP1, fo, hO, fun h => absurd h (by decide)⟩⟩) hS.2.2 d_Lw_front_16
    · refine vx_catch (own := "EditablePastLaw") (name := E_ISE) (E := E_ISE) hown [_] _ _ htab (fun z hz => by cases List.mem_singleton.mp hz; exact Or.inr ⟨by decide, E_IAE, hg _ tw_223, hNx (E_ISE, E_IAE) (by decide +kernel)⟩) rfl (by decide) (hg _ tw_224) (va_Nw.use rfl (hKn.2.2.2.1 (E_ISE, E_ISE) (by decide +kernel))) hce hcv hcl ?_
      refine W.eq (g2 := F0 m 17 ls [.ref q9]) rfl ?_
      refine lv_astore (lv' := [(4, .ref q9), (0, .ref o), (1, .int a0), (2, .int a1), (3, .ref ob)]) hx hb d_Lw_front_17 hl (by decide) rfl (fun ls hl => ?_)
      refine lv_iconst (v := 2) hx hb d_Lw_front_19 (by decide) ?_
      exact W.iret (v := 2) hx hb hr (fun t9 ht hW => ⟨rfl, hS.F ht, by rw [ht]; exact ⟨hP1, fo, hO, fun h => absurd h (by decide)⟩⟩) hS.2.2 d_Lw_front_20
    · refine vx_catch (own := "EditablePastLaw") (name := E_NSE) (E := E_NSE) hown [_, _] _ _ htab (fun z hz => by rcases List.mem_cons.mp hz with h9 | h9; (cases h9; exact Or.inr ⟨by decide, E_IAE, hg _ tw_223, hNx (E_NSE, E_IAE) (by decide +kernel)⟩); (cases List.mem_singleton.mp h9; exact Or.inr ⟨by decide, E_ISE, hg _ tw_224, hNx (E_NSE, E_ISE) (by decide +kernel)⟩)) rfl (by decide) (hg _ tw_534) (va_Nw.use rfl (hKn.2.2.2.1 (E_NSE, E_NSE) (by decide +kernel))) hce hcv hcl ?_
      refine W.eq (g2 := F0 m 21 ls [.ref q9]) rfl ?_
      refine lv_astore (lv' := [(4, .ref q9), (0, .ref o), (1, .int a0), (2, .int a1), (3, .ref ob)]) hx hb d_Lw_front_21 hl (by decide) rfl (fun ls hl => ?_)
      refine lv_iconst (v := 3) hx hb d_Lw_front_23 (by decide) ?_
      exact W.iret (v := 3) hx hb hr (fun t9 ht hW => ⟨rfl, hS.F ht, by rw [ht]; exact ⟨hP1, fo, hO, fun h => absurd h (by decide)⟩⟩) hS.2.2 d_Lw_front_24
  · subst hk0
    refine W.eq (g2 := F0 m 8 ls [.int r, .int 0, .ref ob]) rfl ?_
    have hO := wo_kc hO hk1 (fun k q hk h => by have h1 := wOut_in k q hk; rw [show q.1 = ob by omega] at h; exact hob h)
    have hD : va_D ((fun q => A q ∨ q = ob)) (wOut cJ ob fo) := wOut_D (Or.inr rfl)
    refine lv_i2l hx hb d_Lw_front_8 rfl ?_
    refine ep_keepL (x := r.toInt64) hx hb hK hO hD hS rfl d_Lw_front_9 (fun H2 locs2 hk2 hO hS => ?_)
    refine lv_goto (tgt := 25) hx hb d_Lw_front_10 (by decide) ?_
    refine lv_iconst (v := 0) hx hb d_Lw_front_25 (by decide) ?_
    exact W.iret (v := 0) hx hb hr (fun t9 ht hW => ⟨rfl, hS.F ht, by rw [ht]; exact ⟨hPs _ _ hk2 hP1, _, hO, fun _ => updL_at _ _ _⟩⟩) hS.2.2 d_Lw_front_26

set_option maxHeartbeats 4000000 in
set_option maxRecDepth 100000 in
theorem lw_size (l : Launch) (D : va_G) (cI cJ cZ cO : ClassId) (o : Nat) (ob : Nat) (fo : Nat → Int64) (a0 : Int32) (a1 : Int32) (r : Int32) (kap : Nat) (A : Nat → Prop) (Pic P : Heap → Prop) (hpE : ∀ H, Pic H → va_P D cls (wEP cO o) H) (hob : ¬ A ob) (hPs : ∀ H H1 : Heap, (∀ q : Nat, q < H.size → q ≠ ob → H1[q]? = H[q]?) → P H → P H1) (hkap : kap ≤ 2)
    (hM : vx_Met l y_EP_size (k_EP_size :: gt) rx_EP_size (PcX D cI cJ cZ cO A [.ref o, .int a0, .int a1] Pic) (Qt kap A (some (.int r)) P) (Xt kap E_NSE A P) 1 6 A) :
    Met l y_Lw_size (k_Lw_size :: gt) rx_Lw_size (PcL D cI cJ cZ cO (fun q => A q ∨ q = ob) [.ref o, .int a0, .int a1, .ref ob] (fun H => Pic H ∧ va_P D cls (wOut cJ ob fo) H)) (Qd (fun q => A q ∨ q = ob) (some (.int (nI kap))) (fun H => P H ∧ ∃ fo1 : Nat → Int64, va_P D cls (wOut cJ ob fo1) H ∧ (kap = 0 → fo1 0 = r.toInt64))) 1 6 (fun q => A q ∨ q = ob) := by
  refine va_MetW (cc := c_Lw_size) (maxL := 5) (ret := (Option.some FieldType.int)) (hh := [(0, 10, 13, 13), (0, 10, 17, 15)]) (by decide) rfl ?_
  intro p e s m args below meth c s₁ B hml hv
  obtain ⟨rfl, hKn, hZ, hNx, hPic, hO⟩ := hv
  have hx := B.exec
  have hb := B.bytes
  have hr := B.returns
  have hts := atoms_spec (ws := k_Lw_size :: gt) B.pre
  have hg : ∀ w ∈ gt, w.before _ s = true := fun w h => hts w (List.mem_cons_of_mem _ h)
  have hown : s.vm.findClass R_Lw = some m.cls := findClass_of_methodNamed B.named
  have hlocks := B.notSynchronized
  have hK := hKn.1
  have hl := lv_entry ([.ref o, .int a0, .int a1, .ref ob]) (n := 5) (Nat.le_of_ble_eq_true rfl)
  rw [lg_entry_eq]
  generalize (lg_sl ([.ref o, .int a0, .int a1, .ref ob]) ++ List.replicate (5 - (lg_sl ([.ref o, .int a0, .int a1, .ref ob])).length) Slot.unset).toArray = ls at hl ⊢
  have hl : lv_has ls 5 [(0, .ref o), (1, .int a0), (2, .int a1), (3, .ref ob)] := hl
  have htab := vx_table (x := y_Lw_size) B (hg _ tk_Lw_size)
  have hE := hpE _ hPic
  have hS : va_S (fun q => A q ∨ q = ob) s.heap s.heap [] := va_S.rf
  refine lv_aload_n hx hb d_Lw_size_0 rfl (lv_at hl 3 rfl) ?_
  refine lv_iconst (v := 0) hx hb d_Lw_size_1 (by decide) ?_
  refine lv_aload_n hx hb d_Lw_size_2 rfl (lv_at hl 0 rfl) ?_
  refine lv_iload_n hx hb d_Lw_size_3 rfl (lv_at hl 1 rfl) ?_
  refine lv_iload_n hx hb d_Lw_size_4 rfl (lv_at hl 2 rfl) ?_
  refine ep_callT (vx_runV (As := [.int a0, .int a1]) (rest := [.int 0, .ref ob]) ⟨hx, hb, hml, hown, hg⟩ hM (ep_cwV 2 hg tw_583 tw_584 tw_585 tw_1 tk_EP_size rfl rfl (by decide +kernel) ⟨(Nat.le_of_ble_eq_true rfl), (Nat.le_of_ble_eq_true rfl)⟩) ⟨ep_blindX, va_recv (q0 := 0) (ci := 8) hK hE rfl rfl, ep_preX hKn (Zs.kept hZ hS (fun q h => Or.inl h)) hPic⟩ rfl rfl hl.1 rfl (lv_room (Nat.le_of_ble_eq_true rfl)) d_Lw_size_5 ⟨(Nat.le_of_ble_eq_true rfl), (Nat.le_of_ble_eq_true rfl)⟩) hS (fun q h => Or.inl h) (fun hk0 ce q9 H locs hsz9 hk1 hP1 hS hce hcv hcl => ?_) (fun hk0 H locs hsz9 hk1 hP1 hS => ?_)
  · have hO := wo_kc hO hk1 (fun k q hk h => by have h1 := wOut_in k q hk; rw [show q.1 = ob by omega] at h; exact hob h)
    rcases (show kap = 1 ∨ kap = 2 by omega) with rfl | rfl
    · refine vx_catch (own := "EditablePastLaw") (name := E_IAE) (E := E_IAE) hown [] _ _ htab (fun z hz => nomatch hz) rfl (by decide) (hg _ tw_223) (va_Nw.use rfl (hKn.2.2.2.1 (E_IAE, E_IAE) (by decide +kernel))) hce hcv hcl ?_
      refine W.eq (g2 := F0 m 13 ls [.ref q9]) rfl ?_
      refine lv_astore (lv' := [(4, .ref q9), (0, .ref o), (1, .int a0), (2, .int a1), (3, .ref ob)]) hx hb d_Lw_size_13 hl (by decide) rfl (fun ls hl => ?_)
      refine lv_iconst (v := 1) hx hb d_Lw_size_15 (by decide) ?_
      exact W.iret (v := 1) hx hb hr (fun t9 ht hW => ⟨rfl, hS.F ht, by rw [ht]; exact ⟨hP1, fo, hO, fun h => absurd h (by decide)⟩⟩) hS.2.2 d_Lw_size_16
    · refine vx_catch (own := "EditablePastLaw") (name := E_ISE) (E := E_ISE) hown [_] _ _ htab (fun z hz => by cases List.mem_singleton.mp hz; exact Or.inr ⟨by decide, E_IAE, hg _ tw_223, hNx (E_ISE, E_IAE) (by decide +kernel)⟩) rfl (by decide) (hg _ tw_224) (va_Nw.use rfl (hKn.2.2.2.1 (E_ISE, E_ISE) (by decide +kernel))) hce hcv hcl ?_
      refine W.eq (g2 := F0 m 17 ls [.ref q9]) rfl ?_
      refine lv_astore (lv' := [(4, .ref q9), (0, .ref o), (1, .int a0), (2, .int a1), (3, .ref ob)]) hx hb d_Lw_size_17 hl (by decide) rfl (fun ls hl => ?_)
      refine lv_iconst (v := 2) hx hb d_Lw_size_19 (by decide) ?_
      exact W.iret (v := 2) hx hb hr (fun t9 ht hW => ⟨rfl, hS.F ht, by rw [ht]; exact ⟨hP1, fo, hO, fun h => absurd h (by decide)⟩⟩) hS.2.2 d_Lw_size_20
  · subst hk0
    refine W.eq (g2 := F0 m 8 ls [.int r, .int 0, .ref ob]) rfl ?_
    have hO := wo_kc hO hk1 (fun k q hk h => by have h1 := wOut_in k q hk; rw [show q.1 = ob by omega] at h; exact hob h)
    have hD : va_D ((fun q => A q ∨ q = ob)) (wOut cJ ob fo) := wOut_D (Or.inr rfl)
    refine lv_i2l hx hb d_Lw_size_8 rfl ?_
    refine ep_keepL (x := r.toInt64) hx hb hK hO hD hS rfl d_Lw_size_9 (fun H2 locs2 hk2 hO hS => ?_)
    refine lv_goto (tgt := 21) hx hb d_Lw_size_10 (by decide) ?_
    refine lv_iconst (v := 0) hx hb d_Lw_size_21 (by decide) ?_
    exact W.iret (v := 0) hx hb hr (fun t9 ht hW => ⟨rfl, hS.F ht, by rw [ht]; exact ⟨hPs _ _ hk2 hP1, _, hO, fun _ => updL_at _ _ _⟩⟩) hS.2.2 d_Lw_size_22

set_option maxHeartbeats 4000000 in
set_option maxRecDepth 100000 in
theorem lw_at (l : Launch) (D : va_G) (cI cJ cZ cO : ClassId) (o : Nat) (ob : Nat) (fo : Nat → Int64) (a0 : Int32) (a1 : Int32) (a2 : Int32) (r : Int32) (kap : Nat) (A : Nat → Prop) (Pic P : Heap → Prop) (hpE : ∀ H, Pic H → va_P D cls (wEP cO o) H) (hob : ¬ A ob) (hPs : ∀ H H1 : Heap, (∀ q : Nat, q < H.size → q ≠ ob → H1[q]? = H[q]?) → P H → P H1) (hkap : kap ≤ 3)
    (hM : vx_Met l y_EP_at (k_EP_at :: gt) rx_EP_at (PcX D cI cJ cZ cO A [.ref o, .int a0, .int a1, .int a2] Pic) (Qt kap A (some (.int r)) P) (Xt kap E_NSE A P) 1 6 A) :
    Met l y_Lw_at (k_Lw_at :: gt) rx_Lw_at (PcL D cI cJ cZ cO (fun q => A q ∨ q = ob) [.ref o, .int a0, .int a1, .int a2, .ref ob] (fun H => Pic H ∧ va_P D cls (wOut cJ ob fo) H)) (Qd (fun q => A q ∨ q = ob) (some (.int (nI kap))) (fun H => P H ∧ ∃ fo1 : Nat → Int64, va_P D cls (wOut cJ ob fo1) H ∧ (kap = 0 → fo1 0 = r.toInt64))) 1 6 (fun q => A q ∨ q = ob) := by
  refine va_MetW (cc := c_Lw_at) (maxL := 6) (ret := (Option.some FieldType.int)) (hh := [(0, 12, 15, 13), (0, 12, 19, 15), (0, 12, 23, 35)]) (by decide) rfl ?_
  intro p e s m args below meth c s₁ B hml hv
  obtain ⟨rfl, hKn, hZ, hNx, hPic, hO⟩ := hv
  have hx := B.exec
  have hb := B.bytes
  have hr := B.returns
  have hts := atoms_spec (ws := k_Lw_at :: gt) B.pre
  have hg : ∀ w ∈ gt, w.before _ s = true := fun w h => hts w (List.mem_cons_of_mem _ h)
  have hown : s.vm.findClass R_Lw = some m.cls := findClass_of_methodNamed B.named
  have hlocks := B.notSynchronized
  have hK := hKn.1
  have hl := lv_entry ([.ref o, .int a0, .int a1, .int a2, .ref ob]) (n := 6) (Nat.le_of_ble_eq_true rfl)
  rw [lg_entry_eq]
  generalize (lg_sl ([.ref o, .int a0, .int a1, .int a2, .ref ob]) ++ List.replicate (6 - (lg_sl ([.ref o, .int a0, .int a1, .int a2, .ref ob])).length) Slot.unset).toArray = ls at hl ⊢
  have hl : lv_has ls 6 [(0, .ref o), (1, .int a0), (2, .int a1), (3, .int a2), (4, .ref ob)] := hl
  have htab := vx_table (x := y_Lw_at) B (hg _ tk_Lw_at)
  have hE := hpE _ hPic
  have hS : va_S (fun q => A q ∨ q = ob) s.heap s.heap [] := va_S.rf
  refine lv_aload hx hb d_Lw_at_0 (lv_at hl 4 rfl) ?_
  refine lv_iconst (v := 0) hx hb d_Lw_at_2 (by decide) ?_
  refine lv_aload_n hx hb d_Lw_at_3 rfl (lv_at hl 0 rfl) ?_
  refine lv_iload_n hx hb d_Lw_at_4 rfl (lv_at hl 1 rfl) ?_
  refine lv_iload_n hx hb d_Lw_at_5 rfl (lv_at hl 2 rfl) ?_
  refine lv_iload_n hx hb d_Lw_at_6 rfl (lv_at hl 3 rfl) ?_
  refine ep_callT (vx_runV (As := [.int a0, .int a1, .int a2]) (rest := [.int 0, .ref ob]) ⟨hx, hb, hml, hown, hg⟩ hM (ep_cwV 3 hg tw_590 tw_591 tw_592 tw_1 tk_EP_at rfl rfl (by decide +kernel) ⟨(Nat.le_of_ble_eq_true rfl), (Nat.le_of_ble_eq_true rfl)⟩) ⟨ep_blindX, va_recv (q0 := 0) (ci := 8) hK hE rfl rfl, ep_preX hKn (Zs.kept hZ hS (fun q h => Or.inl h)) hPic⟩ rfl rfl hl.1 rfl (lv_room (Nat.le_of_ble_eq_true rfl)) d_Lw_at_7 ⟨(Nat.le_of_ble_eq_true rfl), (Nat.le_of_ble_eq_true rfl)⟩) hS (fun q h => Or.inl h) (fun hk0 ce q9 H locs hsz9 hk1 hP1 hS hce hcv hcl => ?_) (fun hk0 H locs hsz9 hk1 hP1 hS => ?_)
  · have hO := wo_kc hO hk1 (fun k q hk h => by have h1 := wOut_in k q hk; rw [show q.1 = ob by omega] at h; exact hob h)
    rcases (show kap = 1 ∨ kap = 2 ∨ kap = 3 by omega) with rfl | rfl | rfl
    · refine vx_catch (own := "EditablePastLaw") (name := E_IAE) (E := E_IAE) hown [] _ _ htab (fun z hz => nomatch hz) rfl (by decide) (hg _ tw_223) (va_Nw.use rfl (hKn.2.2.2.1 (E_IAE, E_IAE) (by decide +kernel))) hce hcv hcl ?_
      refine W.eq (g2 := F0 m 15 ls [.ref q9]) rfl ?_
      refine lv_astore (lv' := [(5, .ref q9), (0, .ref o), (1, .int a0), (2, .int a1), (3, .int a2), (4, .ref ob)]) hx hb d_Lw_at_15 hl (by decide) rfl (fun ls hl => ?_)
      refine lv_iconst (v := 1) hx hb d_Lw_at_17 (by decide) ?_
      exact W.iret (v := 1) hx hb hr (fun t9 ht hW => ⟨rfl, hS.F ht, by rw [ht]; exact ⟨hP1, fo, hO, fun h => absurd h (by decide)⟩⟩) hS.2.2 d_Lw_at_18
    · refine vx_catch (own := "EditablePastLaw") (name := E_ISE) (E := E_ISE) hown [_] _ _ htab (fun z hz => by cases List.mem_singleton.mp hz; exact Or.inr ⟨by decide, E_IAE, hg _ tw_223, hNx (E_ISE, E_IAE) (by decide +kernel)⟩) rfl (by decide) (hg _ tw_224) (va_Nw.use rfl (hKn.2.2.2.1 (E_ISE, E_ISE) (by decide +kernel))) hce hcv hcl ?_
      refine W.eq (g2 := F0 m 19 ls [.ref q9]) rfl ?_
      refine lv_astore (lv' := [(5, .ref q9), (0, .ref o), (1, .int a0), (2, .int a1), (3, .int a2), (4, .ref ob)]) hx hb d_Lw_at_19 hl (by decide) rfl (fun ls hl => ?_)
      refine lv_iconst (v := 2) hx hb d_Lw_at_21 (by decide) ?_
      exact W.iret (v := 2) hx hb hr (fun t9 ht hW => ⟨rfl, hS.F ht, by rw [ht]; exact ⟨hP1, fo, hO, fun h => absurd h (by decide)⟩⟩) hS.2.2 d_Lw_at_22
    · refine vx_catch (own := "EditablePastLaw") (name := E_NSE) (E := E_NSE) hown [_, _] _ _ htab (fun z hz => by rcases List.mem_cons.mp hz with h9 | h9; (cases h9; exact Or.inr ⟨by decide, E_IAE, hg _ tw_223, hNx (E_NSE, E_IAE) (by decide +kernel)⟩); (cases List.mem_singleton.mp h9; exact Or.inr ⟨by decide, E_ISE, hg _ tw_224, hNx (E_NSE, E_ISE) (by decide +kernel)⟩)) rfl (by decide) (hg _ tw_534) (va_Nw.use rfl (hKn.2.2.2.1 (E_NSE, E_NSE) (by decide +kernel))) hce hcv hcl ?_
      refine W.eq (g2 := F0 m 23 ls [.ref q9]) rfl ?_
      refine lv_astore (lv' := [(5, .ref q9), (0, .ref o), (1, .int a0), (2, .int a1), (3, .int a2), (4, .ref ob)]) hx hb d_Lw_at_23 hl (by decide) rfl (fun ls hl => ?_)
      refine lv_iconst (v := 3) hx hb d_Lw_at_25 (by decide) ?_
      exact W.iret (v := 3) hx hb hr (fun t9 ht hW => ⟨rfl, hS.F ht, by rw [ht]; exact ⟨hP1, fo, hO, fun h => absurd h (by decide)⟩⟩) hS.2.2 d_Lw_at_26
  · subst hk0
    refine W.eq (g2 := F0 m 10 ls [.int r, .int 0, .ref ob]) rfl ?_
    have hO := wo_kc hO hk1 (fun k q hk h => by have h1 := wOut_in k q hk; rw [show q.1 = ob by omega] at h; exact hob h)
    have hD : va_D ((fun q => A q ∨ q = ob)) (wOut cJ ob fo) := wOut_D (Or.inr rfl)
    refine lv_i2l hx hb d_Lw_at_10 rfl ?_
    refine ep_keepL (x := r.toInt64) hx hb hK hO hD hS rfl d_Lw_at_11 (fun H2 locs2 hk2 hO hS => ?_)
    refine lv_goto (tgt := 27) hx hb d_Lw_at_12 (by decide) ?_
    refine lv_iconst (v := 0) hx hb d_Lw_at_27 (by decide) ?_
    exact W.iret (v := 0) hx hb hr (fun t9 ht hW => ⟨rfl, hS.F ht, by rw [ht]; exact ⟨hPs _ _ hk2 hP1, _, hO, fun _ => updL_at _ _ _⟩⟩) hS.2.2 d_Lw_at_28

set_option maxHeartbeats 4000000 in
set_option maxRecDepth 100000 in
theorem lw_least (l : Launch) (D : va_G) (cI cJ cZ cO : ClassId) (o : Nat) (ob : Nat) (fo : Nat → Int64) (a0 : Int32) (a1 : Int32) (a2 : Int32) (r : Int32) (kap : Nat) (A : Nat → Prop) (Pic P : Heap → Prop) (hpE : ∀ H, Pic H → va_P D cls (wEP cO o) H) (hob : ¬ A ob) (hPs : ∀ H H1 : Heap, (∀ q : Nat, q < H.size → q ≠ ob → H1[q]? = H[q]?) → P H → P H1) (hkap : kap ≤ 3)
    (hM : vx_Met l y_EP_least (k_EP_least :: gt) rx_EP_least (PcX D cI cJ cZ cO A [.ref o, .int a0, .int a1, .int a2] Pic) (Qt kap A (some (.int r)) P) (Xt kap E_IOB A P) 1 6 A) :
    Met l y_Lw_least (k_Lw_least :: gt) rx_Lw_least (PcL D cI cJ cZ cO (fun q => A q ∨ q = ob) [.ref o, .int a0, .int a1, .int a2, .ref ob] (fun H => Pic H ∧ va_P D cls (wOut cJ ob fo) H)) (Qd (fun q => A q ∨ q = ob) (some (.int (nI kap))) (fun H => P H ∧ ∃ fo1 : Nat → Int64, va_P D cls (wOut cJ ob fo1) H ∧ (kap = 0 → fo1 0 = r.toInt64))) 1 6 (fun q => A q ∨ q = ob) := by
  refine va_MetW (cc := c_Lw_least) (maxL := 6) (ret := (Option.some FieldType.int)) (hh := [(0, 12, 15, 13), (0, 12, 19, 15), (0, 12, 23, 51)]) (by decide) rfl ?_
  intro p e s m args below meth c s₁ B hml hv
  obtain ⟨rfl, hKn, hZ, hNx, hPic, hO⟩ := hv
  have hx := B.exec
  have hb := B.bytes
  have hr := B.returns
  have hts := atoms_spec (ws := k_Lw_least :: gt) B.pre
  have hg : ∀ w ∈ gt, w.before _ s = true := fun w h => hts w (List.mem_cons_of_mem _ h)
  have hown : s.vm.findClass R_Lw = some m.cls := findClass_of_methodNamed B.named
  have hlocks := B.notSynchronized
  have hK := hKn.1
  have hl := lv_entry ([.ref o, .int a0, .int a1, .int a2, .ref ob]) (n := 6) (Nat.le_of_ble_eq_true rfl)
  rw [lg_entry_eq]
  generalize (lg_sl ([.ref o, .int a0, .int a1, .int a2, .ref ob]) ++ List.replicate (6 - (lg_sl ([.ref o, .int a0, .int a1, .int a2, .ref ob])).length) Slot.unset).toArray = ls at hl ⊢
  have hl : lv_has ls 6 [(0, .ref o), (1, .int a0), (2, .int a1), (3, .int a2), (4, .ref ob)] := hl
  have htab := vx_table (x := y_Lw_least) B (hg _ tk_Lw_least)
  have hE := hpE _ hPic
  have hS : va_S (fun q => A q ∨ q = ob) s.heap s.heap [] := va_S.rf
  refine lv_aload hx hb d_Lw_least_0 (lv_at hl 4 rfl) ?_
  refine lv_iconst (v := 0) hx hb d_Lw_least_2 (by decide) ?_
  refine lv_aload_n hx hb d_Lw_least_3 rfl (lv_at hl 0 rfl) ?_
  refine lv_iload_n hx hb d_Lw_least_4 rfl (lv_at hl 1 rfl) ?_
  refine lv_iload_n hx hb d_Lw_least_5 rfl (lv_at hl 2 rfl) ?_
  refine lv_iload_n hx hb d_Lw_least_6 rfl (lv_at hl 3 rfl) ?_
  refine ep_callT (vx_runV (As := [.int a0, .int a1, .int a2]) (rest := [.int 0, .ref ob]) ⟨hx, hb, hml, hown, hg⟩ hM (ep_cwV 3 hg tw_600 tw_601 tw_602 tw_1 tk_EP_least rfl rfl (by decide +kernel) ⟨(Nat.le_of_ble_eq_true rfl), (Nat.le_of_ble_eq_true rfl)⟩) ⟨ep_blindX, va_recv (q0 := 0) (ci := 8) hK hE rfl rfl, ep_preX hKn (Zs.kept hZ hS (fun q h => Or.inl h)) hPic⟩ rfl rfl hl.1 rfl (lv_room (Nat.le_of_ble_eq_true rfl)) d_Lw_least_7 ⟨(Nat.le_of_ble_eq_true rfl), (Nat.le_of_ble_eq_true rfl)⟩) hS (fun q h => Or.inl h) (fun hk0 ce q9 H locs hsz9 hk1 hP1 hS hce hcv hcl => ?_) (fun hk0 H locs hsz9 hk1 hP1 hS => ?_)
  · have hO := wo_kc hO hk1 (fun k q hk h => by have h1 := wOut_in k q hk; rw [show q.1 = ob by omega] at h; exact hob h)
    rcases (show kap = 1 ∨ kap = 2 ∨ kap = 3 by omega) with rfl | rfl | rfl
    · refine vx_catch (own := "EditablePastLaw") (name := E_IAE) (E := E_IAE) hown [] _ _ htab (fun z hz => nomatch hz) rfl (by decide) (hg _ tw_223) (va_Nw.use rfl (hKn.2.2.2.1 (E_IAE, E_IAE) (by decide +kernel))) hce hcv hcl ?_
      refine W.eq (g2 := F0 m 15 ls [.ref q9]) rfl ?_
      refine lv_astore (lv' := [(5, .ref q9), (0, .ref o), (1, .int a0), (2, .int a1), (3, .int a2), (4, .ref ob)]) hx hb d_Lw_least_15 hl (by decide) rfl (fun ls hl => ?_)
      refine lv_iconst (v := 1) hx hb d_Lw_least_17 (by decide) ?_
      exact W.iret (v := 1) hx hb hr (fun t9 ht hW => ⟨rfl, hS.F ht, by rw [ht]; exact ⟨hP1, fo, hO, fun h => absurd h (by decide)⟩⟩) hS.2.2 d_Lw_least_18
    · refine vx_catch (own := "EditablePastLaw") (name := E_ISE) (E := E_ISE) hown [_] _ _ htab (fun z hz => by cases List.mem_singleton.mp hz; exact Or.inr ⟨by decide, E_IAE, hg _ tw_223, hNx (E_ISE, E_IAE) (by decide +kernel)⟩) rfl (by decide) (hg _ tw_224) (va_Nw.use rfl (hKn.2.2.2.1 (E_ISE, E_ISE) (by decide +kernel))) hce hcv hcl ?_
      refine W.eq (g2 := F0 m 19 ls [.ref q9]) rfl ?_
      refine lv_astore (lv' := [(5, .ref q9), (0, .ref o), (1, .int a0), (2, .int a1), (3, .int a2), (4, .ref ob)]) hx hb d_Lw_least_19 hl (by decide) rfl (fun ls hl => ?_)
      refine lv_iconst (v := 2) hx hb d_Lw_least_21 (by decide) ?_
      exact W.iret (v := 2) hx hb hr (fun t9 ht hW => ⟨rfl, hS.F ht, by rw [ht]; exact ⟨hP1, fo, hO, fun h => absurd h (by decide)⟩⟩) hS.2.2 d_Lw_least_22
    · refine vx_catch (own := "EditablePastLaw") (name := E_IOB) (E := E_IOB) hown [_, _] _ _ htab (fun z hz => by rcases List.mem_cons.mp hz with h9 | h9; (cases h9; exact Or.inr ⟨by decide, E_IAE, hg _ tw_223, hNx (E_IOB, E_IAE) (by decide +kernel)⟩); (cases List.mem_singleton.mp h9; exact Or.inr ⟨by decide, E_ISE, hg _ tw_224, hNx (E_IOB, E_ISE) (by decide +kernel)⟩)) rfl (by decide) (hg _ tw_599) (va_Nw.use rfl (hKn.2.2.2.1 (E_IOB, E_IOB) (by decide +kernel))) hce hcv hcl ?_
      refine W.eq (g2 := F0 m 23 ls [.ref q9]) rfl ?_
      refine lv_astore (lv' := [(5, .ref q9), (0, .ref o), (1, .int a0), (2, .int a1), (3, .int a2), (4, .ref ob)]) hx hb d_Lw_least_23 hl (by decide) rfl (fun ls hl => ?_)
      refine lv_iconst (v := 3) hx hb d_Lw_least_25 (by decide) ?_
      exact W.iret (v := 3) hx hb hr (fun t9 ht hW => ⟨rfl, hS.F ht, by rw [ht]; exact ⟨hP1, fo, hO, fun h => absurd h (by decide)⟩⟩) hS.2.2 d_Lw_least_26
  · subst hk0
    refine W.eq (g2 := F0 m 10 ls [.int r, .int 0, .ref ob]) rfl ?_
    have hO := wo_kc hO hk1 (fun k q hk h => by have h1 := wOut_in k q hk; rw [show q.1 = ob by omega] at h; exact hob h)
    have hD : va_D ((fun q => A q ∨ q = ob)) (wOut cJ ob fo) := wOut_D (Or.inr rfl)
    refine lv_i2l hx hb d_Lw_least_10 rfl ?_
    refine ep_keepL (x := r.toInt64) hx hb hK hO hD hS rfl d_Lw_least_11 (fun H2 locs2 hk2 hO hS => ?_)
    refine lv_goto (tgt := 27) hx hb d_Lw_least_12 (by decide) ?_
    refine lv_iconst (v := 0) hx hb d_Lw_least_27 (by decide) ?_
    exact W.iret (v := 0) hx hb hr (fun t9 ht hW => ⟨rfl, hS.F ht, by rw [ht]; exact ⟨hPs _ _ hk2 hP1, _, hO, fun _ => updL_at _ _ _⟩⟩) hS.2.2 d_Lw_least_28

set_option maxHeartbeats 4000000 in
set_option maxRecDepth 100000 in
theorem lw_sum (l : Launch) (D : va_G) (cI cJ cZ cO : ClassId) (o : Nat) (ob : Nat) (fo : Nat → Int64) (a0 : Int32) (a1 : Int32) (r : Int64) (kap : Nat) (A : Nat → Prop) (Pic P : Heap → Prop) (hpE : ∀ H, Pic H → va_P D cls (wEP cO o) H) (hob : ¬ A ob) (hPs : ∀ H H1 : Heap, (∀ q : Nat, q < H.size → q ≠ ob → H1[q]? = H[q]?) → P H → P H1) (hkap : kap ≤ 2)
    (hM : vx_Met l y_EP_sum (k_EP_sum :: gt) rx_EP_sum (PcX D cI cJ cZ cO A [.ref o, .int a0, .int a1] Pic) (Qt kap A (some (.long r)) P) (Xt kap E_NSE A P) 1 6 A) :
    Met l y_Lw_sum (k_Lw_sum :: gt) rx_Lw_sum (PcL D cI cJ cZ cO (fun q => A q ∨ q = ob) [.ref o, .int a0, .int a1, .ref ob] (fun H => Pic H ∧ va_P D cls (wOut cJ ob fo) H)) (Qd (fun q => A q ∨ q = ob) (some (.int (nI kap))) (fun H => P H ∧ ∃ fo1 : Nat → Int64, va_P D cls (wOut cJ ob fo1) H ∧ (kap = 0 → fo1 0 = r))) 1 6 (fun q => A q ∨ q = ob) := by
  refine va_MetW (cc := c_Lw_sum) (maxL := 5) (ret := (Option.some FieldType.int)) (hh := [(0, 9, 12, 13), (0, 9, 16, 15)]) (by decide) rfl ?_
  intro p e s m args below meth c s₁ B hml hv
  obtain ⟨rfl, hKn, hZ, hNx, hPic, hO⟩ := hv
  have hx := B.exec
  have hb := B.bytes
  have hr := B.returns
  have hts := atoms_spec (ws := k_Lw_sum :: gt) B.pre
  have hg : ∀ w ∈ gt, w.before _ s = true := fun w h => hts w (List.mem_cons_of_mem _ h)
  have hown : s.vm.findClass R_Lw = some m.cls := findClass_of_methodNamed B.named
  have hlocks := B.notSynchronized
  have hK := hKn.1
  have hl := lv_entry ([.ref o, .int a0, .int a1, .ref ob]) (n := 5) (Nat.le_of_ble_eq_true rfl)
  rw [lg_entry_eq]
  generalize (lg_sl ([.ref o, .int a0, .int a1, .ref ob]) ++ List.replicate (5 - (lg_sl ([.ref o, .int a0, .int a1, .ref ob])).length) Slot.unset).toArray = ls at hl ⊢
  have hl : lv_has ls 5 [(0, .ref o), (1, .int a0), (2, .int a1), (3, .ref ob)] := hl
  have htab := vx_table (x := y_Lw_sum) B (hg _ tk_Lw_sum)
  have hE := hpE _ hPic
  have hS : va_S (fun q => A q ∨ q = ob) s.heap s.heap [] := va_S.rf
  refine lv_aload_n hx hb d_Lw_sum_0 rfl (lv_at hl 3 rfl) ?_
  refine lv_iconst (v := 0) hx hb d_Lw_sum_1 (by decide) ?_
  refine lv_aload_n hx hb d_Lw_sum_2 rfl (lv_at hl 0 rfl) ?_
  refine lv_iload_n hx hb d_Lw_sum_3 rfl (lv_at hl 1 rfl) ?_
  refine lv_iload_n hx hb d_Lw_sum_4 rfl (lv_at hl 2 rfl) ?_
  refine ep_callT (vx_runV (As := [.int a0, .int a1]) (rest := [.int 0, .ref ob]) ⟨hx, hb, hml, hown, hg⟩ hM (ep_cwV 2 hg tw_623 tw_624 tw_625 tw_1 tk_EP_sum rfl rfl (by decide +kernel) ⟨(Nat.le_of_ble_eq_true rfl), (Nat.le_of_ble_eq_true rfl)⟩) ⟨ep_blindX, va_recv (q0 := 0) (ci := 8) hK hE rfl rfl, ep_preX hKn (Zs.kept hZ hS (fun q h => Or.inl h)) hPic⟩ rfl rfl hl.1 rfl (lv_room (Nat.le_of_ble_eq_true rfl)) d_Lw_sum_5 ⟨(Nat.le_of_ble_eq_true rfl), (Nat.le_of_ble_eq_true rfl)⟩) hS (fun q h => Or.inl h) (fun hk0 ce q9 H locs hsz9 hk1 hP1 hS hce hcv hcl => ?_) (fun hk0 H locs hsz9 hk1 hP1 hS => ?_)
  · have hO := wo_kc hO hk1 (fun k q hk h => by have h1 := wOut_in k q hk; rw [show q.1 = ob by omega] at h; exact hob h)
    rcases (show kap = 1 ∨ kap = 2 by omega) with rfl | rfl
    · refine vx_catch (own := "EditablePastLaw") (name := E_IAE) (E := E_IAE) hown [] _ _ htab (fun z hz => nomatch hz) rfl (by decide) (hg _ tw_223) (va_Nw.use rfl (hKn.2.2.2.1 (E_IAE, E_IAE) (by decide +kernel))) hce hcv hcl ?_
      refine W.eq (g2 := F0 m 12 ls [.ref q9]) rfl ?_
      refine lv_astore (lv' := [(4, .ref q9), (0, .ref o), (1, .int a0), (2, .int a1), (3, .ref ob)]) hx hb d_Lw_sum_12 hl (by decide) rfl (fun ls hl => ?_)
      refine lv_iconst (v := 1) hx hb d_Lw_sum_14 (by decide) ?_
      exact W.iret (v := 1) hx hb hr (fun t9 ht hW => ⟨rfl, hS.F ht, by rw [ht]; exact ⟨hP1, fo, hO, fun h => absurd h (by decide)⟩⟩) hS.2.2 d_Lw_sum_15
    · refine vx_catch (own := "EditablePastLaw") (name := E_ISE) (E := E_ISE) hown [_] _ _ htab (fun z hz => by cases List.mem_singleton.mp hz; exact Or.inr ⟨by decide, E_IAE, hg _ tw_223, hNx (E_ISE, E_IAE) (by decide +kernel)⟩) rfl (by decide) (hg _ tw_224) (va_Nw.use rfl (hKn.2.2.2.1 (E_ISE, E_ISE) (by decide +kernel))) hce hcv hcl ?_
      refine W.eq (g2 := F0 m 16 ls [.ref q9]) rfl ?_
      refine lv_astore (lv' := [(4, .ref q9), (0, .ref o), (1, .int a0), (2, .int a1), (3, .ref ob)]) hx hb d_Lw_sum_16 hl (by decide) rfl (fun ls hl => ?_)
      refine lv_iconst (v := 2) hx hb d_Lw_sum_18 (by decide) ?_
      exact W.iret (v := 2) hx hb hr (fun t9 ht hW => ⟨rfl, hS.F ht, by rw [ht]; exact ⟨hP1, fo, hO, fun h => absurd h (by decide)⟩⟩) hS.2.2 d_Lw_sum_19
  · subst hk0
    refine W.eq (g2 := F0 m 8 ls [.long r, .int 0, .ref ob]) rfl ?_
    have hO := wo_kc hO hk1 (fun k q hk h => by have h1 := wOut_in k q hk; rw [show q.1 = ob by omega] at h; exact hob h)
    have hD : va_D ((fun q => A q ∨ q = ob)) (wOut cJ ob fo) := wOut_D (Or.inr rfl)
    refine ep_keepL (x := r) hx hb hK hO hD hS rfl d_Lw_sum_8 (fun H2 locs2 hk2 hO hS => ?_)
    refine lv_goto (tgt := 20) hx hb d_Lw_sum_9 (by decide) ?_
    refine lv_iconst (v := 0) hx hb d_Lw_sum_20 (by decide) ?_
    exact W.iret (v := 0) hx hb hr (fun t9 ht hW => ⟨rfl, hS.F ht, by rw [ht]; exact ⟨hPs _ _ hk2 hP1, _, hO, fun _ => updL_at _ _ _⟩⟩) hS.2.2 d_Lw_sum_21

set_option maxHeartbeats 4000000 in
set_option maxRecDepth 100000 in
theorem lw_together (l : Launch) (D : va_G) (cI cJ cZ cO : ClassId) (o : Nat) (ob : Nat) (fo : Nat → Int64) (a0 : Int32) (a1 : Int32) (a2 : Int32) (a3 : Int32) (r : Int32) (hr01 : r = 0 ∨ r = 1) (kap : Nat) (A : Nat → Prop) (Pic P : Heap → Prop) (hpE : ∀ H, Pic H → va_P D cls (wEP cO o) H) (hob : ¬ A ob) (hPs : ∀ H H1 : Heap, (∀ q : Nat, q < H.size → q ≠ ob → H1[q]? = H[q]?) → P H → P H1) (hkap : kap ≤ 2)
    (hM : vx_Met l y_EP_together (k_EP_together :: gt) rx_EP_together (PcX D cI cJ cZ cO A [.ref o, .int a0, .int a1, .int a2, .int a3] Pic) (Qt kap A (some (.int r)) P) (Xt kap E_NSE A P) 1 6 A) :
    Met l y_Lw_together (k_Lw_together :: gt) rx_Lw_together (PcL D cI cJ cZ cO (fun q => A q ∨ q = ob) [.ref o, .int a0, .int a1, .int a2, .int a3, .ref ob] (fun H => Pic H ∧ va_P D cls (wOut cJ ob fo) H)) (Qd (fun q => A q ∨ q = ob) (some (.int (nI kap))) (fun H => P H ∧ ∃ fo1 : Nat → Int64, va_P D cls (wOut cJ ob fo1) H ∧ (kap = 0 → fo1 0 = (if r = 0 then 0 else 1)))) 1 6 (fun q => A q ∨ q = ob) := by
  refine va_MetW (cc := c_Lw_together) (maxL := 7) (ret := (Option.some FieldType.int)) (hh := [(0, 21, 24, 13), (0, 21, 28, 15)]) (by decide) rfl ?_
  intro p e s m args below meth c s₁ B hml hv
  obtain ⟨rfl, hKn, hZ, hNx, hPic, hO⟩ := hv
  have hx := B.exec
  have hb := B.bytes
  have hr := B.returns
  have hts := atoms_spec (ws := k_Lw_together :: gt) B.pre
  have hg : ∀ w ∈ gt, w.before _ s = true := fun w h => hts w (List.mem_cons_of_mem _ h)
  have hown : s.vm.findClass R_Lw = some m.cls := findClass_of_methodNamed B.named
  have hlocks := B.notSynchronized
  have hK := hKn.1
  have hl := lv_entry ([.ref o, .int a0, .int a1, .int a2, .int a3, .ref ob]) (n := 7) (Nat.le_of_ble_eq_true rfl)
  rw [lg_entry_eq]
  generalize (lg_sl ([.ref o, .int a0, .int a1, .int a2, .int a3, .ref ob]) ++ List.replicate (7 - (lg_sl ([.ref o, .int a0, .int a1, .int a2, .int a3, .ref ob])).length) Slot.unset).toArray = ls at hl ⊢
  have hl : lv_has ls 7 [(0, .ref o), (1, .int a0), (2, .int a1), (3, .int a2), (4, .int a3), (5, .ref ob)] := hl
  have htab := vx_table (x := y_Lw_together) B (hg _ tk_Lw_together)
  have hE := hpE _ hPic
  have hS : va_S (fun q => A q ∨ q = ob) s.heap s.heap [] := va_S.rf
  refine lv_aload hx hb d_Lw_together_0 (lv_at hl 5 rfl) ?_
  refine lv_iconst (v := 0) hx hb d_Lw_together_2 (by decide) ?_
  refine lv_aload_n hx hb d_Lw_together_3 rfl (lv_at hl 0 rfl) ?_
  refine lv_iload_n hx hb d_Lw_together_4 rfl (lv_at hl 1 rfl) ?_
  refine lv_iload_n hx hb d_Lw_together_5 rfl (lv_at hl 2 rfl) ?_
  refine lv_iload_n hx hb d_Lw_together_6 rfl (lv_at hl 3 rfl) ?_
  refine lv_iload hx hb d_Lw_together_7 (lv_at hl 4 rfl) ?_
  refine ep_callT (vx_runV (As := [.int a0, .int a1, .int a2, .int a3]) (rest := [.int 0, .ref ob]) ⟨hx, hb, hml, hown, hg⟩ hM (ep_cwV 4 hg tw_630 tw_631 tw_632 tw_1 tk_EP_together rfl rfl (by decide +kernel) ⟨(Nat.le_of_ble_eq_true rfl), (Nat.le_of_ble_eq_true rfl)⟩) ⟨ep_blindX, va_recv (q0 := 0) (ci := 8) hK hE rfl rfl, ep_preX hKn (Zs.kept hZ hS (fun q h => Or.inl h)) hPic⟩ rfl rfl hl.1 rfl (lv_room (Nat.le_of_ble_eq_true rfl)) d_Lw_together_9 ⟨(Nat.le_of_ble_eq_true rfl), (Nat.le_of_ble_eq_true rfl)⟩) hS (fun q h => Or.inl h) (fun hk0 ce q9 H locs hsz9 hk1 hP1 hS hce hcv hcl => ?_) (fun hk0 H locs hsz9 hk1 hP1 hS => ?_)
  · have hO := wo_kc hO hk1 (fun k q hk h => by have h1 := wOut_in k q hk; rw [show q.1 = ob by omega] at h; exact hob h)
    rcases (show kap = 1 ∨ kap = 2 by omega) with rfl | rfl
    · refine vx_catch (own := "EditablePastLaw") (name := E_IAE) (E := E_IAE) hown [] _ _ htab (fun z hz => nomatch hz) rfl (by decide) (hg _ tw_223) (va_Nw.use rfl (hKn.2.2.2.1 (E_IAE, E_IAE) (by decide +kernel))) hce hcv hcl ?_
      refine W.eq (g2 := F0 m 24 ls [.ref q9]) rfl ?_
      refine lv_astore (lv' := [(6, .ref q9), (0, .ref o), (1, .int a0), (2, .int a1), (3, .int a2), (4, .int a3), (5, .ref ob)]) hx hb d_Lw_together_24 hl (by decide) rfl (fun ls hl => ?_)
      refine lv_iconst (v := 1) hx hb d_Lw_together_26 (by decide) ?_
      exact W.iret (v := 1) hx hb hr (fun t9 ht hW => ⟨rfl, hS.F ht, by rw [ht]; exact ⟨hP1, fo, hO, fun h => absurd h (by decide)⟩⟩) hS.2.2 d_Lw_together_27
    · refine vx_catch (own := "EditablePastLaw") (name := E_ISE) (E := E_ISE) hown [_] _ _ htab (fun z hz => by cases List.mem_singleton.mp hz; exact Or.inr ⟨by decide, E_IAE, hg _ tw_223, hNx (E_ISE, E_IAE) (by decide +kernel)⟩) rfl (by decide) (hg _ tw_224) (va_Nw.use rfl (hKn.2.2.2.1 (E_ISE, E_ISE) (by decide +kernel))) hce hcv hcl ?_
      refine W.eq (g2 := F0 m 28 ls [.ref q9]) rfl ?_
      refine lv_astore (lv' := [(6, .ref q9), (0, .ref o), (1, .int a0), (2, .int a1), (3, .int a2), (4, .int a3), (5, .ref ob)]) hx hb d_Lw_together_28 hl (by decide) rfl (fun ls hl => ?_)
      refine lv_iconst (v := 2) hx hb d_Lw_together_30 (by decide) ?_
      exact W.iret (v := 2) hx hb hr (fun t9 ht hW => ⟨rfl, hS.F ht, by rw [ht]; exact ⟨hP1, fo, hO, fun h => absurd h (by decide)⟩⟩) hS.2.2 d_Lw_together_31
  · subst hk0
    refine W.eq (g2 := F0 m 12 ls [.int r, .int 0, .ref ob]) rfl ?_
    have hO := wo_kc hO hk1 (fun k q hk h => by have h1 := wOut_in k q hk; rw [show q.1 = ob by omega] at h; exact hob h)
    have hD : va_D ((fun q => A q ∨ q = ob)) (wOut cJ ob fo) := wOut_D (Or.inr rfl)
    refine lv_if_eq (tgt := 19) hx hb d_Lw_together_12 (by decide) (fun hc => ?_) (fun hc => ?_)
    · refine lv_lconst (v := 0) hx hb d_Lw_together_19 (by decide) ?_
      refine ep_keepL (x := 0) hx hb hK hO hD hS rfl d_Lw_together_20 (fun H2 locs2 hk2 hO hS => ?_)
      refine lv_goto (tgt := 32) hx hb d_Lw_together_21 (by decide) ?_
      refine lv_iconst (v := 0) hx hb d_Lw_together_32 (by decide) ?_
      exact W.iret (v := 0) hx hb hr (fun t9 ht hW => ⟨rfl, hS.F ht, by rw [ht]; exact ⟨hPs _ _ hk2 hP1, _, hO, fun _ => (updL_at _ _ _).trans (if_pos hc).symm⟩⟩) hS.2.2 d_Lw_together_33
    · refine lv_lconst (v := 1) hx hb d_Lw_together_15 (by decide) ?_
      refine lv_goto (tgt := 20) hx hb d_Lw_together_16 (by decide) ?_
      refine ep_keepL (x := 1) hx hb hK hO hD hS rfl d_Lw_together_20 (fun H2 locs2 hk2 hO hS => ?_)
      refine lv_goto (tgt := 32) hx hb d_Lw_together_21 (by decide) ?_
      refine lv_iconst (v := 0) hx hb d_Lw_together_32 (by decide) ?_
      exact W.iret (v := 0) hx hb hr (fun t9 ht hW => ⟨rfl, hS.F ht, by rw [ht]; exact ⟨hPs _ _ hk2 hP1, _, hO, fun _ => (updL_at _ _ _).trans (if_neg hc).symm⟩⟩) hS.2.2 d_Lw_together_33

set_option maxHeartbeats 4000000 in
set_option maxRecDepth 100000 in
theorem lw_result (l : Launch) (D : va_G) (cI cJ cZ cO : ClassId) (o : Nat) (ob : Nat) (fo : Nat → Int64) (a0 : Int32) (a1 : Int32) (r : Int64) (kap : Nat) (A : Nat → Prop) (Pic P : Heap → Prop) (hpE : ∀ H, Pic H → va_P D cls (wEP cO o) H) (hob : ¬ A ob) (hPs : ∀ H H1 : Heap, (∀ q : Nat, q < H.size → q ≠ ob → H1[q]? = H[q]?) → P H → P H1) (hkap : kap ≤ 3)
    (hM : vx_Met l y_EP_result (k_EP_result :: gt) rx_EP_result (PcX D cI cJ cZ cO A [.ref o, .int a0, .int a1] Pic) (Qt kap A (some (.long r)) P) (Xt kap E_NSE A P) 1 6 A) :
    Met l y_Lw_result (k_Lw_result :: gt) rx_Lw_result (PcL D cI cJ cZ cO (fun q => A q ∨ q = ob) [.ref o, .int a0, .int a1, .ref ob] (fun H => Pic H ∧ va_P D cls (wOut cJ ob fo) H)) (Qd (fun q => A q ∨ q = ob) (some (.int (nI kap))) (fun H => P H ∧ ∃ fo1 : Nat → Int64, va_P D cls (wOut cJ ob fo1) H ∧ (kap = 0 → fo1 0 = r))) 1 6 (fun q => A q ∨ q = ob) := by
  refine va_MetW (cc := c_Lw_result) (maxL := 5) (ret := (Option.some FieldType.int)) (hh := [(0, 9, 12, 13), (0, 9, 16, 15), (0, 9, 20, 35)]) (by decide) rfl ?_
  intro p e s m args below meth c s₁ B hml hv
  obtain ⟨rfl, hKn, hZ, hNx, hPic, hO⟩ := hv
  have hx := B.exec
  have hb := B.bytes
  have hr := B.returns
  have hts := atoms_spec (ws := k_Lw_result :: gt) B.pre
  have hg : ∀ w ∈ gt, w.before _ s = true := fun w h => hts w (List.mem_cons_of_mem _ h)
  have hown : s.vm.findClass R_Lw = some m.cls := findClass_of_methodNamed B.named
  have hlocks := B.notSynchronized
  have hK := hKn.1
  have hl := lv_entry ([.ref o, .int a0, .int a1, .ref ob]) (n := 5) (Nat.le_of_ble_eq_true rfl)
  rw [lg_entry_eq]
  generalize (lg_sl ([.ref o, .int a0, .int a1, .ref ob]) ++ List.replicate (5 - (lg_sl ([.ref o, .int a0, .int a1, .ref ob])).length) Slot.unset).toArray = ls at hl ⊢
  have hl : lv_has ls 5 [(0, .ref o), (1, .int a0), (2, .int a1), (3, .ref ob)] := hl
  have htab := vx_table (x := y_Lw_result) B (hg _ tk_Lw_result)
  have hE := hpE _ hPic
  have hS : va_S (fun q => A q ∨ q = ob) s.heap s.heap [] := va_S.rf
  refine lv_aload_n hx hb d_Lw_result_0 rfl (lv_at hl 3 rfl) ?_
  refine lv_iconst (v := 0) hx hb d_Lw_result_1 (by decide) ?_
  refine lv_aload_n hx hb d_Lw_result_2 rfl (lv_at hl 0 rfl) ?_
  refine lv_iload_n hx hb d_Lw_result_3 rfl (lv_at hl 1 rfl) ?_
  refine lv_iload_n hx hb d_Lw_result_4 rfl (lv_at hl 2 rfl) ?_
  refine ep_callT (vx_runV (As := [.int a0, .int a1]) (rest := [.int 0, .ref ob]) ⟨hx, hb, hml, hown, hg⟩ hM (ep_cwV 2 hg tw_639 tw_640 tw_641 tw_1 tk_EP_result rfl rfl (by decide +kernel) ⟨(Nat.le_of_ble_eq_true rfl), (Nat.le_of_ble_eq_true rfl)⟩) ⟨ep_blindX, va_recv (q0 := 0) (ci := 8) hK hE rfl rfl, ep_preX hKn (Zs.kept hZ hS (fun q h => Or.inl h)) hPic⟩ rfl rfl hl.1 rfl (lv_room (Nat.le_of_ble_eq_true rfl)) d_Lw_result_5 ⟨(Nat.le_of_ble_eq_true rfl), (Nat.le_of_ble_eq_true rfl)⟩) hS (fun q h => Or.inl h) (fun hk0 ce q9 H locs hsz9 hk1 hP1 hS hce hcv hcl => ?_) (fun hk0 H locs hsz9 hk1 hP1 hS => ?_)
  · have hO := wo_kc hO hk1 (fun k q hk h => by have h1 := wOut_in k q hk; rw [show q.1 = ob by omega] at h; exact hob h)
    rcases (show kap = 1 ∨ kap = 2 ∨ kap = 3 by omega) with rfl | rfl | rfl
    · refine vx_catch (own := "EditablePastLaw") (name := E_IAE) (E := E_IAE) hown [] _ _ htab (fun z hz => nomatch hz) rfl (by decide) (hg _ tw_223) (va_Nw.use rfl (hKn.2.2.2.1 (E_IAE, E_IAE) (by decide +kernel))) hce hcv hcl ?_
      refine W.eq (g2 := F0 m 12 ls [.ref q9]) rfl ?_
      refine lv_astore (lv' := [(4, .ref q9), (0, .ref o), (1, .int a0), (2, .int a1), (3, .ref ob)]) hx hb d_Lw_result_12 hl (by decide) rfl (fun ls hl => ?_)
      refine lv_iconst (v := 1) hx hb d_Lw_result_14 (by decide) ?_
      exact W.iret (v := 1) hx hb hr (fun t9 ht hW => ⟨rfl, hS.F ht, by rw [ht]; exact ⟨hP1, fo, hO, fun h => absurd h (by decide)⟩⟩) hS.2.2 d_Lw_result_15
    · refine vx_catch (own := "EditablePastLaw") (name := E_ISE) (E := E_ISE) hown [_] _ _ htab (fun z hz => by cases List.mem_singleton.mp hz; exact Or.inr ⟨by decide, E_IAE, hg _ tw_223, hNx (E_ISE, E_IAE) (by decide +kernel)⟩) rfl (by decide) (hg _ tw_224) (va_Nw.use rfl (hKn.2.2.2.1 (E_ISE, E_ISE) (by decide +kernel))) hce hcv hcl ?_
      refine W.eq (g2 := F0 m 16 ls [.ref q9]) rfl ?_
      refine lv_astore (lv' := [(4, .ref q9), (0, .ref o), (1, .int a0), (2, .int a1), (3, .ref ob)]) hx hb d_Lw_result_16 hl (by decide) rfl (fun ls hl => ?_)
      refine lv_iconst (v := 2) hx hb d_Lw_result_18 (by decide) ?_
      exact W.iret (v := 2) hx hb hr (fun t9 ht hW => ⟨rfl, hS.F ht, by rw [ht]; exact ⟨hP1, fo, hO, fun h => absurd h (by decide)⟩⟩) hS.2.2 d_Lw_result_19
    · refine vx_catch (own := "EditablePastLaw") (name := E_NSE) (E := E_NSE) hown [_, _] _ _ htab (fun z hz => by rcases List.mem_cons.mp hz with h9 | h9; (cases h9; exact Or.inr ⟨by decide, E_IAE, hg _ tw_223, hNx (E_NSE, E_IAE) (by decide +kernel)⟩); (cases List.mem_singleton.mp h9; exact Or.inr ⟨by decide, E_ISE, hg _ tw_224, hNx (E_NSE, E_ISE) (by decide +kernel)⟩)) rfl (by decide) (hg _ tw_534) (va_Nw.use rfl (hKn.2.2.2.1 (E_NSE, E_NSE) (by decide +kernel))) hce hcv hcl ?_
      refine W.eq (g2 := F0 m 20 ls [.ref q9]) rfl ?_
      refine lv_astore (lv' := [(4, .ref q9), (0, .ref o), (1, .int a0), (2, .int a1), (3, .ref ob)]) hx hb d_Lw_result_20 hl (by decide) rfl (fun ls hl => ?_)
      refine lv_iconst (v := 3) hx hb d_Lw_result_22 (by decide) ?_
      exact W.iret (v := 3) hx hb hr (fun t9 ht hW => ⟨rfl, hS.F ht, by rw [ht]; exact ⟨hP1, fo, hO, fun h => absurd h (by decide)⟩⟩) hS.2.2 d_Lw_result_23
  · subst hk0
    refine W.eq (g2 := F0 m 8 ls [.long r, .int 0, .ref ob]) rfl ?_
    have hO := wo_kc hO hk1 (fun k q hk h => by have h1 := wOut_in k q hk; rw [show q.1 = ob by omega] at h; exact hob h)
    have hD : va_D ((fun q => A q ∨ q = ob)) (wOut cJ ob fo) := wOut_D (Or.inr rfl)
    refine ep_keepL (x := r) hx hb hK hO hD hS rfl d_Lw_result_8 (fun H2 locs2 hk2 hO hS => ?_)
    refine lv_goto (tgt := 24) hx hb d_Lw_result_9 (by decide) ?_
    refine lv_iconst (v := 0) hx hb d_Lw_result_24 (by decide) ?_
    exact W.iret (v := 0) hx hb hr (fun t9 ht hW => ⟨rfl, hS.F ht, by rw [ht]; exact ⟨hPs _ _ hk2 hP1, _, hO, fun _ => updL_at _ _ _⟩⟩) hS.2.2 d_Lw_result_25

set_option maxHeartbeats 4000000 in
set_option maxRecDepth 100000 in
theorem lw_works (l : Launch) (D : va_G) (cI cJ cZ cO : ClassId) (o : Nat) (ob : Nat) (fo : Nat → Int64) (a0 : Int32) (a1 : Int32) (r : Int32) (hr01 : r = 0 ∨ r = 1) (kap : Nat) (A : Nat → Prop) (Pic P : Heap → Prop) (hpE : ∀ H, Pic H → va_P D cls (wEP cO o) H) (hob : ¬ A ob) (hPs : ∀ H H1 : Heap, (∀ q : Nat, q < H.size → q ≠ ob → H1[q]? = H[q]?) → P H → P H1) (hkap : kap ≤ 3)
    (hM : vx_Met l y_EP_works (k_EP_works :: gt) rx_EP_works (PcX D cI cJ cZ cO A [.ref o, .int a0, .int a1] Pic) (Qt kap A (some (.int r)) P) (Xt kap E_NSE A P) 1 6 A) :
    Met l y_Lw_works (k_Lw_works :: gt) rx_Lw_works (PcL D cI cJ cZ cO (fun q => A q ∨ q = ob) [.ref o, .int a0, .int a1, .ref ob] (fun H => Pic H ∧ va_P D cls (wOut cJ ob fo) H)) (Qd (fun q => A q ∨ q = ob) (some (.int (nI kap))) (fun H => P H ∧ ∃ fo1 : Nat → Int64, va_P D cls (wOut cJ ob fo1) H ∧ (kap = 0 → fo1 0 = (if r = 0 then 0 else 1)))) 1 6 (fun q => A q ∨ q = ob) := by
  refine va_MetW (cc := c_Lw_works) (maxL := 5) (ret := (Option.some FieldType.int)) (hh := [(0, 17, 20, 13), (0, 17, 24, 15), (0, 17, 28, 35)]) (by decide) rfl ?_
  intro p e s m args below meth c s₁ B hml hv
  obtain ⟨rfl, hKn, hZ, hNx, hPic, hO⟩ := hv
  have hx := B.exec
  have hb := B.bytes
  have hr := B.returns
  have hts := atoms_spec (ws := k_Lw_works :: gt) B.pre
  have hg : ∀ w ∈ gt, w.before _ s = true := fun w h => hts w (List.mem_cons_of_mem _ h)
  have hown : s.vm.findClass R_Lw = some m.cls := findClass_of_methodNamed B.named
  have hlocks := B.notSynchronized
  have hK := hKn.1
  have hl := lv_entry ([.ref o, .int a0, .int a1, .ref ob]) (n := 5) (Nat.le_of_ble_eq_true rfl)
  rw [lg_entry_eq]
  generalize (lg_sl ([.ref o, .int a0, .int a1, .ref ob]) ++ List.replicate (5 - (lg_sl ([.ref o, .int a0, .int a1, .ref ob])).length) Slot.unset).toArray = ls at hl ⊢
  have hl : lv_has ls 5 [(0, .ref o), (1, .int a0), (2, .int a1), (3, .ref ob)] := hl
  have htab := vx_table (x := y_Lw_works) B (hg _ tk_Lw_works)
  have hE := hpE _ hPic
  have hS : va_S (fun q => A q ∨ q = ob) s.heap s.heap [] := va_S.rf
  refine lv_aload_n hx hb d_Lw_works_0 rfl (lv_at hl 3 rfl) ?_
  refine lv_iconst (v := 0) hx hb d_Lw_works_1 (by decide) ?_
  refine lv_aload_n hx hb d_Lw_works_2 rfl (lv_at hl 0 rfl) ?_
  refine lv_iload_n hx hb d_Lw_works_3 rfl (lv_at hl 1 rfl) ?_
  refine lv_iload_n hx hb d_Lw_works_4 rfl (lv_at hl 2 rfl) ?_
  refine ep_callT (vx_runV (As := [.int a0, .int a1]) (rest := [.int 0, .ref ob]) ⟨hx, hb, hml, hown, hg⟩ hM (ep_cwV 2 hg tw_646 tw_647 tw_648 tw_1 tk_EP_works rfl rfl (by decide +kernel) ⟨(Nat.le_of_ble_eq_true rfl), (Nat.le_of_ble_eq_true rfl)⟩) ⟨ep_blindX, va_recv (q0 := 0) (ci := 8) hK hE rfl rfl, ep_preX hKn (Zs.kept hZ hS (fun q h => Or.inl h)) hPic⟩ rfl rfl hl.1 rfl (lv_room (Nat.le_of_ble_eq_true rfl)) d_Lw_works_5 ⟨(Nat.le_of_ble_eq_true rfl), (Nat.le_of_ble_eq_true rfl)⟩) hS (fun q h => Or.inl h) (fun hk0 ce q9 H locs hsz9 hk1 hP1 hS hce hcv hcl => ?_) (fun hk0 H locs hsz9 hk1 hP1 hS => ?_)
  · have hO := wo_kc hO hk1 (fun k q hk h => by have h1 := wOut_in k q hk; rw [show q.1 = ob by omega] at h; exact hob h)
    rcases (show kap = 1 ∨ kap = 2 ∨ kap = 3 by omega) with rfl | rfl | rfl
    · refine vx_catch (own := "EditablePastLaw") (name := E_IAE) (E := E_IAE) hown [] _ _ htab (fun z hz => nomatch hz) rfl (by decide) (hg _ tw_223) (va_Nw.use rfl (hKn.2.2.2.1 (E_IAE, E_IAE) (by decide +kernel))) hce hcv hcl ?_
      refine W.eq (g2 := F0 m 20 ls [.ref q9]) rfl ?_
      refine lv_astore (lv' := [(4, .ref q9), (0, .ref o), (1, .int a0), (2, .int a1), (3, .ref ob)]) hx hb d_Lw_works_20 hl (by decide) rfl (fun ls hl => ?_)
      refine lv_iconst (v := 1) hx hb d_Lw_works_22 (by decide) ?_
      exact W.iret (v := 1) hx hb hr (fun t9 ht hW => ⟨rfl, hS.F ht, by rw [ht]; exact ⟨hP1, fo, hO, fun h => absurd h (by decide)⟩⟩) hS.2.2 d_Lw_works_23
    · refine vx_catch (own := "EditablePastLaw") (name := E_ISE) (E := E_ISE) hown [_] _ _ htab (fun z hz => by cases List.mem_singleton.mp hz; exact Or.inr ⟨by decide, E_IAE, hg _ tw_223, hNx (E_ISE, E_IAE) (by decide +kernel)⟩) rfl (by decide) (hg _ tw_224) (va_Nw.use rfl (hKn.2.2.2.1 (E_ISE, E_ISE) (by decide +kernel))) hce hcv hcl ?_
      refine W.eq (g2 := F0 m 24 ls [.ref q9]) rfl ?_
      refine lv_astore (lv' := [(4, .ref q9), (0, .ref o), (1, .int a0), (2, .int a1), (3, .ref ob)]) hx hb d_Lw_works_24 hl (by decide) rfl (fun ls hl => ?_)
      refine lv_iconst (v := 2) hx hb d_Lw_works_26 (by decide) ?_
      exact W.iret (v := 2) hx hb hr (fun t9 ht hW => ⟨rfl, hS.F ht, by rw [ht]; exact ⟨hP1, fo, hO, fun h => absurd h (by decide)⟩⟩) hS.2.2 d_Lw_works_27
    · refine vx_catch (own := "EditablePastLaw") (name := E_NSE) (E := E_NSE) hown [_, _] _ _ htab (fun z hz => by rcases List.mem_cons.mp hz with h9 | h9; (cases h9; exact Or.inr ⟨by decide, E_IAE, hg _ tw_223, hNx (E_NSE, E_IAE) (by decide +kernel)⟩); (cases List.mem_singleton.mp h9; exact Or.inr ⟨by decide, E_ISE, hg _ tw_224, hNx (E_NSE, E_ISE) (by decide +kernel)⟩)) rfl (by decide) (hg _ tw_534) (va_Nw.use rfl (hKn.2.2.2.1 (E_NSE, E_NSE) (by decide +kernel))) hce hcv hcl ?_
      refine W.eq (g2 := F0 m 28 ls [.ref q9]) rfl ?_
      refine lv_astore (lv' := [(4, .ref q9), (0, .ref o), (1, .int a0), (2, .int a1), (3, .ref ob)]) hx hb d_Lw_works_28 hl (by decide) rfl (fun ls hl => ?_)
      refine lv_iconst (v := 3) hx hb d_Lw_works_30 (by decide) ?_
      exact W.iret (v := 3) hx hb hr (fun t9 ht hW => ⟨rfl, hS.F ht, by rw [ht]; exact ⟨hP1, fo, hO, fun h => absurd h (by decide)⟩⟩) hS.2.2 d_Lw_works_31
  · subst hk0
    refine W.eq (g2 := F0 m 8 ls [.int r, .int 0, .ref ob]) rfl ?_
    have hO := wo_kc hO hk1 (fun k q hk h => by have h1 := wOut_in k q hk; rw [show q.1 = ob by omega] at h; exact hob h)
    have hD : va_D ((fun q => A q ∨ q = ob)) (wOut cJ ob fo) := wOut_D (Or.inr rfl)
    refine lv_if_eq (tgt := 15) hx hb d_Lw_works_8 (by decide) (fun hc => ?_) (fun hc => ?_)
    · refine lv_lconst (v := 0) hx hb d_Lw_works_15 (by decide) ?_
      refine ep_keepL (x := 0) hx hb hK hO hD hS rfl d_Lw_works_16 (fun H2 locs2 hk2 hO hS => ?_)
      refine lv_goto (tgt := 32) hx hb d_Lw_works_17 (by decide) ?_
      refine lv_iconst (v := 0) hx hb d_Lw_works_32 (by decide) ?_
      exact W.iret (v := 0) hx hb hr (fun t9 ht hW => ⟨rfl, hS.F ht, by rw [ht]; exact ⟨hPs _ _ hk2 hP1, _, hO, fun _ => (updL_at _ _ _).trans (if_pos hc).symm⟩⟩) hS.2.2 d_Lw_works_33
    · refine lv_lconst (v := 1) hx hb d_Lw_works_11 (by decide) ?_
      refine lv_goto (tgt := 16) hx hb d_Lw_works_12 (by decide) ?_
      refine ep_keepL (x := 1) hx hb hK hO hD hS rfl d_Lw_works_16 (fun H2 locs2 hk2 hO hS => ?_)
      refine lv_goto (tgt := 32) hx hb d_Lw_works_17 (by decide) ?_
      refine lv_iconst (v := 0) hx hb d_Lw_works_32 (by decide) ?_
      exact W.iret (v := 0) hx hb hr (fun t9 ht hW => ⟨rfl, hS.F ht, by rw [ht]; exact ⟨hPs _ _ hk2 hP1, _, hO, fun _ => (updL_at _ _ _).trans (if_neg hc).symm⟩⟩) hS.2.2 d_Lw_works_33

set_option maxHeartbeats 4000000 in
set_option maxRecDepth 100000 in
theorem lw_effective (l : Launch) (D : va_G) (cI cJ cZ cO : ClassId) (o : Nat) (ob : Nat) (fo : Nat → Int64) (a0 : Int32) (a1 : Int32) (a2 : Int32) (r : Int32) (kap : Nat) (A : Nat → Prop) (Pic P : Heap → Prop) (hpE : ∀ H, Pic H → va_P D cls (wEP cO o) H) (hob : ¬ A ob) (hPs : ∀ H H1 : Heap, (∀ q : Nat, q < H.size → q ≠ ob → H1[q]? = H[q]?) → P H → P H1) (hkap : kap ≤ 2)
    (hM : vx_Met l y_EP_effective (k_EP_effective :: gt) rx_EP_effective (PcX D cI cJ cZ cO A [.ref o, .int a0, .int a1, .int a2] Pic) (Qt kap A (some (.int r)) P) (Xt kap E_NSE A P) 1 6 A) :
    Met l y_Lw_effective (k_Lw_effective :: gt) rx_Lw_effective (PcL D cI cJ cZ cO (fun q => A q ∨ q = ob) [.ref o, .int a0, .int a1, .int a2, .ref ob] (fun H => Pic H ∧ va_P D cls (wOut cJ ob fo) H)) (Qd (fun q => A q ∨ q = ob) (some (.int (nI kap))) (fun H => P H ∧ ∃ fo1 : Nat → Int64, va_P D cls (wOut cJ ob fo1) H ∧ (kap = 0 → fo1 0 = r.toInt64))) 1 6 (fun q => A q ∨ q = ob) := by
  refine va_MetW (cc := c_Lw_effective) (maxL := 6) (ret := (Option.some FieldType.int)) (hh := [(0, 12, 15, 13), (0, 12, 19, 15)]) (by decide) rfl ?_
  intro p e s m args below meth c s₁ B hml hv
  obtain ⟨rfl, hKn, hZ, hNx, hPic, hO⟩ := hv
  have hx := B.exec
  have hb := B.bytes
  have hr := B.returns
  have hts := atoms_spec (ws := k_Lw_effective :: gt) B.pre
  have hg : ∀ w ∈ gt, w.before _ s = true := fun w h => hts w (List.mem_cons_of_mem _ h)
  have hown : s.vm.findClass R_Lw = some m.cls := findClass_of_methodNamed B.named
  have hlocks := B.notSynchronized
  have hK := hKn.1
  have hl := lv_entry ([.ref o, .int a0, .int a1, .int a2, .ref ob]) (n := 6) (Nat.le_of_ble_eq_true rfl)
  rw [lg_entry_eq]
  generalize (lg_sl ([.ref o, .int a0, .int a1, .int a2, .ref ob]) ++ List.replicate (6 - (lg_sl ([.ref o, .int a0, .int a1, .int a2, .ref ob])).length) Slot.unset).toArray = ls at hl ⊢
  have hl : lv_has ls 6 [(0, .ref o), (1, .int a0), (2, .int a1), (3, .int a2), (4, .ref ob)] := hl
  have htab := vx_table (x := y_Lw_effective) B (hg _ tk_Lw_effective)
  have hE := hpE _ hPic
  have hS : va_S (fun q => A q ∨ q = ob) s.heap s.heap [] := va_S.rf
  refine lv_aload hx hb d_Lw_effective_0 (lv_at hl 4 rfl) ?_
  refine lv_iconst (v := 0) hx hb d_Lw_effective_2 (by decide) ?_
  refine lv_aload_n hx hb d_Lw_effective_3 rfl (lv_at hl 0 rfl) ?_
  refine lv_iload_n hx hb d_Lw_effective_4 rfl (lv_at hl 1 rfl) ?_
  refine lv_iload_n hx hb d_Lw_effective_5 rfl (lv_at hl 2 rfl) ?_
  refine lv_iload_n hx hb d_Lw_effective_6 rfl (lv_at hl 3 rfl) ?_
  refine ep_callT (vx_runV (As := [.int a0, .int a1, .int a2]) (rest := [.int 0, .ref ob]) ⟨hx, hb, hml, hown, hg⟩ hM (ep_cwV 3 hg tw_653 tw_654 tw_655 tw_1 tk_EP_effective rfl rfl (by decide +kernel) ⟨(Nat.le_of_ble_eq_true rfl), (Nat.le_of_ble_eq_true rfl)⟩) ⟨ep_blindX, va_recv (q0 := 0) (ci := 8) hK hE rfl rfl, ep_preX hKn (Zs.kept hZ hS (fun q h => Or.inl h)) hPic⟩ rfl rfl hl.1 rfl (lv_room (Nat.le_of_ble_eq_true rfl)) d_Lw_effective_7 ⟨(Nat.le_of_ble_eq_true rfl), (Nat.le_of_ble_eq_true rfl)⟩) hS (fun q h => Or.inl h) (fun hk0 ce q9 H locs hsz9 hk1 hP1 hS hce hcv hcl => ?_) (fun hk0 H locs hsz9 hk1 hP1 hS => ?_)
  · have hO := wo_kc hO hk1 (fun k q hk h => by have h1 := wOut_in k q hk; rw [show q.1 = ob by omega] at h; exact hob h)
    rcases (show kap = 1 ∨ kap = 2 by omega) with rfl | rfl
    · refine vx_catch (own := "EditablePastLaw") (name := E_IAE) (E := E_IAE) hown [] _ _ htab (fun z hz => nomatch hz) rfl (by decide) (hg _ tw_223) (va_Nw.use rfl (hKn.2.2.2.1 (E_IAE, E_IAE) (by decide +kernel))) hce hcv hcl ?_
      refine W.eq (g2 := F0 m 15 ls [.ref q9]) rfl ?_
      refine lv_astore (lv' := [(5, .ref q9), (0, .ref o), (1, .int a0), (2, .int a1), (3, .int a2), (4, .ref ob)]) hx hb d_Lw_effective_15 hl (by decide) rfl (fun ls hl => ?_)
      refine lv_iconst (v := 1) hx hb d_Lw_effective_17 (by decide) ?_
      exact W.iret (v := 1) hx hb hr (fun t9 ht hW => ⟨rfl, hS.F ht, by rw [ht]; exact ⟨hP1, fo, hO, fun h => absurd h (by decide)⟩⟩) hS.2.2 d_Lw_effective_18
    · refine vx_catch (own := "EditablePastLaw") (name := E_ISE) (E := E_ISE) hown [_] _ _ htab (fun z hz => by cases List.mem_singleton.mp hz; exact Or.inr ⟨by decide, E_IAE, hg _ tw_223, hNx (E_ISE, E_IAE) (by decide +kernel)⟩) rfl (by decide) (hg _ tw_224) (va_Nw.use rfl (hKn.2.2.2.1 (E_ISE, E_ISE) (by decide +kernel))) hce hcv hcl ?_
      refine W.eq (g2 := F0 m 19 ls [.ref q9]) rfl ?_
      refine lv_astore (lv' := [(5, .ref q9), (0, .ref o), (1, .int a0), (2, .int a1), (3, .int a2), (4, .ref ob)]) hx hb d_Lw_effective_19 hl (by decide) rfl (fun ls hl => ?_)
      refine lv_iconst (v := 2) hx hb d_Lw_effective_21 (by decide) ?_
      exact W.iret (v := 2) hx hb hr (fun t9 ht hW => ⟨rfl, hS.F ht, by rw [ht]; exact ⟨hP1, fo, hO, fun h => absurd h (by decide)⟩⟩) hS.2.2 d_Lw_effective_22
  · subst hk0
    refine W.eq (g2 := F0 m 10 ls [.int r, .int 0, .ref ob]) rfl ?_
    have hO := wo_kc hO hk1 (fun k q hk h => by have h1 := wOut_in k q hk; rw [show q.1 = ob by omega] at h; exact hob h)
    have hD : va_D ((fun q => A q ∨ q = ob)) (wOut cJ ob fo) := wOut_D (Or.inr rfl)
    refine lv_i2l hx hb d_Lw_effective_10 rfl ?_
    refine ep_keepL (x := r.toInt64) hx hb hK hO hD hS rfl d_Lw_effective_11 (fun H2 locs2 hk2 hO hS => ?_)
    refine lv_goto (tgt := 23) hx hb d_Lw_effective_12 (by decide) ?_
    refine lv_iconst (v := 0) hx hb d_Lw_effective_23 (by decide) ?_
    exact W.iret (v := 0) hx hb hr (fun t9 ht hW => ⟨rfl, hS.F ht, by rw [ht]; exact ⟨hPs _ _ hk2 hP1, _, hO, fun _ => updL_at _ _ _⟩⟩) hS.2.2 d_Lw_effective_24

set_option maxHeartbeats 4000000 in
set_option maxRecDepth 100000 in
theorem lw_firstChange (l : Launch) (D : va_G) (cI cJ cZ cO : ClassId) (o : Nat) (ob : Nat) (fo : Nat → Int64) (a0 : Int32) (a1 : Int32) (a2 : Int32) (r : Int32) (kap : Nat) (A : Nat → Prop) (Pic P : Heap → Prop) (hpE : ∀ H, Pic H → va_P D cls (wEP cO o) H) (hob : ¬ A ob) (hPs : ∀ H H1 : Heap, (∀ q : Nat, q < H.size → q ≠ ob → H1[q]? = H[q]?) → P H → P H1) (hkap : kap ≤ 2)
    (hM : vx_Met l y_EP_firstChange (k_EP_firstChange :: gt) rx_EP_firstChange (PcX D cI cJ cZ cO A [.ref o, .int a0, .int a1, .int a2] Pic) (Qt kap A (some (.int r)) P) (Xt kap E_NSE A P) 1 6 A) :
    Met l y_Lw_firstChange (k_Lw_firstChange :: gt) rx_Lw_firstChange (PcL D cI cJ cZ cO (fun q => A q ∨ q = ob) [.ref o, .int a0, .int a1, .int a2, .ref ob] (fun H => Pic H ∧ va_P D cls (wOut cJ ob fo) H)) (Qd (fun q => A q ∨ q = ob) (some (.int (nI kap))) (fun H => P H ∧ ∃ fo1 : Nat → Int64, va_P D cls (wOut cJ ob fo1) H ∧ (kap = 0 → fo1 0 = r.toInt64))) 1 6 (fun q => A q ∨ q = ob) := by
  refine va_MetW (cc := c_Lw_firstChange) (maxL := 6) (ret := (Option.some FieldType.int)) (hh := [(0, 12, 15, 13), (0, 12, 19, 15)]) (by decide) rfl ?_
  intro p e s m args below meth c s₁ B hml hv
  obtain ⟨rfl, hKn, hZ, hNx, hPic, hO⟩ := hv
  have hx := B.exec
  have hb := B.bytes
  have hr := B.returns
  have hts := atoms_spec (ws := k_Lw_firstChange :: gt) B.pre
  have hg : ∀ w ∈ gt, w.before _ s = true := fun w h => hts w (List.mem_cons_of_mem _ h)
  have hown : s.vm.findClass R_Lw = some m.cls := findClass_of_methodNamed B.named
  have hlocks := B.notSynchronized
  have hK := hKn.1
  have hl := lv_entry ([.ref o, .int a0, .int a1, .int a2, .ref ob]) (n := 6) (Nat.le_of_ble_eq_true rfl)
  rw [lg_entry_eq]
  generalize (lg_sl ([.ref o, .int a0, .int a1, .int a2, .ref ob]) ++ List.replicate (6 - (lg_sl ([.ref o, .int a0, .int a1, .int a2, .ref ob])).length) Slot.unset).toArray = ls at hl ⊢
  have hl : lv_has ls 6 [(0, .ref o), (1, .int a0), (2, .int a1), (3, .int a2), (4, .ref ob)] := hl
  have htab := vx_table (x := y_Lw_firstChange) B (hg _ tk_Lw_firstChange)
  have hE := hpE _ hPic
  have hS : va_S (fun q => A q ∨ q = ob) s.heap s.heap [] := va_S.rf
  refine lv_aload hx hb d_Lw_firstChange_0 (lv_at hl 4 rfl) ?_
  refine lv_iconst (v := 0) hx hb d_Lw_firstChange_2 (by decide) ?_
  refine lv_aload_n hx hb d_Lw_firstChange_3 rfl (lv_at hl 0 rfl) ?_
  refine lv_iload_n hx hb d_Lw_firstChange_4 rfl (lv_at hl 1 rfl) ?_
  refine lv_iload_n hx hb d_Lw_firstChange_5 rfl (lv_at hl 2 rfl) ?_
  refine lv_iload_n hx hb d_Lw_firstChange_6 rfl (lv_at hl 3 rfl) ?_
  refine ep_callT (vx_runV (As := [.int a0, .int a1, .int a2]) (rest := [.int 0, .ref ob]) ⟨hx, hb, hml, hown, hg⟩ hM (ep_cwV 3 hg tw_664 tw_665 tw_666 tw_1 tk_EP_firstChange rfl rfl (by decide +kernel) ⟨(Nat.le_of_ble_eq_true rfl), (Nat.le_of_ble_eq_true rfl)⟩) ⟨ep_blindX, va_recv (q0 := 0) (ci := 8) hK hE rfl rfl, ep_preX hKn (Zs.kept hZ hS (fun q h => Or.inl h)) hPic⟩ rfl rfl hl.1 rfl (lv_room (Nat.le_of_ble_eq_true rfl)) d_Lw_firstChange_7 ⟨(Nat.le_of_ble_eq_true rfl), (Nat.le_of_ble_eq_true rfl)⟩) hS (fun q h => Or.inl h) (fun hk0 ce q9 H locs hsz9 hk1 hP1 hS hce hcv hcl => ?_) (fun hk0 H locs hsz9 hk1 hP1 hS => ?_)
  · have hO := wo_kc hO hk1 (fun k q hk h => by have h1 := wOut_in k q hk; rw [show q.1 = ob by omega] at h; exact hob h)
    rcases (show kap = 1 ∨ kap = 2 by omega) with rfl | rfl
    · refine vx_catch (own := "EditablePastLaw") (name := E_IAE) (E := E_IAE) hown [] _ _ htab (fun z hz => nomatch hz) rfl (by decide) (hg _ tw_223) (va_Nw.use rfl (hKn.2.2.2.1 (E_IAE, E_IAE) (by decide +kernel))) hce hcv hcl ?_
      refine W.eq (g2 := F0 m 15 ls [.ref q9]) rfl ?_
      refine lv_astore (lv' := [(5, .ref q9), (0, .ref o), (1, .int a0), (2, .int a1), (3, .int a2), (4, .ref ob)]) hx hb d_Lw_firstChange_15 hl (by decide) rfl (fun ls hl => ?_)
      refine lv_iconst (v := 1) hx hb d_Lw_firstChange_17 (by decide) ?_
      exact W.iret (v := 1) hx hb hr (fun t9 ht hW => ⟨rfl, hS.F ht, by rw [ht]; exact ⟨hP1, fo, hO, fun h => absurd h (by decide)⟩⟩) hS.2.2 d_Lw_firstChange_18
    · refine vx_catch (own := "EditablePastLaw") (name := E_ISE) (E := E_ISE) hown [_] _ _ htab (fun z hz => by cases List.mem_singleton.mp hz; exact Or.inr ⟨by decide, E_IAE, hg _ tw_223, hNx (E_ISE, E_IAE) (by decide +kernel)⟩) rfl (by decide) (hg _ tw_224) (va_Nw.use rfl (hKn.2.2.2.1 (E_ISE, E_ISE) (by decide +kernel))) hce hcv hcl ?_
      refine W.eq (g2 := F0 m 19 ls [.ref q9]) rfl ?_
      refine lv_astore (lv' := [(5, .ref q9), (0, .ref o), (1, .int a0), (2, .int a1), (3, .int a2), (4, .ref ob)]) hx hb d_Lw_firstChange_19 hl (by decide) rfl (fun ls hl => ?_)
      refine lv_iconst (v := 2) hx hb d_Lw_firstChange_21 (by decide) ?_
      exact W.iret (v := 2) hx hb hr (fun t9 ht hW => ⟨rfl, hS.F ht, by rw [ht]; exact ⟨hP1, fo, hO, fun h => absurd h (by decide)⟩⟩) hS.2.2 d_Lw_firstChange_22
  · subst hk0
    refine W.eq (g2 := F0 m 10 ls [.int r, .int 0, .ref ob]) rfl ?_
    have hO := wo_kc hO hk1 (fun k q hk h => by have h1 := wOut_in k q hk; rw [show q.1 = ob by omega] at h; exact hob h)
    have hD : va_D ((fun q => A q ∨ q = ob)) (wOut cJ ob fo) := wOut_D (Or.inr rfl)
    refine lv_i2l hx hb d_Lw_firstChange_10 rfl ?_
    refine ep_keepL (x := r.toInt64) hx hb hK hO hD hS rfl d_Lw_firstChange_11 (fun H2 locs2 hk2 hO hS => ?_)
    refine lv_goto (tgt := 23) hx hb d_Lw_firstChange_12 (by decide) ?_
    refine lv_iconst (v := 0) hx hb d_Lw_firstChange_23 (by decide) ?_
    exact W.iret (v := 0) hx hb hr (fun t9 ht hW => ⟨rfl, hS.F ht, by rw [ht]; exact ⟨hPs _ _ hk2 hP1, _, hO, fun _ => updL_at _ _ _⟩⟩) hS.2.2 d_Lw_firstChange_24

set_option maxHeartbeats 4000000 in
set_option maxRecDepth 100000 in
theorem lw_operations (l : Launch) (D : va_G) (cI cJ cZ cO : ClassId) (o : Nat) (ob : Nat) (fo : Nat → Int64) (a0 : Int32) (r : Int32) (kap : Nat) (A : Nat → Prop) (Pic P : Heap → Prop) (hpE : ∀ H, Pic H → va_P D cls (wEP cO o) H) (hob : ¬ A ob) (hPs : ∀ H H1 : Heap, (∀ q : Nat, q < H.size → q ≠ ob → H1[q]? = H[q]?) → P H → P H1) (hkap : kap ≤ 2)
    (hM : vx_Met l y_EP_operations (k_EP_operations :: gt) rx_EP_operations (PcX D cI cJ cZ cO A [.ref o, .int a0] Pic) (Qt kap A (some (.int r)) P) (Xt kap E_NSE A P) 1 6 A) :
    Met l y_Lw_operations (k_Lw_operations :: gt) rx_Lw_operations (PcL D cI cJ cZ cO (fun q => A q ∨ q = ob) [.ref o, .int a0, .ref ob] (fun H => Pic H ∧ va_P D cls (wOut cJ ob fo) H)) (Qd (fun q => A q ∨ q = ob) (some (.int (nI kap))) (fun H => P H ∧ ∃ fo1 : Nat → Int64, va_P D cls (wOut cJ ob fo1) H ∧ (kap = 0 → fo1 0 = r.toInt64))) 1 6 (fun q => A q ∨ q = ob) := by
  refine va_MetW (cc := c_Lw_operations) (maxL := 4) (ret := (Option.some FieldType.int)) (hh := [(0, 9, 12, 13), (0, 9, 15, 15)]) (by decide) rfl ?_
  intro p e s m args below meth c s₁ B hml hv
  obtain ⟨rfl, hKn, hZ, hNx, hPic, hO⟩ := hv
  have hx := B.exec
  have hb := B.bytes
  have hr := B.returns
  have hts := atoms_spec (ws := k_Lw_operations :: gt) B.pre
  have hg : ∀ w ∈ gt, w.before _ s = true := fun w h => hts w (List.mem_cons_of_mem _ h)
  have hown : s.vm.findClass R_Lw = some m.cls := findClass_of_methodNamed B.named
  have hlocks := B.notSynchronized
  have hK := hKn.1
  have hl := lv_entry ([.ref o, .int a0, .ref ob]) (n := 4) (Nat.le_of_ble_eq_true rfl)
  rw [lg_entry_eq]
  generalize (lg_sl ([.ref o, .int a0, .ref ob]) ++ List.replicate (4 - (lg_sl ([.ref o, .int a0, .ref ob])).length) Slot.unset).toArray = ls at hl ⊢
  have hl : lv_has ls 4 [(0, .ref o), (1, .int a0), (2, .ref ob)] := hl
  have htab := vx_table (x := y_Lw_operations) B (hg _ tk_Lw_operations)
  have hE := hpE _ hPic
  have hS : va_S (fun q => A q ∨ q = ob) s.heap s.heap [] := va_S.rf
  refine lv_aload_n hx hb d_Lw_operations_0 rfl (lv_at hl 2 rfl) ?_
  refine lv_iconst (v := 0) hx hb d_Lw_operations_1 (by decide) ?_
  refine lv_aload_n hx hb d_Lw_operations_2 rfl (lv_at hl 0 rfl) ?_
  refine lv_iload_n hx hb d_Lw_operations_3 rfl (lv_at hl 1 rfl) ?_
  refine ep_callT (vx_runV (As := [.int a0]) (rest := [.int 0, .ref ob]) ⟨hx, hb, hml, hown, hg⟩ hM (ep_cwV 1 hg tw_687 tw_688 tw_689 tw_1 tk_EP_operations rfl rfl (by decide +kernel) ⟨(Nat.le_of_ble_eq_true rfl), (Nat.le_of_ble_eq_true rfl)⟩) ⟨ep_blindX, va_recv (q0 := 0) (ci := 8) hK hE rfl rfl, ep_preX hKn (Zs.kept hZ hS (fun q h => Or.inl h)) hPic⟩ rfl rfl hl.1 rfl (lv_room (Nat.le_of_ble_eq_true rfl)) d_Lw_operations_4 ⟨(Nat.le_of_ble_eq_true rfl), (Nat.le_of_ble_eq_true rfl)⟩) hS (fun q h => Or.inl h) (fun hk0 ce q9 H locs hsz9 hk1 hP1 hS hce hcv hcl => ?_) (fun hk0 H locs hsz9 hk1 hP1 hS => ?_)
  · have hO := wo_kc hO hk1 (fun k q hk h => by have h1 := wOut_in k q hk; rw [show q.1 = ob by omega] at h; exact hob h)
    rcases (show kap = 1 ∨ kap = 2 by omega) with rfl | rfl
    · refine vx_catch (own := "EditablePastLaw") (name := E_IAE) (E := E_IAE) hown [] _ _ htab (fun z hz => nomatch hz) rfl (by decide) (hg _ tw_223) (va_Nw.use rfl (hKn.2.2.2.1 (E_IAE, E_IAE) (by decide +kernel))) hce hcv hcl ?_
      refine W.eq (g2 := F0 m 12 ls [.ref q9]) rfl ?_
      refine lv_astore_n (lv' := [(3, .ref q9), (0, .ref o), (1, .int a0), (2, .ref ob)]) hx hb d_Lw_operations_12 rfl hl (by decide) rfl (fun ls hl => ?_)
      refine lv_iconst (v := 1) hx hb d_Lw_operations_13 (by decide) ?_
      exact W.iret (v := 1) hx hb hr (fun t9 ht hW => ⟨rfl, hS.F ht, by rw [ht]; exact ⟨hP1, fo, hO, fun h => absurd h (by decide)⟩⟩) hS.2.2 d_Lw_operations_14
    · refine vx_catch (own := "EditablePastLaw") (name := E_ISE) (E := E_ISE) hown [_] _ _ htab (fun z hz => by cases List.mem_singleton.mp hz; exact Or.inr ⟨by decide, E_IAE, hg _ tw_223, hNx (E_ISE, E_IAE) (by decide +kernel)⟩) rfl (by decide) (hg _ tw_224) (va_Nw.use rfl (hKn.2.2.2.1 (E_ISE, E_ISE) (by decide +kernel))) hce hcv hcl ?_
      refine W.eq (g2 := F0 m 15 ls [.ref q9]) rfl ?_
      refine lv_astore_n (lv' := [(3, .ref q9), (0, .ref o), (1, .int a0), (2, .ref ob)]) hx hb d_Lw_operations_15 rfl hl (by decide) rfl (fun ls hl => ?_)
      refine lv_iconst (v := 2) hx hb d_Lw_operations_16 (by decide) ?_
      exact W.iret (v := 2) hx hb hr (fun t9 ht hW => ⟨rfl, hS.F ht, by rw [ht]; exact ⟨hP1, fo, hO, fun h => absurd h (by decide)⟩⟩) hS.2.2 d_Lw_operations_17
  · subst hk0
    refine W.eq (g2 := F0 m 7 ls [.int r, .int 0, .ref ob]) rfl ?_
    have hO := wo_kc hO hk1 (fun k q hk h => by have h1 := wOut_in k q hk; rw [show q.1 = ob by omega] at h; exact hob h)
    have hD : va_D ((fun q => A q ∨ q = ob)) (wOut cJ ob fo) := wOut_D (Or.inr rfl)
    refine lv_i2l hx hb d_Lw_operations_7 rfl ?_
    refine ep_keepL (x := r.toInt64) hx hb hK hO hD hS rfl d_Lw_operations_8 (fun H2 locs2 hk2 hO hS => ?_)
    refine lv_goto (tgt := 18) hx hb d_Lw_operations_9 (by decide) ?_
    refine lv_iconst (v := 0) hx hb d_Lw_operations_18 (by decide) ?_
    exact W.iret (v := 0) hx hb hr (fun t9 ht hW => ⟨rfl, hS.F ht, by rw [ht]; exact ⟨hPs _ _ hk2 hP1, _, hO, fun _ => updL_at _ _ _⟩⟩) hS.2.2 d_Lw_operations_19

set_option maxHeartbeats 4000000 in
set_option maxRecDepth 100000 in
theorem lw_operation (l : Launch) (D : va_G) (cI cJ cZ cO : ClassId) (o : Nat) (ob : Nat) (fo : Nat → Int64) (a0 : Int32) (a1 : Int32) (a2 : Int32) (r : Int32) (kap : Nat) (A : Nat → Prop) (Pic P : Heap → Prop) (hpE : ∀ H, Pic H → va_P D cls (wEP cO o) H) (hob : ¬ A ob) (hPs : ∀ H H1 : Heap, (∀ q : Nat, q < H.size → q ≠ ob → H1[q]? = H[q]?) → P H → P H1) (hkap : kap ≤ 3)
    (hM : vx_Met l y_EP_operation (k_EP_operation :: gt) rx_EP_operation (PcX D cI cJ cZ cO A [.ref o, .int a0, .int a1, .int a2] Pic) (Qt kap A (some (.int r)) P) (Xt kap E_IOB A P) 1 6 A) :
    Met l y_Lw_operation (k_Lw_operation :: gt) rx_Lw_operation (PcL D cI cJ cZ cO (fun q => A q ∨ q = ob) [.ref o, .int a0, .int a1, .int a2, .ref ob] (fun H => Pic H ∧ va_P D cls (wOut cJ ob fo) H)) (Qd (fun q => A q ∨ q = ob) (some (.int (nI kap))) (fun H => P H ∧ ∃ fo1 : Nat → Int64, va_P D cls (wOut cJ ob fo1) H ∧ (kap = 0 → fo1 0 = r.toInt64))) 1 6 (fun q => A q ∨ q = ob) := by
  refine va_MetW (cc := c_Lw_operation) (maxL := 6) (ret := (Option.some FieldType.int)) (hh := [(0, 12, 15, 13), (0, 12, 19, 15), (0, 12, 23, 51)]) (by decide) rfl ?_
  intro p e s m args below meth c s₁ B hml hv
  obtain ⟨rfl, hKn, hZ, hNx, hPic, hO⟩ := hv
  have hx := B.exec
  have hb := B.bytes
  have hr := B.returns
  have hts := atoms_spec (ws := k_Lw_operation :: gt) B.pre
  have hg : ∀ w ∈ gt, w.before _ s = true := fun w h => hts w (List.mem_cons_of_mem _ h)
  have hown : s.vm.findClass R_Lw = some m.cls := findClass_of_methodNamed B.named
  have hlocks := B.notSynchronized
  have hK := hKn.1
  have hl := lv_entry ([.ref o, .int a0, .int a1, .int a2, .ref ob]) (n := 6) (Nat.le_of_ble_eq_true rfl)
  rw [lg_entry_eq]
  generalize (lg_sl ([.ref o, .int a0, .int a1, .int a2, .ref ob]) ++ List.replicate (6 - (lg_sl ([.ref o, .int a0, .int a1, .int a2, .ref ob])).length) Slot.unset).toArray = ls at hl ⊢
  have hl : lv_has ls 6 [(0, .ref o), (1, .int a0), (2, .int a1), (3, .int a2), (4, .ref ob)] := hl
  have htab := vx_table (x := y_Lw_operation) B (hg _ tk_Lw_operation)
  have hE := hpE _ hPic
  have hS : va_S (fun q => A q ∨ q = ob) s.heap s.heap [] := va_S.rf
  refine lv_aload hx hb d_Lw_operation_0 (lv_at hl 4 rfl) ?_
  refine lv_iconst (v := 0) hx hb d_Lw_operation_2 (by decide) ?_
  refine lv_aload_n hx hb d_Lw_operation_3 rfl (lv_at hl 0 rfl) ?_
  refine lv_iload_n hx hb d_Lw_operation_4 rfl (lv_at hl 1 rfl) ?_
  refine lv_iload_n hx hb d_Lw_operation_5 rfl (lv_at hl 2 rfl) ?_
  refine lv_iload_n hx hb d_Lw_operation_6 rfl (lv_at hl 3 rfl) ?_
  refine ep_callT (vx_runV (As := [.int a0, .int a1, .int a2]) (rest := [.int 0, .ref ob]) ⟨hx, hb, hml, hown, hg⟩ hM (ep_cwV 3 hg tw_694 tw_695 tw_696 tw_1 tk_EP_operation rfl rfl (by decide +kernel) ⟨(Nat.le_of_ble_eq_true rfl), (Nat.le_of_ble_eq_true rfl)⟩) ⟨ep_blindX, va_recv (q0 := 0) (ci := 8) hK hE rfl rfl, ep_preX hKn (Zs.kept hZ hS (fun q h => Or.inl h)) hPic⟩ rfl rfl hl.1 rfl (lv_room (Nat.le_of_ble_eq_true rfl)) d_Lw_operation_7 ⟨(Nat.le_of_ble_eq_true rfl), (Nat.le_of_ble_eq_true rfl)⟩) hS (fun q h => Or.inl h) (fun hk0 ce q9 H locs hsz9 hk1 hP1 hS hce hcv hcl => ?_) (fun hk0 H locs hsz9 hk1 hP1 hS => ?_)
  · have hO := wo_kc hO hk1 (fun k q hk h => by have h1 := wOut_in k q hk; rw [show q.1 = ob by omega] at h; exact hob h)
    rcases (show kap = 1 ∨ kap = 2 ∨ kap = 3 by omega) with rfl | rfl | rfl
    · refine vx_catch (own := "EditablePastLaw") (name := E_IAE) (E := E_IAE) hown [] _ _ htab (fun z hz => nomatch hz) rfl (by decide) (hg _ tw_223) (va_Nw.use rfl (hKn.2.2.2.1 (E_IAE, E_IAE) (by decide +kernel))) hce hcv hcl ?_
      refine W.eq (g2 := F0 m 15 ls [.ref q9]) rfl ?_
      refine lv_astore (lv' := [(5, .ref q9), (0, .ref o), (1, .int a0), (2, .int a1), (3, .int a2), (4, .ref ob)]) hx hb d_Lw_operation_15 hl (by decide) rfl (fun ls hl => ?_)
      refine lv_iconst (v := 1) hx hb d_Lw_operation_17 (by decide) ?_
      exact W.iret (v := 1) hx hb hr (fun t9 ht hW => ⟨rfl, hS.F ht, by rw [ht]; exact ⟨hP1, fo, hO, fun h => absurd h (by decide)⟩⟩) hS.2.2 d_Lw_operation_18
    · refine vx_catch (own := "EditablePastLaw") (name := E_ISE) (E := E_ISE) hown [_] _ _ htab (fun z hz => by cases List.mem_singleton.mp hz; exact Or.inr ⟨by decide, E_IAE, hg _ tw_223, hNx (E_ISE, E_IAE) (by decide +kernel)⟩) rfl (by decide) (hg _ tw_224) (va_Nw.use rfl (hKn.2.2.2.1 (E_ISE, E_ISE) (by decide +kernel))) hce hcv hcl ?_
      refine W.eq (g2 := F0 m 19 ls [.ref q9]) rfl ?_
      refine lv_astore (lv' := [(5, .ref q9), (0, .ref o), (1, .int a0), (2, .int a1), (3, .int a2), (4, .ref ob)]) hx hb d_Lw_operation_19 hl (by decide) rfl (fun ls hl => ?_)
      refine lv_iconst (v := 2) hx hb d_Lw_operation_21 (by decide) ?_
      exact W.iret (v := 2) hx hb hr (fun t9 ht hW => ⟨rfl, hS.F ht, by rw [ht]; exact ⟨hP1, fo, hO, fun h => absurd h (by decide)⟩⟩) hS.2.2 d_Lw_operation_22
    · refine vx_catch (own := "EditablePastLaw") (name := E_IOB) (E := E_IOB) hown [_, _] _ _ htab (fun z hz => by rcases List.mem_cons.mp hz with h9 | h9; (cases h9; exact Or.inr ⟨by decide, E_IAE, hg _ tw_223, hNx (E_IOB, E_IAE) (by decide +kernel)⟩); (cases List.mem_singleton.mp h9; exact Or.inr ⟨by decide, E_ISE, hg _ tw_224, hNx (E_IOB, E_ISE) (by decide +kernel)⟩)) rfl (by decide) (hg _ tw_599) (va_Nw.use rfl (hKn.2.2.2.1 (E_IOB, E_IOB) (by decide +kernel))) hce hcv hcl ?_
      refine W.eq (g2 := F0 m 23 ls [.ref q9]) rfl ?_
      refine lv_astore (lv' := [(5, .ref q9), (0, .ref o), (1, .int a0), (2, .int a1), (3, .int a2), (4, .ref ob)]) hx hb d_Lw_operation_23 hl (by decide) rfl (fun ls hl => ?_)
      refine lv_iconst (v := 3) hx hb d_Lw_operation_25 (by decide) ?_
      exact W.iret (v := 3) hx hb hr (fun t9 ht hW => ⟨rfl, hS.F ht, by rw [ht]; exact ⟨hP1, fo, hO, fun h => absurd h (by decide)⟩⟩) hS.2.2 d_Lw_operation_26
  · subst hk0
    refine W.eq (g2 := F0 m 10 ls [.int r, .int 0, .ref ob]) rfl ?_
    have hO := wo_kc hO hk1 (fun k q hk h => by have h1 := wOut_in k q hk; rw [show q.1 = ob by omega] at h; exact hob h)
    have hD : va_D ((fun q => A q ∨ q = ob)) (wOut cJ ob fo) := wOut_D (Or.inr rfl)
    refine lv_i2l hx hb d_Lw_operation_10 rfl ?_
    refine ep_keepL (x := r.toInt64) hx hb hK hO hD hS rfl d_Lw_operation_11 (fun H2 locs2 hk2 hO hS => ?_)
    refine lv_goto (tgt := 27) hx hb d_Lw_operation_12 (by decide) ?_
    refine lv_iconst (v := 0) hx hb d_Lw_operation_27 (by decide) ?_
    exact W.iret (v := 0) hx hb hr (fun t9 ht hW => ⟨rfl, hS.F ht, by rw [ht]; exact ⟨hPs _ _ hk2 hP1, _, hO, fun _ => updL_at _ _ _⟩⟩) hS.2.2 d_Lw_operation_28
