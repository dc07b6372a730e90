/-! by wip/whole/gen/redo.py -/
set_option maxHeartbeats 4000000 in
set_option maxRecDepth 100000 in
theorem m_Li_redo_Qu (l : Launch) (D : va_G) (cI cJ cZ cO : ClassId) (a n : Nat) (mo na aa bb : Nat → Int32) (re : Nat → Int64) (ef : Nat → Int32) (b n9 : Nat) (v : Nat → Int32) (r : Int64) (f : Int32) (hab : b + 2 ≤ a ∨ a + 7 ≤ b) (hn : n ≤ 32) (R : ((Nat × (Nat → Int32)) × Int64 × Int32) × (Nat → Int64) × (Nat → Int32)) (hR : rdo (fun nm x _ => bgS 2 nm x) na aa bb n 0 ((0, v), r, f) re ef = R) : Met l y_Li_redo (k_Li_redo :: gt) rm_Li_redo (Pc0 D cI cJ cZ cO [.ref a, .ref b] (fun H => va_P D cls (wLi cI cJ cZ a n mo na aa bb re ef ++ wBa cI 2 b n9 v r f) H)) (Qd (fun q => blk a 7 q ∨ blk b 2 q) none (fun H => va_P D cls (wLi cI cJ cZ a n mo na aa bb R.2.1 R.2.2 ++ wBa cI 2 b R.1.1.1 R.1.1.2 R.1.2.1 R.1.2.2) H)) 0 0 (fun q => blk a 7 q ∨ blk b 2 q) := by
  refine Met.ofW (cc := c_Li_redo) (maxL := 3) (ret := none) (by decide) rfl ?_
  intro p e s m args below meth c s₁ B hml hv
  obtain ⟨rfl, hKn, hP⟩ := hv
  have hx := B.exec
  have hb := B.bytes
  have hr := B.returns
  have hts := atoms_spec (ws := k_Li_redo :: gt) B.pre
  have hg : ∀ w ∈ gt, w.before _ s = true := fun w h => hts w (List.mem_cons_of_mem _ h)
  have hown : s.vm.findClass R_Li = some m.cls := findClass_of_methodNamed B.named
  have hlocks := B.notSynchronized
  have hK := hKn.1
  have hl := lv_entry ([.ref a, .ref b]) (n := 3) (Nat.le_of_ble_eq_true rfl)
  rw [lg_entry_eq]
  generalize (lg_sl ([.ref a, .ref b]) ++ List.replicate (3 - (lg_sl ([.ref a, .ref b])).length) Slot.unset).toArray = ls at hl ⊢
  have hl : lv_has ls 3 [(0, .ref a), (1, .ref b)] := hl
  have hS : va_S (fun q => blk a 7 q ∨ blk b 2 q) s.heap s.heap [] := va_S.rf
  refine lv_aload_n hx hb d_Li_redo_0 rfl (lv_at hl 1 rfl) ?_
  refine ep_callH (ep_toC (va_runU (As := []) (rest := []) ⟨hx, hb, hml, hown, hg⟩ (m_Ba_clear_Qu l D cI cJ cZ cO b n9 v r f) (ep_cwA (owner := "EditablePast$Contents") 0 hg tw_420 tw_422 tw_426 tw_424 tw_5 tk_Ba_clear rfl rfl (hKn.2.2.1 _ (by decide +kernel)) (by decide +kernel) ⟨(Nat.le_of_ble_eq_true rfl), (Nat.le_of_ble_eq_true rfl)⟩) ⟨ep_blind, va_recv (q0 := 7) (ci := 2) hK hP rfl rfl, ep_pre hKn (wo_r hP)⟩ rfl rfl hl.1 rfl (lv_room (Nat.le_of_ble_eq_true rfl)) d_Li_redo_1 ⟨Nat.zero_le _, Nat.zero_le _⟩)) hS (fun q h => Or.inr h) (fun H locs hsz9 hk1 hP1 hS => ?_)
  refine W.eq (g2 := F0 m 4 ls []) rfl ?_
  have hP := (wo_kc (wo_l hP) hk1 (wLi_off (show a + 7 ≤ b ∨ b + 2 ≤ a from hab.symm))).app hP1
  have hP : va_P D cls (wLi cI cJ cZ a n mo na aa bb re ef ++ wBa cI 2 b 0 v r f) H := hP
  refine lv_iconst (v := 0) hx hb d_Li_redo_4 (by decide) ?_
  refine lv_topi (fun z0 e_z0 => ?_)
  obtain rfl : z0 = nI 0 := by rw [e_z0]; exact nI_0.symm
  refine lv_istore_n (lv' := [(2, .int (nI 0)), (0, .ref a), (1, .ref b)]) hx hb d_Li_redo_5 rfl hl (by decide) rfl (fun ls hl => ?_)
  have key : ∀ (k i : Nat) (st : (Nat × (Nat → Int32)) × Int64 × Int32) (re1 : Nat → Int64) (ef1 : Nat → Int32) (H : Heap) (locs : List Loc) (ls : Array Slot), i + k = n → st.1.1 ≤ i → rdo (fun nm x _ => bgS 2 nm x) na aa bb k i st re1 ef1 = R → lv_has ls 3 [(2, .int (nI i)), (0, .ref a), (1, .ref b)] → va_P D cls (wLi cI cJ cZ a n mo na aa bb re1 ef1 ++ wBa cI 2 b st.1.1 st.1.2 st.2.1 st.2.2) H → va_S (fun q => blk a 7 q ∨ blk b 2 q) s.heap H locs → W p l e (headSpec (k_Li_redo :: gt) rm_Li_redo).room s m ([.ref a, .ref b] : List Value).toArray below meth c H locs 0 0 (MQ below (Qd (fun q => blk a 7 q ∨ blk b 2 q) none (fun H => va_P D cls (wLi cI cJ cZ a n mo na aa bb R.2.1 R.2.2 ++ wBa cI 2 b R.1.1.1 R.1.1.2 R.1.2.1 R.1.2.2) H)) ([.ref a, .ref b] : List Value).toArray s 0 0 (fun q => blk a 7 q ∨ blk b 2 q)) (F0 m 6 ls []) := by
    intro k
    induction k with
    | zero =>
      intro i st re1 ef1 H locs ls hi hv1 q0 hl hP hS
      obtain rfl : (st, re1, ef1) = R := q0
      refine lv_iload_n hx hb d_Li_redo_6 rfl (lv_at hl 0 rfl) ?_
      refine lv_aload_n hx hb d_Li_redo_7 rfl (lv_at hl 1 rfl) ?_
      refine va_get (D := D) (ci := 1) (v := .int (nI n)) (C := R_Li) (T := F_Li) (N := 7) hx hb hg in_Li hown hK hP 0 rfl rfl 0 (Nat.le_of_ble_eq_true rfl) (hg _ tw_43) (fun _ h9 => h9) rfl d_Li_redo_8 ?_
      refine lv_icmp_ge (tgt := 62) hx hb d_Li_redo_11 (by decide) (fun hc => ?_) (fun hc => absurd (nI_le (by omega) (by omega)) hc)
      exact W.vret hx hb hr (fun t9 ht hW => ⟨rfl, hS.F ht, by rw [ht]; exact hP⟩) hS.2.2 d_Li_redo_62
    | succ k ih =>
      intro i st re1 ef1 H locs ls hi hv1 q0 hl hP hS
      refine lv_iload_n hx hb d_Li_redo_6 rfl (lv_at hl 0 rfl) ?_
      refine lv_aload_n hx hb d_Li_redo_7 rfl (lv_at hl 1 rfl) ?_
      refine va_get (D := D) (ci := 1) (v := .int (nI n)) (C := R_Li) (T := F_Li) (N := 7) hx hb hg in_Li hown hK hP 0 rfl rfl 0 (Nat.le_of_ble_eq_true rfl) (hg _ tw_43) (fun _ h9 => h9) rfl d_Li_redo_8 ?_
      refine lv_icmp_ge (tgt := 62) hx hb d_Li_redo_11 (by decide) (fun hc => absurd hc (nI_ge (by omega) (by omega))) (fun hc => ?_)
      refine lv_aload_n hx hb d_Li_redo_14 rfl (lv_at hl 2 rfl) ?_
      refine lv_aload_n hx hb d_Li_redo_15 rfl (lv_at hl 1 rfl) ?_
      refine va_get (D := D) (ci := 1) (v := .ref (a + 2)) (C := R_Li) (T := F_Li) (N := 7) hx hb hg in_Li hown hK hP 0 rfl rfl 2 (Nat.le_of_ble_eq_true rfl) (hg _ tw_47) (fun _ h9 => h9) rfl d_Li_redo_16 ?_
      refine lv_iload_n hx hb d_Li_redo_19 rfl (lv_at hl 0 rfl) ?_
      refine ep_iald hx hb hK hP 2 0 rfl rfl (i := i) (by omega) (by decide) d_Li_redo_20 ?_
      refine lv_aload_n hx hb d_Li_redo_21 rfl (lv_at hl 1 rfl) ?_
      refine va_get (D := D) (ci := 1) (v := .ref (a + 3)) (C := R_Li) (T := F_Li) (N := 7) hx hb hg in_Li hown hK hP 0 rfl rfl 3 (Nat.le_of_ble_eq_true rfl) (hg _ tw_49) (fun _ h9 => h9) rfl d_Li_redo_22 ?_
      refine lv_iload_n hx hb d_Li_redo_25 rfl (lv_at hl 0 rfl) ?_
      refine ep_iald hx hb hK hP 3 0 rfl rfl (i := i) (by omega) (by decide) d_Li_redo_26 ?_
      refine lv_aload_n hx hb d_Li_redo_27 rfl (lv_at hl 1 rfl) ?_
      refine va_get (D := D) (ci := 1) (v := .ref (a + 4)) (C := R_Li) (T := F_Li) (N := 7) hx hb hg in_Li hown hK hP 0 rfl rfl 4 (Nat.le_of_ble_eq_true rfl) (hg _ tw_51) (fun _ h9 => h9) rfl d_Li_redo_28 ?_
      refine lv_iload_n hx hb d_Li_redo_31 rfl (lv_at hl 0 rfl) ?_
      refine ep_iald hx hb hK hP 4 0 rfl rfl (i := i) (by omega) (by decide) d_Li_redo_32 ?_
      refine ep_callH (ep_toC (va_runU (As := [.int (na i), .int (aa i), .int (bb i)]) (rest := []) ⟨hx, hb, hml, hown, hg⟩ (m_Ba_perform_Qu l D cI cJ cZ cO b st.1.1 st.1.2 st.2.1 st.2.2 (na i) (aa i) (bb i) (by omega)) (ep_cwA (owner := "EditablePast$Contents") 3 hg tw_437 tw_439 tw_479 tw_441 tw_5 tk_Ba_perform rfl rfl (hKn.2.2.1 _ (by decide +kernel)) (by decide +kernel) ⟨(Nat.le_of_ble_eq_true rfl), (Nat.le_of_ble_eq_true rfl)⟩) ⟨ep_blind, va_recv (q0 := 7) (ci := 2) hK hP rfl rfl, ep_pre hKn (wo_r hP)⟩ rfl rfl hl.1 rfl (lv_room (Nat.le_of_ble_eq_true rfl)) d_Li_redo_33 ⟨Nat.zero_le _, Nat.zero_le _⟩)) hS (fun q h => Or.inr h) (fun H locs hsz9 hk1 hP1 hS => ?_)
      refine W.eq (g2 := F0 m 36 ls []) rfl ?_
      have hP := (wo_kc (wo_l hP) hk1 (wLi_off (show a + 7 ≤ b ∨ b + 2 ≤ a from hab.symm))).app hP1
      have hP : va_P D cls (wLi cI cJ cZ a n mo na aa bb re1 ef1 ++ wBa cI 2 b ((bgS 2 (na i) (aa i) st.1).1.1) ((bgS 2 (na i) (aa i) st.1).1.2) ((bgS 2 (na i) (aa i) st.1).2.1) ((bgS 2 (na i) (aa i) st.1).2.2)) H := hP
      have hD : va_D (fun q => blk a 7 q ∨ blk b 2 q) (wLi cI cJ cZ a n mo na aa bb re1 ef1 ++ wBa cI 2 b ((bgS 2 (na i) (aa i) st.1).1.1) ((bgS 2 (na i) (aa i) st.1).1.2) ((bgS 2 (na i) (aa i) st.1).2.1) ((bgS 2 (na i) (aa i) st.1).2.2)) := app_D wLi_D (blk_D wBa_in) (show a + 7 ≤ b ∨ b + 2 ≤ a from hab.symm)
      have hzz : vp_nar .boolean (bgS 2 (na i) (aa i) st.1).2.2 = (bgS 2 (na i) (aa i) st.1).2.2 := by rcases (bgS_bz 2 (na i) (aa i) st.1) with e | e <;> rw [e] <;> rfl
      refine lv_aload_n hx hb d_Li_redo_36 rfl (lv_at hl 1 rfl) ?_
      refine va_get (D := D) (ci := 1) (v := .ref (a + 5)) (C := R_Li) (T := F_Li) (N := 7) hx hb hg in_Li hown hK hP 0 rfl rfl 5 (Nat.le_of_ble_eq_true rfl) (hg _ tw_53) (fun _ h9 => h9) rfl d_Li_redo_37 ?_
      refine lv_iload_n hx hb d_Li_redo_40 rfl (lv_at hl 0 rfl) ?_
      refine lv_aload_n hx hb d_Li_redo_41 rfl (lv_at hl 2 rfl) ?_
      refine va_get (D := D) (ci := 2) (v := .long ((bgS 2 (na i) (aa i) st.1).2.1)) (C := R_Qu) (T := F_Qu) (N := 4) hx hb hg in_Qu hown hK hP 7 rfl rfl 2 (Nat.le_of_ble_eq_true rfl) (hg _ tw_119) (fun _ h9 => h9) rfl d_Li_redo_42 ?_
      refine ep_last hx hb hK hP hD hS 5 1 rfl rfl (i := i) (x := ((bgS 2 (na i) (aa i) st.1).2.1)) (by omega) (by decide) d_Li_redo_45 (fun H locs hP hD hS => ?_)
      have hP : va_P D cls (wLi cI cJ cZ a n mo na aa bb (vp_updL re1 i ((bgS 2 (na i) (aa i) st.1).2.1)) ef1 ++ wBa cI 2 b ((bgS 2 (na i) (aa i) st.1).1.1) ((bgS 2 (na i) (aa i) st.1).1.2) ((bgS 2 (na i) (aa i) st.1).2.1) ((bgS 2 (na i) (aa i) st.1).2.2)) H := hP
      have hD : va_D (fun q => blk a 7 q ∨ blk b 2 q) (wLi cI cJ cZ a n mo na aa bb (vp_updL re1 i ((bgS 2 (na i) (aa i) st.1).2.1)) ef1 ++ wBa cI 2 b ((bgS 2 (na i) (aa i) st.1).1.1) ((bgS 2 (na i) (aa i) st.1).1.2) ((bgS 2 (na i) (aa i) st.1).2.1) ((bgS 2 (na i) (aa i) st.1).2.2)) := hD
      refine lv_aload_n hx hb d_Li_redo_46 rfl (lv_at hl 1 rfl) ?_
      refine va_get (D := D) (ci := 1) (v := .ref (a + 6)) (C := R_Li) (T := F_Li) (N := 7) hx hb hg in_Li hown hK hP 0 rfl rfl 6 (Nat.le_of_ble_eq_true rfl) (hg _ tw_55) (fun _ h9 => h9) rfl d_Li_redo_47 ?_
      refine lv_iload_n hx hb d_Li_redo_50 rfl (lv_at hl 0 rfl) ?_
      refine lv_aload_n hx hb d_Li_redo_51 rfl (lv_at hl 2 rfl) ?_
      refine va_get (D := D) (ci := 2) (v := .int ((bgS 2 (na i) (aa i) st.1).2.2)) (C := R_Qu) (T := F_Qu) (N := 4) hx hb hg in_Qu hown hK hP 7 rfl rfl 3 (Nat.le_of_ble_eq_true rfl) (hg _ tw_121) (fun _ h9 => h9) rfl d_Li_redo_52 ?_
      refine ep_zast hx hb hK hP hD hS 6 2 rfl rfl (i := i) (x := ((bgS 2 (na i) (aa i) st.1).2.2)) (by assumption) (by omega) (by decide) d_Li_redo_55 (fun H locs hP hD hS => ?_)
      have hP : va_P D cls (wLi cI cJ cZ a n mo na aa bb (vp_updL re1 i ((bgS 2 (na i) (aa i) st.1).2.1)) (upd ef1 i ((bgS 2 (na i) (aa i) st.1).2.2)) ++ wBa cI 2 b ((bgS 2 (na i) (aa i) st.1).1.1) ((bgS 2 (na i) (aa i) st.1).1.2) ((bgS 2 (na i) (aa i) st.1).2.1) ((bgS 2 (na i) (aa i) st.1).2.2)) H := hP
      have hD : va_D (fun q => blk a 7 q ∨ blk b 2 q) (wLi cI cJ cZ a n mo na aa bb (vp_updL re1 i ((bgS 2 (na i) (aa i) st.1).2.1)) (upd ef1 i ((bgS 2 (na i) (aa i) st.1).2.2)) ++ wBa cI 2 b ((bgS 2 (na i) (aa i) st.1).1.1) ((bgS 2 (na i) (aa i) st.1).1.2) ((bgS 2 (na i) (aa i) st.1).2.1) ((bgS 2 (na i) (aa i) st.1).2.2)) := hD
      refine lv_iinc (k := 0) (lv' := [(2, .int (nI (i + 1))), (0, .ref a), (1, .ref b)]) hx hb d_Li_redo_56 hl rfl (inc1 _) (by decide) rfl (fun ls hl => ?_)
      refine lv_goto (tgt := 6) hx hb d_Li_redo_59 (by decide) ?_
      exact ih (i + 1) (bgS 2 (na i) (aa i) st.1) _ _ H locs ls (by omega) (Nat.le_trans (bgS_le 2 _ _ _) (by omega)) q0 (lv_sub hl [0, 1, 2] rfl) hP hS
  exact key n 0 ((0, v), r, f) re ef H locs ls (by omega) (Nat.le_refl _) hR hl hP hS

set_option maxHeartbeats 4000000 in
set_option maxRecDepth 100000 in
theorem m_Li_redo_St (l : Launch) (D : va_G) (cI cJ cZ cO : ClassId) (a n : Nat) (mo na aa bb : Nat → Int32) (re : Nat → Int64) (ef : Nat → Int32) (b n9 : Nat) (v : Nat → Int32) (r : Int64) (f : Int32) (hab : b + 2 ≤ a ∨ a + 7 ≤ b) (hn : n ≤ 32) (R : ((Nat × (Nat → Int32)) × Int64 × Int32) × (Nat → Int64) × (Nat → Int32)) (hR : rdo (fun nm x _ => bgS 3 nm x) na aa bb n 0 ((0, v), r, f) re ef = R) : Met l y_Li_redo (k_Li_redo :: gt) rm_Li_redo (Pc0 D cI cJ cZ cO [.ref a, .ref b] (fun H => va_P D cls (wLi cI cJ cZ a n mo na aa bb re ef ++ wBa cI 3 b n9 v r f) H)) (Qd (fun q => blk a 7 q ∨ blk b 2 q) none (fun H => va_P D cls (wLi cI cJ cZ a n mo na aa bb R.2.1 R.2.2 ++ wBa cI 3 b R.1.1.1 R.1.1.2 R.1.2.1 R.1.2.2) H)) 0 0 (fun q => blk a 7 q ∨ blk b 2 q) := by
  refine Met.ofW (cc := c_Li_redo) (maxL := 3) (ret := none) (by decide) rfl ?_
  intro p e s m args below meth c s₁ B hml hv
  obtain ⟨rfl, hKn, hP⟩ := hv
  have hx := B.exec
  have hb := B.bytes
  have hr := B.returns
  have hts := atoms_spec (ws := k_Li_redo :: gt) B.pre
  have hg : ∀ w ∈ gt, w.before _ s = true := fun w h => hts w (List.mem_cons_of_mem _ h)
  have hown : s.vm.findClass R_Li = some m.cls := findClass_of_methodNamed B.named
  have hlocks := B.notSynchronized
  have hK := hKn.1
  have hl := lv_entry ([.ref a, .ref b]) (n := 3) (Nat.le_of_ble_eq_true rfl)
  rw [lg_entry_eq]
  generalize (lg_sl ([.ref a, .ref b]) ++ List.replicate (3 - (lg_sl ([.ref a, .ref b])).length) Slot.unset).toArray = ls at hl ⊢
  have hl : lv_has ls 3 [(0, .ref a), (1, .ref b)] := hl
  have hS : va_S (fun q => blk a 7 q ∨ blk b 2 q) s.heap s.heap [] := va_S.rf
  refine lv_aload_n hx hb d_Li_redo_0 rfl (lv_at hl 1 rfl) ?_
  refine ep_callH (ep_toC (va_runU (As := []) (rest := []) ⟨hx, hb, hml, hown, hg⟩ (m_Ba_clear_St l D cI cJ cZ cO b n9 v r f) (ep_cwA (owner := "EditablePast$Contents") 0 hg tw_420 tw_422 tw_433 tw_424 tw_5 tk_Ba_clear rfl rfl (hKn.2.2.1 _ (by decide +kernel)) (by decide +kernel) ⟨(Nat.le_of_ble_eq_true rfl), (Nat.le_of_ble_eq_true rfl)⟩) ⟨ep_blind, va_recv (q0 := 7) (ci := 3) hK hP rfl rfl, ep_pre hKn (wo_r hP)⟩ rfl rfl hl.1 rfl (lv_room (Nat.le_of_ble_eq_true rfl)) d_Li_redo_1 ⟨Nat.zero_le _, Nat.zero_le _⟩)) hS (fun q h => Or.inr h) (fun H locs hsz9 hk1 hP1 hS => ?_)
  refine W.eq (g2 := F0 m 4 ls []) rfl ?_
  have hP := (wo_kc (wo_l hP) hk1 (wLi_off (show a + 7 ≤ b ∨ b + 2 ≤ a from hab.symm))).app hP1
  have hP : va_P D cls (wLi cI cJ cZ a n mo na aa bb re ef ++ wBa cI 3 b 0 v r f) H := hP
  refine lv_iconst (v := 0) hx hb d_Li_redo_4 (by decide) ?_
  refine lv_topi (fun z0 e_z0 => ?_)
  obtain rfl : z0 = nI 0 := by rw [e_z0]; exact nI_0.symm
  refine lv_istore_n (lv' := [(2, .int (nI 0)), (0, .ref a), (1, .ref b)]) hx hb d_Li_redo_5 rfl hl (by decide) rfl (fun ls hl => ?_)
  have key : ∀ (k i : Nat) (st : (Nat × (Nat → Int32)) × Int64 × Int32) (re1 : Nat → Int64) (ef1 : Nat → Int32) (H : Heap) (locs : List Loc) (ls : Array Slot), i + k = n → st.1.1 ≤ i → rdo (fun nm x _ => bgS 3 nm x) na aa bb k i st re1 ef1 = R → lv_has ls 3 [(2, .int (nI i)), (0, .ref a), (1, .ref b)] → va_P D cls (wLi cI cJ cZ a n mo na aa bb re1 ef1 ++ wBa cI 3 b st.1.1 st.1.2 st.2.1 st.2.2) H → va_S (fun q => blk a 7 q ∨ blk b 2 q) s.heap H locs → W p l e (headSpec (k_Li_redo :: gt) rm_Li_redo).room s m ([.ref a, .ref b] : List Value).toArray below meth c H locs 0 0 (MQ below (Qd (fun q => blk a 7 q ∨ blk b 2 q) none (fun H => va_P D cls (wLi cI cJ cZ a n mo na aa bb R.2.1 R.2.2 ++ wBa cI 3 b R.1.1.1 R.1.1.2 R.1.2.1 R.1.2.2) H)) ([.ref a, .ref b] : List Value).toArray s 0 0 (fun q => blk a 7 q ∨ blk b 2 q)) (F0 m 6 ls []) := by
    intro k
    induction k with
    | zero =>
      intro i st re1 ef1 H locs ls hi hv1 q0 hl hP hS
      obtain rfl : (st, re1, ef1) = R := q0
      refine lv_iload_n hx hb d_Li_redo_6 rfl (lv_at hl 0 rfl) ?_
      refine lv_aload_n hx hb d_Li_redo_7 rfl (lv_at hl 1 rfl) ?_
      refine va_get (D := D) (ci := 1) (v := .int (nI n)) (C := R_Li) (T := F_Li) (N := 7) hx hb hg in_Li hown hK hP 0 rfl rfl 0 (Nat.le_of_ble_eq_true rfl) (hg _ tw_43) (fun _ h9 => h9) rfl d_Li_redo_8 ?_
      refine lv_icmp_ge (tgt := 62) hx hb d_Li_redo_11 (by decide) (fun hc => ?_) (fun hc => absurd (nI_le (by omega) (by omega)) hc)
      exact W.vret hx hb hr (fun t9 ht hW => ⟨rfl, hS.F ht, by rw [ht]; exact hP⟩) hS.2.2 d_Li_redo_62
    | succ k ih =>
      intro i st re1 ef1 H locs ls hi hv1 q0 hl hP hS
      refine lv_iload_n hx hb d_Li_redo_6 rfl (lv_at hl 0 rfl) ?_
      refine lv_aload_n hx hb d_Li_redo_7 rfl (lv_at hl 1 rfl) ?_
      refine va_get (D := D) (ci := 1) (v := .int (nI n)) (C := R_Li) (T := F_Li) (N := 7) hx hb hg in_Li hown hK hP 0 rfl rfl 0 (Nat.le_of_ble_eq_true rfl) (hg _ tw_43) (fun _ h9 => h9) rfl d_Li_redo_8 ?_
      refine lv_icmp_ge (tgt := 62) hx hb d_Li_redo_11 (by decide) (fun hc => absurd hc (nI_ge (by omega) (by omega))) (fun hc => ?_)
      refine lv_aload_n hx hb d_Li_redo_14 rfl (lv_at hl 2 rfl) ?_
      refine lv_aload_n hx hb d_Li_redo_15 rfl (lv_at hl 1 rfl) ?_
      refine va_get (D := D) (ci := 1) (v := .ref (a + 2)) (C := R_Li) (T := F_Li) (N := 7) hx hb hg in_Li hown hK hP 0 rfl rfl 2 (Nat.le_of_ble_eq_true rfl) (hg _ tw_47) (fun _ h9 => h9) rfl d_Li_redo_16 ?_
      refine lv_iload_n hx hb d_Li_redo_19 rfl (lv_at hl 0 rfl) ?_
      refine ep_iald hx hb hK hP 2 0 rfl rfl (i := i) (by omega) (by decide) d_Li_redo_20 ?_
      refine lv_aload_n hx hb d_Li_redo_21 rfl (lv_at hl 1 rfl) ?_
      refine va_get (D := D) (ci := 1) (v := .ref (a + 3)) (C := R_Li) (T := F_Li) (N := 7) hx hb hg in_Li hown hK hP 0 rfl rfl 3 (Nat.le_of_ble_eq_true rfl) (hg _ tw_49) (fun _ h9 => h9) rfl d_Li_redo_22 ?_
      refine lv_iload_n hx hb d_Li_redo_25 rfl (lv_at hl 0 rfl) ?_
      refine ep_iald hx hb hK hP 3 0 rfl rfl (i := i) (by omega) (by decide) d_Li_redo_26 ?_
      refine lv_aload_n hx hb d_Li_redo_27 rfl (lv_at hl 1 rfl) ?_
      refine va_get (D := D) (ci := 1) (v := .ref (a + 4)) (C := R_Li) (T := F_Li) (N := 7) hx hb hg in_Li hown hK hP 0 rfl rfl 4 (Nat.le_of_ble_eq_true rfl) (hg _ tw_51) (fun _ h9 => h9) rfl d_Li_redo_28 ?_
      refine lv_iload_n hx hb d_Li_redo_31 rfl (lv_at hl 0 rfl) ?_
      refine ep_iald hx hb hK hP 4 0 rfl rfl (i := i) (by omega) (by decide) d_Li_redo_32 ?_
      refine ep_callH (ep_toC (va_runU (As := [.int (na i), .int (aa i), .int (bb i)]) (rest := []) ⟨hx, hb, hml, hown, hg⟩ (m_Ba_perform_St l D cI cJ cZ cO b st.1.1 st.1.2 st.2.1 st.2.2 (na i) (aa i) (bb i) (by omega)) (ep_cwA (owner := "EditablePast$Contents") 3 hg tw_437 tw_439 tw_498 tw_441 tw_5 tk_Ba_perform rfl rfl (hKn.2.2.1 _ (by decide +kernel)) (by decide +kernel) ⟨(Nat.le_of_ble_eq_true rfl), (Nat.le_of_ble_eq_true rfl)⟩) ⟨ep_blind, va_recv (q0 := 7) (ci := 3) hK hP rfl rfl, ep_pre hKn (wo_r hP)⟩ rfl rfl hl.1 rfl (lv_room (Nat.le_of_ble_eq_true rfl)) d_Li_redo_33 ⟨Nat.zero_le _, Nat.zero_le _⟩)) hS (fun q h => Or.inr h) (fun H locs hsz9 hk1 hP1 hS => ?_)
      refine W.eq (g2 := F0 m 36 ls []) rfl ?_
      have hP := (wo_kc (wo_l hP) hk1 (wLi_off (show a + 7 ≤ b ∨ b + 2 ≤ a from hab.symm))).app hP1
      have hP : va_P D cls (wLi cI cJ cZ a n mo na aa bb re1 ef1 ++ wBa cI 3 b ((bgS 3 (na i) (aa i) st.1).1.1) ((bgS 3 (na i) (aa i) st.1).1.2) ((bgS 3 (na i) (aa i) st.1).2.1) ((bgS 3 (na i) (aa i) st.1).2.2)) H := hP
      have hD : va_D (fun q => blk a 7 q ∨ blk b 2 q) (wLi cI cJ cZ a n mo na aa bb re1 ef1 ++ wBa cI 3 b ((bgS 3 (na i) (aa i) st.1).1.1) ((bgS 3 (na i) (aa i) st.1).1.2) ((bgS 3 (na i) (aa i) st.1).2.1) ((bgS 3 (na i) (aa i) st.1).2.2)) := app_D wLi_D (blk_D wBa_in) (show a + 7 ≤ b ∨ b + 2 ≤ a from hab.symm)
      have hzz : vp_nar .boolean (bgS 3 (na i) (aa i) st.1).2.2 = (bgS 3 (na i) (aa i) st.1).2.2 := by rcases (bgS_bz 3 (na i) (aa i) st.1) with e | e <;> rw [e] <;> rfl
      refine lv_aload_n hx hb d_Li_redo_36 rfl (lv_at hl 1 rfl) ?_
      refine va_get (D := D) (ci := 1) (v := .ref (a + 5)) (C := R_Li) (T := F_Li) (N := 7) hx hb hg in_Li hown hK hP 0 rfl rfl 5 (Nat.le_of_ble_eq_true rfl) (hg _ tw_53) (fun _ h9 => h9) rfl d_Li_redo_37 ?_
      refine lv_iload_n hx hb d_Li_redo_40 rfl (lv_at hl 0 rfl) ?_
      refine lv_aload_n hx hb d_Li_redo_41 rfl (lv_at hl 2 rfl) ?_
      refine va_get (D := D) (ci := 3) (v := .long ((bgS 3 (na i) (aa i) st.1).2.1)) (C := R_St) (T := F_St) (N := 4) hx hb hg in_St hown hK hP 7 rfl rfl 2 (Nat.le_of_ble_eq_true rfl) (hg _ tw_119) (fun _ h9 => h9) rfl d_Li_redo_42 ?_
      refine ep_last hx hb hK hP hD hS 5 1 rfl rfl (i := i) (x := ((bgS 3 (na i) (aa i) st.1).2.1)) (by omega) (by decide) d_Li_redo_45 (fun H locs hP hD hS => ?_)
      have hP : va_P D cls (wLi cI cJ cZ a n mo na aa bb (vp_updL re1 i ((bgS 3 (na i) (aa i) st.1).2.1)) ef1 ++ wBa cI 3 b ((bgS 3 (na i) (aa i) st.1).1.1) ((bgS 3 (na i) (aa i) st.1).1.2) ((bgS 3 (na i) (aa i) st.1).2.1) ((bgS 3 (na i) (aa i) st.1).2.2)) H := hP
      have hD : va_D (fun q => blk a 7 q ∨ blk b 2 q) (wLi cI cJ cZ a n mo na aa bb (vp_updL re1 i ((bgS 3 (na i) (aa i) st.1).2.1)) ef1 ++ wBa cI 3 b ((bgS 3 (na i) (aa i) st.1).1.1) ((bgS 3 (na i) (aa i) st.1).1.2) ((bgS 3 (na i) (aa i) st.1).2.1) ((bgS 3 (na i) (aa i) st.1).2.2)) := hD
      refine lv_aload_n hx hb d_Li_redo_46 rfl (lv_at hl 1 rfl) ?_
      refine va_get (D := D) (ci := 1) (v := .ref (a + 6)) (C := R_Li) (T := F_Li) (N := 7) hx hb hg in_Li hown hK hP 0 rfl rfl 6 (Nat.le_of_ble_eq_true rfl) (hg _ tw_55) (fun _ h9 => h9) rfl d_Li_redo_47 ?_
      refine lv_iload_n hx hb d_Li_redo_50 rfl (lv_at hl 0 rfl) ?_
      refine lv_aload_n hx hb d_Li_redo_51 rfl (lv_at hl 2 rfl) ?_
      refine va_get (D := D) (ci := 3) (v := .int ((bgS 3 (na i) (aa i) st.1).2.2)) (C := R_St) (T := F_St) (N := 4) hx hb hg in_St hown hK hP 7 rfl rfl 3 (Nat.le_of_ble_eq_true rfl) (hg _ tw_121) (fun _ h9 => h9) rfl d_Li_redo_52 ?_
      refine ep_zast hx hb hK hP hD hS 6 2 rfl rfl (i := i) (x := ((bgS 3 (na i) (aa i) st.1).2.2)) (by assumption) (by omega) (by decide) d_Li_redo_55 (fun H locs hP hD hS => ?_)
      have hP : va_P D cls (wLi cI cJ cZ a n mo na aa bb (vp_updL re1 i ((bgS 3 (na i) (aa i) st.1).2.1)) (upd ef1 i ((bgS 3 (na i) (aa i) st.1).2.2)) ++ wBa cI 3 b ((bgS 3 (na i) (aa i) st.1).1.1) ((bgS 3 (na i) (aa i) st.1).1.2) ((bgS 3 (na i) (aa i) st.1).2.1) ((bgS 3 (na i) (aa i) st.1).2.2)) H := hP
      have hD : va_D (fun q => blk a 7 q ∨ blk b 2 q) (wLi cI cJ cZ a n mo na aa bb (vp_updL re1 i ((bgS 3 (na i) (aa i) st.1).2.1)) (upd ef1 i ((bgS 3 (na i) (aa i) st.1).2.2)) ++ wBa cI 3 b ((bgS 3 (na i) (aa i) st.1).1.1) ((bgS 3 (na i) (aa i) st.1).1.2) ((bgS 3 (na i) (aa i) st.1).2.1) ((bgS 3 (na i) (aa i) st.1).2.2)) := hD
      refine lv_iinc (k := 0) (lv' := [(2, .int (nI (i + 1))), (0, .ref a), (1, .ref b)]) hx hb d_Li_redo_56 hl rfl (inc1 _) (by decide) rfl (fun ls hl => ?_)
      refine lv_goto (tgt := 6) hx hb d_Li_redo_59 (by decide) ?_
      exact ih (i + 1) (bgS 3 (na i) (aa i) st.1) _ _ H locs ls (by omega) (Nat.le_trans (bgS_le 3 _ _ _) (by omega)) q0 (lv_sub hl [0, 1, 2] rfl) hP hS
  exact key n 0 ((0, v), r, f) re ef H locs ls (by omega) (Nat.le_refl _) hR hl hP hS

set_option maxHeartbeats 4000000 in
set_option maxRecDepth 100000 in
theorem m_Li_redo_He (l : Launch) (D : va_G) (cI cJ cZ cO : ClassId) (a n : Nat) (mo na aa bb : Nat → Int32) (re : Nat → Int64) (ef : Nat → Int32) (b n9 : Nat) (v : Nat → Int32) (r : Int64) (f : Int32) (hab : b + 2 ≤ a ∨ a + 7 ≤ b) (hn : n ≤ 32) (R : ((Nat × (Nat → Int32)) × Int64 × Int32) × (Nat → Int64) × (Nat → Int32)) (hR : rdo (fun nm x _ => bgS 4 nm x) na aa bb n 0 ((0, v), r, f) re ef = R) : Met l y_Li_redo (k_Li_redo :: gt) rm_Li_redo (Pc0 D cI cJ cZ cO [.ref a, .ref b] (fun H => va_P D cls (wLi cI cJ cZ a n mo na aa bb re ef ++ wBa cI 4 b n9 v r f) H)) (Qd (fun q => blk a 7 q ∨ blk b 2 q) none (fun H => va_P D cls (wLi cI cJ cZ a n mo na aa bb R.2.1 R.2.2 ++ wBa cI 4 b R.1.1.1 R.1.1.2 R.1.2.1 R.1.2.2) H)) 0 0 (fun q => blk a 7 q ∨ blk b 2 q) := by
  refine Met.ofW (cc := c_Li_redo) (maxL := 3) (ret := none) (by decide) rfl ?_
  intro p e s m args below meth c s₁ B hml hv
  obtain ⟨rfl, hKn, hP⟩ := hv
  have hx := B.exec
  have hb := B.bytes
  have hr := B.returns
  have hts := atoms_spec (ws := k_Li_redo :: gt) B.pre
  have hg : ∀ w ∈ gt, w.before _ s = true := fun w h => hts w (List.mem_cons_of_mem _ h)
  have hown : s.vm.findClass R_Li = some m.cls := findClass_of_methodNamed B.named
  have hlocks := B.notSynchronized
  have hK := hKn.1
  have hl := lv_entry ([.ref a, .ref b]) (n := 3) (Nat.le_of_ble_eq_true rfl)
  rw [lg_entry_eq]
  generalize (lg_sl ([.ref a, .ref b]) ++ List.replicate (3 - (lg_sl ([.ref a, .ref b])).length) Slot.unset).toArray = ls at hl ⊢
  have hl : lv_has ls 3 [(0, .ref a), (1, .ref b)] := hl
  have hS : va_S (fun q => blk a 7 q ∨ blk b 2 q) s.heap s.heap [] := va_S.rf
  refine lv_aload_n hx hb d_Li_redo_0 rfl (lv_at hl 1 rfl) ?_
  refine ep_callH (ep_toC (va_runU (As := []) (rest := []) ⟨hx, hb, hml, hown, hg⟩ (m_Ba_clear_He l D cI cJ cZ cO b n9 v r f) (ep_cwA (owner := "EditablePast$Contents") 0 hg tw_420 tw_422 tw_423 tw_424 tw_5 tk_Ba_clear rfl rfl (hKn.2.2.1 _ (by decide +kernel)) (by decide +kernel) ⟨(Nat.le_of_ble_eq_true rfl), (Nat.le_of_ble_eq_true rfl)⟩) ⟨ep_blind, va_recv (q0 := 7) (ci := 4) hK hP rfl rfl, ep_pre hKn (wo_r hP)⟩ rfl rfl hl.1 rfl (lv_room (Nat.le_of_ble_eq_true rfl)) d_Li_redo_1 ⟨Nat.zero_le _, Nat.zero_le _⟩)) hS (fun q h => Or.inr h) (fun H locs hsz9 hk1 hP1 hS => ?_)
  refine W.eq (g2 := F0 m 4 ls []) rfl ?_
  have hP := (wo_kc (wo_l hP) hk1 (wLi_off (show a + 7 ≤ b ∨ b + 2 ≤ a from hab.symm))).app hP1
  have hP : va_P D cls (wLi cI cJ cZ a n mo na aa bb re ef ++ wBa cI 4 b 0 v r f) H := hP
  refine lv_iconst (v := 0) hx hb d_Li_redo_4 (by decide) ?_
  refine lv_topi (fun z0 e_z0 => ?_)
  obtain rfl : z0 = nI 0 := by rw [e_z0]; exact nI_0.symm
  refine lv_istore_n (lv' := [(2, .int (nI 0)), (0, .ref a), (1, .ref b)]) hx hb d_Li_redo_5 rfl hl (by decide) rfl (fun ls hl => ?_)
  have key : ∀ (k i : Nat) (st : (Nat × (Nat → Int32)) × Int64 × Int32) (re1 : Nat → Int64) (ef1 : Nat → Int32) (H : Heap) (locs : List Loc) (ls : Array Slot), i + k = n → st.1.1 ≤ i → rdo (fun nm x _ => bgS 4 nm x) na aa bb k i st re1 ef1 = R → lv_has ls 3 [(2, .int (nI i)), (0, .ref a), (1, .ref b)] → va_P D cls (wLi cI cJ cZ a n mo na aa bb re1 ef1 ++ wBa cI 4 b st.1.1 st.1.2 st.2.1 st.2.2) H → va_S (fun q => blk a 7 q ∨ blk b 2 q) s.heap H locs → W p l e (headSpec (k_Li_redo :: gt) rm_Li_redo).room s m ([.ref a, .ref b] : List Value).toArray below meth c H locs 0 0 (MQ below (Qd (fun q => blk a 7 q ∨ blk b 2 q) none (fun H => va_P D cls (wLi cI cJ cZ a n mo na aa bb R.2.1 R.2.2 ++ wBa cI 4 b R.1.1.1 R.1.1.2 R.1.2.1 R.1.2.2) H)) ([.ref a, .ref b] : List Value).toArray s 0 0 (fun q => blk a 7 q ∨ blk b 2 q)) (F0 m 6 ls []) := by
    intro k
    induction k with
    | zero =>
      intro i st re1 ef1 H locs ls hi hv1 q0 hl hP hS
      obtain rfl : (st, re1, ef1) = R := q0
      refine lv_iload_n hx hb d_Li_redo_6 rfl (lv_at hl 0 rfl) ?_
      refine lv_aload_n hx hb d_Li_redo_7 rfl (lv_at hl 1 rfl) ?_
      refine va_get (D := D) (ci := 1) (v := .int (nI n)) (C := R_Li) (T := F_Li) (N := 7) hx hb hg in_Li hown hK hP 0 rfl rfl 0 (Nat.le_of_ble_eq_true rfl) (hg _ tw_43) (fun _ h9 => h9) rfl d_Li_redo_8 ?_
      refine lv_icmp_ge (tgt := 62) hx hb d_Li_redo_11 (by decide) (fun hc => ?_) (fun hc => absurd (nI_le (by omega) (by omega)) hc)
      exact W.vret hx hb hr (fun t9 ht hW => ⟨rfl, hS.F ht, by rw [ht]; exact hP⟩) hS.2.2 d_Li_redo_62
    | succ k ih =>
      intro i st re1 ef1 H locs ls hi hv1 q0 hl hP hS
      refine lv_iload_n hx hb d_Li_redo_6 rfl (lv_at hl 0 rfl) ?_
      refine lv_aload_n hx hb d_Li_redo_7 rfl (lv_at hl 1 rfl) ?_
      refine va_get (D := D) (ci := 1) (v := .int (nI n)) (C := R_Li) (T := F_Li) (N := 7) hx hb hg in_Li hown hK hP 0 rfl rfl 0 (Nat.le_of_ble_eq_true rfl) (hg _ tw_43) (fun _ h9 => h9) rfl d_Li_redo_8 ?_
      refine lv_icmp_ge (tgt := 62) hx hb d_Li_redo_11 (by decide) (fun hc => absurd hc (nI_ge (by omega) (by omega))) (fun hc => ?_)
      refine lv_aload_n hx hb d_Li_redo_14 rfl (lv_at hl 2 rfl) ?_
      refine lv_aload_n hx hb d_Li_redo_15 rfl (lv_at hl 1 rfl) ?_
      refine va_get (D := D) (ci := 1) (v := .ref (a + 2)) (C := R_Li) (T := F_Li) (N := 7) hx hb hg in_Li hown hK hP 0 rfl rfl 2 (Nat.le_of_ble_eq_true rfl) (hg _ tw_47) (fun _ h9 => h9) rfl d_Li_redo_16 ?_
      refine lv_iload_n hx hb d_Li_redo_19 rfl (lv_at hl 0 rfl) ?_
      refine ep_iald hx hb hK hP 2 0 rfl rfl (i := i) (by omega) (by decide) d_Li_redo_20 ?_
      refine lv_aload_n hx hb d_Li_redo_21 rfl (lv_at hl 1 rfl) ?_
      refine va_get (D := D) (ci := 1) (v := .ref (a + 3)) (C := R_Li) (T := F_Li) (N := 7) hx hb hg in_Li hown hK hP 0 rfl rfl 3 (Nat.le_of_ble_eq_true rfl) (hg _ tw_49) (fun _ h9 => h9) rfl d_Li_redo_22 ?_
      refine lv_iload_n hx hb d_Li_redo_25 rfl (lv_at hl 0 rfl) ?_
      refine ep_iald hx hb hK hP 3 0 rfl rfl (i := i) (by omega) (by decide) d_Li_redo_26 ?_
      refine lv_aload_n hx hb d_Li_redo_27 rfl (lv_at hl 1 rfl) ?_
      refine va_get (D := D) (ci := 1) (v := .ref (a + 4)) (C := R_Li) (T := F_Li) (N := 7) hx hb hg in_Li hown hK hP 0 rfl rfl 4 (Nat.le_of_ble_eq_true rfl) (hg _ tw_51) (fun _ h9 => h9) rfl d_Li_redo_28 ?_
      refine lv_iload_n hx hb d_Li_redo_31 rfl (lv_at hl 0 rfl) ?_
      refine ep_iald hx hb hK hP 4 0 rfl rfl (i := i) (by omega) (by decide) d_Li_redo_32 ?_
      refine ep_callH (ep_toC (va_runU (As := [.int (na i), .int (aa i), .int (bb i)]) (rest := []) ⟨hx, hb, hml, hown, hg⟩ (m_Ba_perform_He l D cI cJ cZ cO b st.1.1 st.1.2 st.2.1 st.2.2 (na i) (aa i) (bb i) (by omega)) (ep_cwA (owner := "EditablePast$Contents") 3 hg tw_437 tw_439 tw_440 tw_441 tw_5 tk_Ba_perform rfl rfl (hKn.2.2.1 _ (by decide +kernel)) (by decide +kernel) ⟨(Nat.le_of_ble_eq_true rfl), (Nat.le_of_ble_eq_true rfl)⟩) ⟨ep_blind, va_recv (q0 := 7) (ci := 4) hK hP rfl rfl, ep_pre hKn (wo_r hP)⟩ rfl rfl hl.1 rfl (lv_room (Nat.le_of_ble_eq_true rfl)) d_Li_redo_33 ⟨Nat.zero_le _, Nat.zero_le _⟩)) hS (fun q h => Or.inr h) (fun H locs hsz9 hk1 hP1 hS => ?_)
      refine W.eq (g2 := F0 m 36 ls []) rfl ?_
      have hP := (wo_kc (wo_l hP) hk1 (wLi_off (show a + 7 ≤ b ∨ b + 2 ≤ a from hab.symm))).app hP1
      have hP : va_P D cls (wLi cI cJ cZ a n mo na aa bb re1 ef1 ++ wBa cI 4 b ((bgS 4 (na i) (aa i) st.1).1.1) ((bgS 4 (na i) (aa i) st.1).1.2) ((bgS 4 (na i) (aa i) st.1).2.1) ((bgS 4 (na i) (aa i) st.1).2.2)) H := hP
      have hD : va_D (fun q => blk a 7 q ∨ blk b 2 q) (wLi cI cJ cZ a n mo na aa bb re1 ef1 ++ wBa cI 4 b ((bgS 4 (na i) (aa i) st.1).1.1) ((bgS 4 (na i) (aa i) st.1).1.2) ((bgS 4 (na i) (aa i) st.1).2.1) ((bgS 4 (na i) (aa i) st.1).2.2)) := app_D wLi_D (blk_D wBa_in) (show a + 7 ≤ b ∨ b + 2 ≤ a from hab.symm)
      have hzz : vp_nar .boolean (bgS 4 (na i) (aa i) st.1).2.2 = (bgS 4 (na i) (aa i) st.1).2.2 := by rcases (bgS_bz 4 (na i) (aa i) st.1) with e | e <;> rw [e] <;> rfl
      refine lv_aload_n hx hb d_Li_redo_36 rfl (lv_at hl 1 rfl) ?_
      refine va_get (D := D) (ci := 1) (v := .ref (a + 5)) (C := R_Li) (T := F_Li) (N := 7) hx hb hg in_Li hown hK hP 0 rfl rfl 5 (Nat.le_of_ble_eq_true rfl) (hg _ tw_53) (fun _ h9 => h9) rfl d_Li_redo_37 ?_
      refine lv_iload_n hx hb d_Li_redo_40 rfl (lv_at hl 0 rfl) ?_
      refine lv_aload_n hx hb d_Li_redo_41 rfl (lv_at hl 2 rfl) ?_
      refine va_get (D := D) (ci := 4) (v := .long ((bgS 4 (na i) (aa i) st.1).2.1)) (C := R_He) (T := F_He) (N := 4) hx hb hg in_He hown hK hP 7 rfl rfl 2 (Nat.le_of_ble_eq_true rfl) (hg _ tw_119) (fun _ h9 => h9) rfl d_Li_redo_42 ?_
      refine ep_last hx hb hK hP hD hS 5 1 rfl rfl (i := i) (x := ((bgS 4 (na i) (aa i) st.1).2.1)) (by omega) (by decide) d_Li_redo_45 (fun H locs hP hD hS => ?_)
      have hP : va_P D cls (wLi cI cJ cZ a n mo na aa bb (vp_updL re1 i ((bgS 4 (na i) (aa i) st.1).2.1)) ef1 ++ wBa cI 4 b ((bgS 4 (na i) (aa i) st.1).1.1) ((bgS 4 (na i) (aa i) st.1).1.2) ((bgS 4 (na i) (aa i) st.1).2.1) ((bgS 4 (na i) (aa i) st.1).2.2)) H := hP
      have hD : va_D (fun q => blk a 7 q ∨ blk b 2 q) (wLi cI cJ cZ a n mo na aa bb (vp_updL re1 i ((bgS 4 (na i) (aa i) st.1).2.1)) ef1 ++ wBa cI 4 b ((bgS 4 (na i) (aa i) st.1).1.1) ((bgS 4 (na i) (aa i) st.1).1.2) ((bgS 4 (na i) (aa i) st.1).2.1) ((bgS 4 (na i) (aa i) st.1).2.2)) := hD
      refine lv_aload_n hx hb d_Li_redo_46 rfl (lv_at hl 1 rfl) ?_
      refine va_get (D := D) (ci := 1) (v := .ref (a + 6)) (C := R_Li) (T := F_Li) (N := 7) hx hb hg in_Li hown hK hP 0 rfl rfl 6 (Nat.le_of_ble_eq_true rfl) (hg _ tw_55) (fun _ h9 => h9) rfl d_Li_redo_47 ?_
      refine lv_iload_n hx hb d_Li_redo_50 rfl (lv_at hl 0 rfl) ?_
      refine lv_aload_n hx hb d_Li_redo_51 rfl (lv_at hl 2 rfl) ?_
      refine va_get (D := D) (ci := 4) (v := .int ((bgS 4 (na i) (aa i) st.1).2.2)) (C := R_He) (T := F_He) (N := 4) hx hb hg in_He hown hK hP 7 rfl rfl 3 (Nat.le_of_ble_eq_true rfl) (hg _ tw_121) (fun _ h9 => h9) rfl d_Li_redo_52 ?_
      refine ep_zast hx hb hK hP hD hS 6 2 rfl rfl (i := i) (x := ((bgS 4 (na i) (aa i) st.1).2.2)) (by assumption) (by omega) (by decide) d_Li_redo_55 (fun H locs hP hD hS => ?_)
      have hP : va_P D cls (wLi cI cJ cZ a n mo na aa bb (vp_updL re1 i ((bgS 4 (na i) (aa i) st.1).2.1)) (upd ef1 i ((bgS 4 (na i) (aa i) st.1).2.2)) ++ wBa cI 4 b ((bgS 4 (na i) (aa i) st.1).1.1) ((bgS 4 (na i) (aa i) st.1).1.2) ((bgS 4 (na i) (aa i) st.1).2.1) ((bgS 4 (na i) (aa i) st.1).2.2)) H := hP
      have hD : va_D (fun q => blk a 7 q ∨ blk b 2 q) (wLi cI cJ cZ a n mo na aa bb (vp_updL re1 i ((bgS 4 (na i) (aa i) st.1).2.1)) (upd ef1 i ((bgS 4 (na i) (aa i) st.1).2.2)) ++ wBa cI 4 b ((bgS 4 (na i) (aa i) st.1).1.1) ((bgS 4 (na i) (aa i) st.1).1.2) ((bgS 4 (na i) (aa i) st.1).2.1) ((bgS 4 (na i) (aa i) st.1).2.2)) := hD
      refine lv_iinc (k := 0) (lv' := [(2, .int (nI (i + 1))), (0, .ref a), (1, .ref b)]) hx hb d_Li_redo_56 hl rfl (inc1 _) (by decide) rfl (fun ls hl => ?_)
      refine lv_goto (tgt := 6) hx hb d_Li_redo_59 (by decide) ?_
      exact ih (i + 1) (bgS 4 (na i) (aa i) st.1) _ _ H locs ls (by omega) (Nat.le_trans (bgS_le 4 _ _ _) (by omega)) q0 (lv_sub hl [0, 1, 2] rfl) hP hS
  exact key n 0 ((0, v), r, f) re ef H locs ls (by omega) (Nat.le_refl _) hR hl hP hS

set_option maxHeartbeats 4000000 in
set_option maxRecDepth 100000 in
theorem m_Li_redo_Ta (l : Launch) (D : va_G) (cI cJ cZ cO : ClassId) (a n : Nat) (mo na aa bb : Nat → Int32) (re : Nat → Int64) (ef : Nat → Int32) (b n9 : Nat) (ks vs : Nat → Int32) (r : Int64) (f : Int32) (hab : b + 3 ≤ a ∨ a + 7 ≤ b) (hn : n ≤ 32) (R : ((Nat × (Nat → Int32) × (Nat → Int32)) × Int64 × Int32) × (Nat → Int64) × (Nat → Int32)) (hR : rdo taS na aa bb n 0 ((0, ks, vs), r, f) re ef = R) : Met l y_Li_redo (k_Li_redo :: gt) rm_Li_redo (Pc0 D cI cJ cZ cO [.ref a, .ref b] (fun H => va_P D cls (wLi cI cJ cZ a n mo na aa bb re ef ++ wTa cI b n9 ks vs r f) H)) (Qd (fun q => blk a 7 q ∨ blk b 3 q) none (fun H => va_P D cls (wLi cI cJ cZ a n mo na aa bb R.2.1 R.2.2 ++ wTa cI b R.1.1.1 R.1.1.2.1 R.1.1.2.2 R.1.2.1 R.1.2.2) H)) 0 0 (fun q => blk a 7 q ∨ blk b 3 q) := by
  refine Met.ofW (cc := c_Li_redo) (maxL := 3) (ret := none) (by decide) rfl ?_
  intro p e s m args below meth c s₁ B hml hv
  obtain ⟨rfl, hKn, hP⟩ := hv
  have hx := B.exec
  have hb := B.bytes
  have hr := B.returns
  have hts := atoms_spec (ws := k_Li_redo :: gt) B.pre
  have hg : ∀ w ∈ gt, w.before _ s = true := fun w h => hts w (List.mem_cons_of_mem _ h)
  have hown : s.vm.findClass R_Li = some m.cls := findClass_of_methodNamed B.named
  have hlocks := B.notSynchronized
  have hK := hKn.1
  have hl := lv_entry ([.ref a, .ref b]) (n := 3) (Nat.le_of_ble_eq_true rfl)
  rw [lg_entry_eq]
  generalize (lg_sl ([.ref a, .ref b]) ++ List.replicate (3 - (lg_sl ([.ref a, .ref b])).length) Slot.unset).toArray = ls at hl ⊢
  have hl : lv_has ls 3 [(0, .ref a), (1, .ref b)] := hl
  have hS : va_S (fun q => blk a 7 q ∨ blk b 3 q) s.heap s.heap [] := va_S.rf
  refine lv_aload_n hx hb d_Li_redo_0 rfl (lv_at hl 1 rfl) ?_
  refine ep_callH (ep_toC (va_runU (As := []) (rest := []) ⟨hx, hb, hml, hown, hg⟩ (m_Ta_clear l D cI cJ cZ cO b n9 ks vs r f) (ep_cwA (owner := "EditablePast$Contents") 0 hg tw_420 tw_422 tw_434 tw_435 tw_8 tk_Ta_clear rfl rfl (hKn.2.2.1 _ (by decide +kernel)) (by decide +kernel) ⟨(Nat.le_of_ble_eq_true rfl), (Nat.le_of_ble_eq_true rfl)⟩) ⟨ep_blind, va_recv (q0 := 7) (ci := 5) hK hP rfl rfl, ep_pre hKn (wo_r hP)⟩ rfl rfl hl.1 rfl (lv_room (Nat.le_of_ble_eq_true rfl)) d_Li_redo_1 ⟨Nat.zero_le _, Nat.zero_le _⟩)) hS (fun q h => Or.inr h) (fun H locs hsz9 hk1 hP1 hS => ?_)
  refine W.eq (g2 := F0 m 4 ls []) rfl ?_
  have hP := (wo_kc (wo_l hP) hk1 (wLi_off (show a + 7 ≤ b ∨ b + 3 ≤ a from hab.symm))).app hP1
  have hP : va_P D cls (wLi cI cJ cZ a n mo na aa bb re ef ++ wTa cI b 0 ks vs r f) H := hP
  refine lv_iconst (v := 0) hx hb d_Li_redo_4 (by decide) ?_
  refine lv_topi (fun z0 e_z0 => ?_)
  obtain rfl : z0 = nI 0 := by rw [e_z0]; exact nI_0.symm
  refine lv_istore_n (lv' := [(2, .int (nI 0)), (0, .ref a), (1, .ref b)]) hx hb d_Li_redo_5 rfl hl (by decide) rfl (fun ls hl => ?_)
  have key : ∀ (k i : Nat) (st : (Nat × (Nat → Int32) × (Nat → Int32)) × Int64 × Int32) (re1 : Nat → Int64) (ef1 : Nat → Int32) (H : Heap) (locs : List Loc) (ls : Array Slot), i + k = n → st.1.1 ≤ i → rdo taS na aa bb k i st re1 ef1 = R → lv_has ls 3 [(2, .int (nI i)), (0, .ref a), (1, .ref b)] → va_P D cls (wLi cI cJ cZ a n mo na aa bb re1 ef1 ++ wTa cI b st.1.1 st.1.2.1 st.1.2.2 st.2.1 st.2.2) H → va_S (fun q => blk a 7 q ∨ blk b 3 q) s.heap H locs → W p l e (headSpec (k_Li_redo :: gt) rm_Li_redo).room s m ([.ref a, .ref b] : List Value).toArray below meth c H locs 0 0 (MQ below (Qd (fun q => blk a 7 q ∨ blk b 3 q) none (fun H => va_P D cls (wLi cI cJ cZ a n mo na aa bb R.2.1 R.2.2 ++ wTa cI b R.1.1.1 R.1.1.2.1 R.1.1.2.2 R.1.2.1 R.1.2.2) H)) ([.ref a, .ref b] : List Value).toArray s 0 0 (fun q => blk a 7 q ∨ blk b 3 q)) (F0 m 6 ls []) := by
    intro k
    induction k with
    | zero =>
      intro i st re1 ef1 H locs ls hi hv1 q0 hl hP hS
      obtain rfl : (st, re1, ef1) = R := q0
      refine lv_iload_n hx hb d_Li_redo_6 rfl (lv_at hl 0 rfl) ?_
      refine lv_aload_n hx hb d_Li_redo_7 rfl (lv_at hl 1 rfl) ?_
      refine va_get (D := D) (ci := 1) (v := .int (nI n)) (C := R_Li) (T := F_Li) (N := 7) hx hb hg in_Li hown hK hP 0 rfl rfl 0 (Nat.le_of_ble_eq_true rfl) (hg _ tw_43) (fun _ h9 => h9) rfl d_Li_redo_8 ?_
      refine lv_icmp_ge (tgt := 62) hx hb d_Li_redo_11 (by decide) (fun hc => ?_) (fun hc => absurd (nI_le (by omega) (by omega)) hc)
      exact W.vret hx hb hr (fun t9 ht hW => ⟨rfl, hS.F ht, by rw [ht]; exact hP⟩) hS.2.2 d_Li_redo_62
    | succ k ih =>
      intro i st re1 ef1 H locs ls hi hv1 q0 hl hP hS
      refine lv_iload_n hx hb d_Li_redo_6 rfl (lv_at hl 0 rfl) ?_
      refine lv_aload_n hx hb d_Li_redo_7 rfl (lv_at hl 1 rfl) ?_
      refine va_get (D := D) (ci := 1) (v := .int (nI n)) (C := R_Li) (T := F_Li) (N := 7) hx hb hg in_Li hown hK hP 0 rfl rfl 0 (Nat.le_of_ble_eq_true rfl) (hg _ tw_43) (fun _ h9 => h9) rfl d_Li_redo_8 ?_
      refine lv_icmp_ge (tgt := 62) hx hb d_Li_redo_11 (by decide) (fun hc => absurd hc (nI_ge (by omega) (by omega))) (fun hc => ?_)
      refine lv_aload_n hx hb d_Li_redo_14 rfl (lv_at hl 2 rfl) ?_
      refine lv_aload_n hx hb d_Li_redo_15 rfl (lv_at hl 1 rfl) ?_
      refine va_get (D := D) (ci := 1) (v := .ref (a + 2)) (C := R_Li) (T := F_Li) (N := 7) hx hb hg in_Li hown hK hP 0 rfl rfl 2 (Nat.le_of_ble_eq_true rfl) (hg _ tw_47) (fun _ h9 => h9) rfl d_Li_redo_16 ?_
      refine lv_iload_n hx hb d_Li_redo_19 rfl (lv_at hl 0 rfl) ?_
      refine ep_iald hx hb hK hP 2 0 rfl rfl (i := i) (by omega) (by decide) d_Li_redo_20 ?_
      refine lv_aload_n hx hb d_Li_redo_21 rfl (lv_at hl 1 rfl) ?_
      refine va_get (D := D) (ci := 1) (v := .ref (a + 3)) (C := R_Li) (T := F_Li) (N := 7) hx hb hg in_Li hown hK hP 0 rfl rfl 3 (Nat.le_of_ble_eq_true rfl) (hg _ tw_49) (fun _ h9 => h9) rfl d_Li_redo_22 ?_
      refine lv_iload_n hx hb d_Li_redo_25 rfl (lv_at hl 0 rfl) ?_
      refine ep_iald hx hb hK hP 3 0 rfl rfl (i := i) (by omega) (by decide) d_Li_redo_26 ?_
      refine lv_aload_n hx hb d_Li_redo_27 rfl (lv_at hl 1 rfl) ?_
      refine va_get (D := D) (ci := 1) (v := .ref (a + 4)) (C := R_Li) (T := F_Li) (N := 7) hx hb hg in_Li hown hK hP 0 rfl rfl 4 (Nat.le_of_ble_eq_true rfl) (hg _ tw_51) (fun _ h9 => h9) rfl d_Li_redo_28 ?_
      refine lv_iload_n hx hb d_Li_redo_31 rfl (lv_at hl 0 rfl) ?_
      refine ep_iald hx hb hK hP 4 0 rfl rfl (i := i) (by omega) (by decide) d_Li_redo_32 ?_
      refine ep_callH (ep_toC (va_runU (As := [.int (na i), .int (aa i), .int (bb i)]) (rest := []) ⟨hx, hb, hml, hown, hg⟩ (m_Ta_perform l D cI cJ cZ cO b st.1.1 st.1.2.1 st.1.2.2 st.2.1 st.2.2 (na i) (aa i) (bb i) (by omega)) (ep_cwA (owner := "EditablePast$Contents") 3 hg tw_437 tw_439 tw_499 tw_500 tw_8 tk_Ta_perform rfl rfl (hKn.2.2.1 _ (by decide +kernel)) (by decide +kernel) ⟨(Nat.le_of_ble_eq_true rfl), (Nat.le_of_ble_eq_true rfl)⟩) ⟨ep_blind, va_recv (q0 := 7) (ci := 5) hK hP rfl rfl, ep_pre hKn (wo_r hP)⟩ rfl rfl hl.1 rfl (lv_room (Nat.le_of_ble_eq_true rfl)) d_Li_redo_33 ⟨Nat.zero_le _, Nat.zero_le _⟩)) hS (fun q h => Or.inr h) (fun H locs hsz9 hk1 hP1 hS => ?_)
      refine W.eq (g2 := F0 m 36 ls []) rfl ?_
      have hP := (wo_kc (wo_l hP) hk1 (wLi_off (show a + 7 ≤ b ∨ b + 3 ≤ a from hab.symm))).app hP1
      have hP : va_P D cls (wLi cI cJ cZ a n mo na aa bb re1 ef1 ++ wTa cI b ((taS (na i) (aa i) (bb i) st.1).1.1) ((taS (na i) (aa i) (bb i) st.1).1.2.1) ((taS (na i) (aa i) (bb i) st.1).1.2.2) ((taS (na i) (aa i) (bb i) st.1).2.1) ((taS (na i) (aa i) (bb i) st.1).2.2)) H := hP
      have hD : va_D (fun q => blk a 7 q ∨ blk b 3 q) (wLi cI cJ cZ a n mo na aa bb re1 ef1 ++ wTa cI b ((taS (na i) (aa i) (bb i) st.1).1.1) ((taS (na i) (aa i) (bb i) st.1).1.2.1) ((taS (na i) (aa i) (bb i) st.1).1.2.2) ((taS (na i) (aa i) (bb i) st.1).2.1) ((taS (na i) (aa i) (bb i) st.1).2.2)) := app_D wLi_D (blk_D wTa_in) (show a + 7 ≤ b ∨ b + 3 ≤ a from hab.symm)
      have hzz : vp_nar .boolean (taS (na i) (aa i) (bb i) st.1).2.2 = (taS (na i) (aa i) (bb i) st.1).2.2 := by rcases (taS_bz (na i) (aa i) (bb i) st.1) with e | e <;> rw [e] <;> rfl
      refine lv_aload_n hx hb d_Li_redo_36 rfl (lv_at hl 1 rfl) ?_
      refine va_get (D := D) (ci := 1) (v := .ref (a + 5)) (C := R_Li) (T := F_Li) (N := 7) hx hb hg in_Li hown hK hP 0 rfl rfl 5 (Nat.le_of_ble_eq_true rfl) (hg _ tw_53) (fun _ h9 => h9) rfl d_Li_redo_37 ?_
      refine lv_iload_n hx hb d_Li_redo_40 rfl (lv_at hl 0 rfl) ?_
      refine lv_aload_n hx hb d_Li_redo_41 rfl (lv_at hl 2 rfl) ?_
      refine va_get (D := D) (ci := 5) (v := .long ((taS (na i) (aa i) (bb i) st.1).2.1)) (C := R_Ta) (T := F_Ta) (N := 5) hx hb hg in_Ta hown hK hP 7 rfl rfl 3 (Nat.le_of_ble_eq_true rfl) (hg _ tw_119) (fun _ h9 => h9) rfl d_Li_redo_42 ?_
      refine ep_last hx hb hK hP hD hS 5 1 rfl rfl (i := i) (x := ((taS (na i) (aa i) (bb i) st.1).2.1)) (by omega) (by decide) d_Li_redo_45 (fun H locs hP hD hS => ?_)
      have hP : va_P D cls (wLi cI cJ cZ a n mo na aa bb (vp_updL re1 i ((taS (na i) (aa i) (bb i) st.1).2.1)) ef1 ++ wTa cI b ((taS (na i) (aa i) (bb i) st.1).1.1) ((taS (na i) (aa i) (bb i) st.1).1.2.1) ((taS (na i) (aa i) (bb i) st.1).1.2.2) ((taS (na i) (aa i) (bb i) st.1).2.1) ((taS (na i) (aa i) (bb i) st.1).2.2)) H := hP
      have hD : va_D (fun q => blk a 7 q ∨ blk b 3 q) (wLi cI cJ cZ a n mo na aa bb (vp_updL re1 i ((taS (na i) (aa i) (bb i) st.1).2.1)) ef1 ++ wTa cI b ((taS (na i) (aa i) (bb i) st.1).1.1) ((taS (na i) (aa i) (bb i) st.1).1.2.1) ((taS (na i) (aa i) (bb i) st.1).1.2.2) ((taS (na i) (aa i) (bb i) st.1).2.1) ((taS (na i) (aa i) (bb i) st.1).2.2)) := hD
      refine lv_aload_n hx hb d_Li_redo_46 rfl (lv_at hl 1 rfl) ?_
      refine va_get (D := D) (ci := 1) (v := .ref (a + 6)) (C := R_Li) (T := F_Li) (N := 7) hx hb hg in_Li hown hK hP 0 rfl rfl 6 (Nat.le_of_ble_eq_true rfl) (hg _ tw_55) (fun _ h9 => h9) rfl d_Li_redo_47 ?_
      refine lv_iload_n hx hb d_Li_redo_50 rfl (lv_at hl 0 rfl) ?_
      refine lv_aload_n hx hb d_Li_redo_51 rfl (lv_at hl 2 rfl) ?_
      refine va_get (D := D) (ci := 5) (v := .int ((taS (na i) (aa i) (bb i) st.1).2.2)) (C := R_Ta) (T := F_Ta) (N := 5) hx hb hg in_Ta hown hK hP 7 rfl rfl 4 (Nat.le_of_ble_eq_true rfl) (hg _ tw_121) (fun _ h9 => h9) rfl d_Li_redo_52 ?_
      refine ep_zast hx hb hK hP hD hS 6 2 rfl rfl (i := i) (x := ((taS (na i) (aa i) (bb i) st.1).2.2)) (by assumption) (by omega) (by decide) d_Li_redo_55 (fun H locs hP hD hS => ?_)
      have hP : va_P D cls (wLi cI cJ cZ a n mo na aa bb (vp_updL re1 i ((taS (na i) (aa i) (bb i) st.1).2.1)) (upd ef1 i ((taS (na i) (aa i) (bb i) st.1).2.2)) ++ wTa cI b ((taS (na i) (aa i) (bb i) st.1).1.1) ((taS (na i) (aa i) (bb i) st.1).1.2.1) ((taS (na i) (aa i) (bb i) st.1).1.2.2) ((taS (na i) (aa i) (bb i) st.1).2.1) ((taS (na i) (aa i) (bb i) st.1).2.2)) H := hP
      have hD : va_D (fun q => blk a 7 q ∨ blk b 3 q) (wLi cI cJ cZ a n mo na aa bb (vp_updL re1 i ((taS (na i) (aa i) (bb i) st.1).2.1)) (upd ef1 i ((taS (na i) (aa i) (bb i) st.1).2.2)) ++ wTa cI b ((taS (na i) (aa i) (bb i) st.1).1.1) ((taS (na i) (aa i) (bb i) st.1).1.2.1) ((taS (na i) (aa i) (bb i) st.1).1.2.2) ((taS (na i) (aa i) (bb i) st.1).2.1) ((taS (na i) (aa i) (bb i) st.1).2.2)) := hD
      refine lv_iinc (k := 0) (lv' := [(2, .int (nI (i + 1))), (0, .ref a), (1, .ref b)]) hx hb d_Li_redo_56 hl rfl (inc1 _) (by decide) rfl (fun ls hl => ?_)
      refine lv_goto (tgt := 6) hx hb d_Li_redo_59 (by decide) ?_
      exact ih (i + 1) (taS (na i) (aa i) (bb i) st.1) _ _ H locs ls (by omega) (Nat.le_trans (taS_le _ _ _ _) (by omega)) q0 (lv_sub hl [0, 1, 2] rfl) hP hS
  exact key n 0 ((0, ks, vs), r, f) re ef H locs ls (by omega) (Nat.le_refl _) hR hl hP hS

set_option maxHeartbeats 4000000 in
set_option maxRecDepth 100000 in
theorem m_Li_redo_Re (l : Launch) (D : va_G) (cI cJ cZ cO : ClassId) (a n : Nat) (mo na aa bb : Nat → Int32) (re : Nat → Int64) (ef : Nat → Int32) (b : Nat) (tot : Int64) (n9 : Nat) (r : Int64) (f : Int32) (hab : b + 1 ≤ a ∨ a + 7 ≤ b) (hn : n ≤ 32) (R : ((Int64 × Nat) × Int64 × Int32) × (Nat → Int64) × (Nat → Int32)) (hR : rdo (fun _ x _ => reS x) na aa bb n 0 ((0, n9), r, f) re ef = R) : Met l y_Li_redo (k_Li_redo :: gt) rm_Li_redo (Pc0 D cI cJ cZ cO [.ref a, .ref b] (fun H => va_P D cls (wLi cI cJ cZ a n mo na aa bb re ef ++ wRe b tot n9 r f) H)) (Qd (fun q => blk a 7 q ∨ blk b 1 q) none (fun H => va_P D cls (wLi cI cJ cZ a n mo na aa bb R.2.1 R.2.2 ++ wRe b R.1.1.1 R.1.1.2 R.1.2.1 R.1.2.2) H)) 0 0 (fun q => blk a 7 q ∨ blk b 1 q) := by
  refine Met.ofW (cc := c_Li_redo) (maxL := 3) (ret := none) (by decide) rfl ?_
  intro p e s m args below meth c s₁ B hml hv
  obtain ⟨rfl, hKn, hP⟩ := hv
  have hx := B.exec
  have hb := B.bytes
  have hr := B.returns
  have hts := atoms_spec (ws := k_Li_redo :: gt) B.pre
  have hg : ∀ w ∈ gt, w.before _ s = true := fun w h => hts w (List.mem_cons_of_mem _ h)
  have hown : s.vm.findClass R_Li = some m.cls := findClass_of_methodNamed B.named
  have hlocks := B.notSynchronized
  have hK := hKn.1
  have hl := lv_entry ([.ref a, .ref b]) (n := 3) (Nat.le_of_ble_eq_true rfl)
  rw [lg_entry_eq]
  generalize (lg_sl ([.ref a, .ref b]) ++ List.replicate (3 - (lg_sl ([.ref a, .ref b])).length) Slot.unset).toArray = ls at hl ⊢
  have hl : lv_has ls 3 [(0, .ref a), (1, .ref b)] := hl
  have hS : va_S (fun q => blk a 7 q ∨ blk b 1 q) s.heap s.heap [] := va_S.rf
  refine lv_aload_n hx hb d_Li_redo_0 rfl (lv_at hl 1 rfl) ?_
  refine ep_callH (ep_toC (va_runU (As := []) (rest := []) ⟨hx, hb, hml, hown, hg⟩ (m_Re_clear l D cI cJ cZ cO b tot n9 r f) (ep_cwA (owner := "EditablePast$Contents") 0 hg tw_420 tw_422 tw_427 tw_428 tw_10 tk_Re_clear rfl rfl (hKn.2.2.1 _ (by decide +kernel)) (by decide +kernel) ⟨(Nat.le_of_ble_eq_true rfl), (Nat.le_of_ble_eq_true rfl)⟩) ⟨ep_blind, va_recv (q0 := 7) (ci := 6) hK hP rfl rfl, ep_pre hKn (wo_r hP)⟩ rfl rfl hl.1 rfl (lv_room (Nat.le_of_ble_eq_true rfl)) d_Li_redo_1 ⟨Nat.zero_le _, Nat.zero_le _⟩)) hS (fun q h => Or.inr h) (fun H locs hsz9 hk1 hP1 hS => ?_)
  refine W.eq (g2 := F0 m 4 ls []) rfl ?_
  have hP := (wo_kc (wo_l hP) hk1 (wLi_off (show a + 7 ≤ b ∨ b + 1 ≤ a from hab.symm))).app hP1
  have hP : va_P D cls (wLi cI cJ cZ a n mo na aa bb re ef ++ wRe b 0 n9 r f) H := hP
  refine lv_iconst (v := 0) hx hb d_Li_redo_4 (by decide) ?_
  refine lv_topi (fun z0 e_z0 => ?_)
  obtain rfl : z0 = nI 0 := by rw [e_z0]; exact nI_0.symm
  refine lv_istore_n (lv' := [(2, .int (nI 0)), (0, .ref a), (1, .ref b)]) hx hb d_Li_redo_5 rfl hl (by decide) rfl (fun ls hl => ?_)
  have key : ∀ (k i : Nat) (st : (Int64 × Nat) × Int64 × Int32) (re1 : Nat → Int64) (ef1 : Nat → Int32) (H : Heap) (locs : List Loc) (ls : Array Slot), i + k = n → rdo (fun _ x _ => reS x) na aa bb k i st re1 ef1 = R → lv_has ls 3 [(2, .int (nI i)), (0, .ref a), (1, .ref b)] → va_P D cls (wLi cI cJ cZ a n mo na aa bb re1 ef1 ++ wRe b st.1.1 st.1.2 st.2.1 st.2.2) H → va_S (fun q => blk a 7 q ∨ blk b 1 q) s.heap H locs → W p l e (headSpec (k_Li_redo :: gt) rm_Li_redo).room s m ([.ref a, .ref b] : List Value).toArray below meth c H locs 0 0 (MQ below (Qd (fun q => blk a 7 q ∨ blk b 1 q) none (fun H => va_P D cls (wLi cI cJ cZ a n mo na aa bb R.2.1 R.2.2 ++ wRe b R.1.1.1 R.1.1.2 R.1.2.1 R.1.2.2) H)) ([.ref a, .ref b] : List Value).toArray s 0 0 (fun q => blk a 7 q ∨ blk b 1 q)) (F0 m 6 ls []) := by
    intro k
    induction k with
    | zero =>
      intro i st re1 ef1 H locs ls hi q0 hl hP hS
      obtain rfl : (st, re1, ef1) = R := q0
      refine lv_iload_n hx hb d_Li_redo_6 rfl (lv_at hl 0 rfl) ?_
      refine lv_aload_n hx hb d_Li_redo_7 rfl (lv_at hl 1 rfl) ?_
      refine va_get (D := D) (ci := 1) (v := .int (nI n)) (C := R_Li) (T := F_Li) (N := 7) hx hb hg in_Li hown hK hP 0 rfl rfl 0 (Nat.le_of_ble_eq_true rfl) (hg _ tw_43) (fun _ h9 => h9) rfl d_Li_redo_8 ?_
      refine lv_icmp_ge (tgt := 62) hx hb d_Li_redo_11 (by decide) (fun hc => ?_) (fun hc => absurd (nI_le (by omega) (by omega)) hc)
      exact W.vret hx hb hr (fun t9 ht hW => ⟨rfl, hS.F ht, by rw [ht]; exact hP⟩) hS.2.2 d_Li_redo_62
    | succ k ih =>
      intro i st re1 ef1 H locs ls hi q0 hl hP hS
      refine lv_iload_n hx hb d_Li_redo_6 rfl (lv_at hl 0 rfl) ?_
      refine lv_aload_n hx hb d_Li_redo_7 rfl (lv_at hl 1 rfl) ?_
      refine va_get (D := D) (ci := 1) (v := .int (nI n)) (C := R_Li) (T := F_Li) (N := 7) hx hb hg in_Li hown hK hP 0 rfl rfl 0 (Nat.le_of_ble_eq_true rfl) (hg _ tw_43) (fun _ h9 => h9) rfl d_Li_redo_8 ?_
      refine lv_icmp_ge (tgt := 62) hx hb d_Li_redo_11 (by decide) (fun hc => absurd hc (nI_ge (by omega) (by omega))) (fun hc => ?_)
      refine lv_aload_n hx hb d_Li_redo_14 rfl (lv_at hl 2 rfl) ?_
      refine lv_aload_n hx hb d_Li_redo_15 rfl (lv_at hl 1 rfl) ?_
      refine va_get (D := D) (ci := 1) (v := .ref (a + 2)) (C := R_Li) (T := F_Li) (N := 7) hx hb hg in_Li hown hK hP 0 rfl rfl 2 (Nat.le_of_ble_eq_true rfl) (hg _ tw_47) (fun _ h9 => h9) rfl d_Li_redo_16 ?_
      refine lv_iload_n hx hb d_Li_redo_19 rfl (lv_at hl 0 rfl) ?_
      refine ep_iald hx hb hK hP 2 0 rfl rfl (i := i) (by omega) (by decide) d_Li_redo_20 ?_
      refine lv_aload_n hx hb d_Li_redo_21 rfl (lv_at hl 1 rfl) ?_
      refine va_get (D := D) (ci := 1) (v := .ref (a + 3)) (C := R_Li) (T := F_Li) (N := 7) hx hb hg in_Li hown hK hP 0 rfl rfl 3 (Nat.le_of_ble_eq_true rfl) (hg _ tw_49) (fun _ h9 => h9) rfl d_Li_redo_22 ?_
      refine lv_iload_n hx hb d_Li_redo_25 rfl (lv_at hl 0 rfl) ?_
      refine ep_iald hx hb hK hP 3 0 rfl rfl (i := i) (by omega) (by decide) d_Li_redo_26 ?_
      refine lv_aload_n hx hb d_Li_redo_27 rfl (lv_at hl 1 rfl) ?_
      refine va_get (D := D) (ci := 1) (v := .ref (a + 4)) (C := R_Li) (T := F_Li) (N := 7) hx hb hg in_Li hown hK hP 0 rfl rfl 4 (Nat.le_of_ble_eq_true rfl) (hg _ tw_51) (fun _ h9 => h9) rfl d_Li_redo_28 ?_
      refine lv_iload_n hx hb d_Li_redo_31 rfl (lv_at hl 0 rfl) ?_
      refine ep_iald hx hb hK hP 4 0 rfl rfl (i := i) (by omega) (by decide) d_Li_redo_32 ?_
      refine ep_callH (ep_toC (va_runU (As := [.int (na i), .int (aa i), .int (bb i)]) (rest := []) ⟨hx, hb, hml, hown, hg⟩ (m_Re_perform l D cI cJ cZ cO b st.1.1 st.1.2 st.2.1 st.2.2 (na i) (aa i) (bb i)) (ep_cwA (owner := "EditablePast$Contents") 3 hg tw_437 tw_439 tw_480 tw_481 tw_10 tk_Re_perform rfl rfl (hKn.2.2.1 _ (by decide +kernel)) (by decide +kernel) ⟨(Nat.le_of_ble_eq_true rfl), (Nat.le_of_ble_eq_true rfl)⟩) ⟨ep_blind, va_recv (q0 := 7) (ci := 6) hK hP rfl rfl, ep_pre hKn (wo_r hP)⟩ rfl rfl hl.1 rfl (lv_room (Nat.le_of_ble_eq_true rfl)) d_Li_redo_33 ⟨Nat.zero_le _, Nat.zero_le _⟩)) hS (fun q h => Or.inr h) (fun H locs hsz9 hk1 hP1 hS => ?_)
      refine W.eq (g2 := F0 m 36 ls []) rfl ?_
      have hP := (wo_kc (wo_l hP) hk1 (wLi_off (show a + 7 ≤ b ∨ b + 1 ≤ a from hab.symm))).app hP1
      have hP : va_P D cls (wLi cI cJ cZ a n mo na aa bb re1 ef1 ++ wRe b ((reS (aa i) st.1).1.1) ((reS (aa i) st.1).1.2) ((reS (aa i) st.1).2.1) ((reS (aa i) st.1).2.2)) H := hP
      have hD : va_D (fun q => blk a 7 q ∨ blk b 1 q) (wLi cI cJ cZ a n mo na aa bb re1 ef1 ++ wRe b ((reS (aa i) st.1).1.1) ((reS (aa i) st.1).1.2) ((reS (aa i) st.1).2.1) ((reS (aa i) st.1).2.2)) := app_D wLi_D (blk_D wRe_in) (show a + 7 ≤ b ∨ b + 1 ≤ a from hab.symm)
      have hzz : vp_nar .boolean (reS (aa i) st.1).2.2 = (reS (aa i) st.1).2.2 := by rcases ((Or.inr rfl : (reS (aa i) st.1).2.2 = 0 ∨ (reS (aa i) st.1).2.2 = 1)) with e | e <;> rw [e] <;> rfl
      refine lv_aload_n hx hb d_Li_redo_36 rfl (lv_at hl 1 rfl) ?_
      refine va_get (D := D) (ci := 1) (v := .ref (a + 5)) (C := R_Li) (T := F_Li) (N := 7) hx hb hg in_Li hown hK hP 0 rfl rfl 5 (Nat.le_of_ble_eq_true rfl) (hg _ tw_53) (fun _ h9 => h9) rfl d_Li_redo_37 ?_
      refine lv_iload_n hx hb d_Li_redo_40 rfl (lv_at hl 0 rfl) ?_
      refine lv_aload_n hx hb d_Li_redo_41 rfl (lv_at hl 2 rfl) ?_
      refine va_get (D := D) (ci := 6) (v := .long ((reS (aa i) st.1).2.1)) (C := R_Re) (T := F_Re) (N := 4) hx hb hg in_Re hown hK hP 7 rfl rfl 2 (Nat.le_of_ble_eq_true rfl) (hg _ tw_119) (fun _ h9 => h9) rfl d_Li_redo_42 ?_
      refine ep_last hx hb hK hP hD hS 5 1 rfl rfl (i := i) (x := ((reS (aa i) st.1).2.1)) (by omega) (by decide) d_Li_redo_45 (fun H locs hP hD hS => ?_)
      have hP : va_P D cls (wLi cI cJ cZ a n mo na aa bb (vp_updL re1 i ((reS (aa i) st.1).2.1)) ef1 ++ wRe b ((reS (aa i) st.1).1.1) ((reS (aa i) st.1).1.2) ((reS (aa i) st.1).2.1) ((reS (aa i) st.1).2.2)) H := hP
      have hD : va_D (fun q => blk a 7 q ∨ blk b 1 q) (wLi cI cJ cZ a n mo na aa bb (vp_updL re1 i ((reS (aa i) st.1).2.1)) ef1 ++ wRe b ((reS (aa i) st.1).1.1) ((reS (aa i) st.1).1.2) ((reS (aa i) st.1).2.1) ((reS (aa i) st.1).2.2)) := hD
      refine lv_aload_n hx hb d_Li_redo_46 rfl (lv_at hl 1 rfl) ?_
      refine va_get (D := D) (ci := 1) (v := .ref (a + 6)) (C := R_Li) (T := F_Li) (N := 7) hx hb hg in_Li hown hK hP 0 rfl rfl 6 (Nat.le_of_ble_eq_true rfl) (hg _ tw_55) (fun _ h9 => h9) rfl d_Li_redo_47 ?_
      refine lv_iload_n hx hb d_Li_redo_50 rfl (lv_at hl 0 rfl) ?_
      refine lv_aload_n hx hb d_Li_redo_51 rfl (lv_at hl 2 rfl) ?_
      refine va_get (D := D) (ci := 6) (v := .int ((reS (aa i) st.1).2.2)) (C := R_Re) (T := F_Re) (N := 4) hx hb hg in_Re hown hK hP 7 rfl rfl 3 (Nat.le_of_ble_eq_true rfl) (hg _ tw_121) (fun _ h9 => h9) rfl d_Li_redo_52 ?_
      refine ep_zast hx hb hK hP hD hS 6 2 rfl rfl (i := i) (x := ((reS (aa i) st.1).2.2)) (by assumption) (by omega) (by decide) d_Li_redo_55 (fun H locs hP hD hS => ?_)
      have hP : va_P D cls (wLi cI cJ cZ a n mo na aa bb (vp_updL re1 i ((reS (aa i) st.1).2.1)) (upd ef1 i ((reS (aa i) st.1).2.2)) ++ wRe b ((reS (aa i) st.1).1.1) ((reS (aa i) st.1).1.2) ((reS (aa i) st.1).2.1) ((reS (aa i) st.1).2.2)) H := hP
      have hD : va_D (fun q => blk a 7 q ∨ blk b 1 q) (wLi cI cJ cZ a n mo na aa bb (vp_updL re1 i ((reS (aa i) st.1).2.1)) (upd ef1 i ((reS (aa i) st.1).2.2)) ++ wRe b ((reS (aa i) st.1).1.1) ((reS (aa i) st.1).1.2) ((reS (aa i) st.1).2.1) ((reS (aa i) st.1).2.2)) := hD
      refine lv_iinc (k := 0) (lv' := [(2, .int (nI (i + 1))), (0, .ref a), (1, .ref b)]) hx hb d_Li_redo_56 hl rfl (inc1 _) (by decide) rfl (fun ls hl => ?_)
      refine lv_goto (tgt := 6) hx hb d_Li_redo_59 (by decide) ?_
      exact ih (i + 1) (reS (aa i) st.1) _ _ H locs ls (by omega) q0 (lv_sub hl [0, 1, 2] rfl) hP hS
  exact key n 0 ((0, n9), r, f) re ef H locs ls (by omega) hR hl hP hS

set_option maxHeartbeats 4000000 in
set_option maxRecDepth 100000 in
theorem m_Li_redo_Se (l : Launch) (D : va_G) (cI cJ cZ cO : ClassId) (a n : Nat) (mo na aa bb : Nat → Int32) (re : Nat → Int64) (ef : Nat → Int32) (b : Nat) (cn : Int32) (ld : Nat → Int32) (r : Int64) (f : Int32) (hab : b + 2 ≤ a ∨ a + 7 ≤ b) (hn : n ≤ 32) (hop : ∀ i, i < n → ∃ x y : Nat, x < 16 ∧ y < 16 ∧ aa i = nI x ∧ bb i = nI y) (R : ((Int32 × (Nat → Int32)) × Int64 × Int32) × (Nat → Int64) × (Nat → Int32)) (hR : rdo (fun _ x y => seS x y) na aa bb n 0 ((16, sal 16 0 ld), r, f) re ef = R) : Met l y_Li_redo (k_Li_redo :: gt) rm_Li_redo (Pc0 D cI cJ cZ cO [.ref a, .ref b] (fun H => va_P D cls (wLi cI cJ cZ a n mo na aa bb re ef ++ wSe cI b cn ld r f) H)) (Qd (fun q => blk a 7 q ∨ blk b 2 q) none (fun H => va_P D cls (wLi cI cJ cZ a n mo na aa bb R.2.1 R.2.2 ++ wSe cI b R.1.1.1 R.1.1.2 R.1.2.1 R.1.2.2) H)) 0 0 (fun q => blk a 7 q ∨ blk b 2 q) := by
  refine Met.ofW (cc := c_Li_redo) (maxL := 3) (ret := none) (by decide) rfl ?_
  intro p e s m args below meth c s₁ B hml hv
  obtain ⟨rfl, hKn, hP⟩ := hv
  have hx := B.exec
  have hb := B.bytes
  have hr := B.returns
  have hts := atoms_spec (ws := k_Li_redo :: gt) B.pre
  have hg : ∀ w ∈ gt, w.before _ s = true := fun w h => hts w (List.mem_cons_of_mem _ h)
  have hown : s.vm.findClass R_Li = some m.cls := findClass_of_methodNamed B.named
  have hlocks := B.notSynchronized
  have hK := hKn.1
  have hl := lv_entry ([.ref a, .ref b]) (n := 3) (Nat.le_of_ble_eq_true rfl)
  rw [lg_entry_eq]
  generalize (lg_sl ([.ref a, .ref b]) ++ List.replicate (3 - (lg_sl ([.ref a, .ref b])).length) Slot.unset).toArray = ls at hl ⊢
  have hl : lv_has ls 3 [(0, .ref a), (1, .ref b)] := hl
  have hS : va_S (fun q => blk a 7 q ∨ blk b 2 q) s.heap s.heap [] := va_S.rf
  refine lv_aload_n hx hb d_Li_redo_0 rfl (lv_at hl 1 rfl) ?_
  refine ep_callH (ep_toC (va_runU (As := []) (rest := []) ⟨hx, hb, hml, hown, hg⟩ (m_Se_clear l D cI cJ cZ cO b cn ld r f) (ep_cwA (owner := "EditablePast$Contents") 0 hg tw_420 tw_422 tw_430 tw_431 tw_11 tk_Se_clear rfl rfl (hKn.2.2.1 _ (by decide +kernel)) (by decide +kernel) ⟨(Nat.le_of_ble_eq_true rfl), (Nat.le_of_ble_eq_true rfl)⟩) ⟨ep_blind, va_recv (q0 := 7) (ci := 7) hK hP rfl rfl, ep_pre hKn (wo_r hP)⟩ rfl rfl hl.1 rfl (lv_room (Nat.le_of_ble_eq_true rfl)) d_Li_redo_1 ⟨Nat.zero_le _, Nat.zero_le _⟩)) hS (fun q h => Or.inr h) (fun H locs hsz9 hk1 hP1 hS => ?_)
  refine W.eq (g2 := F0 m 4 ls []) rfl ?_
  have hP := (wo_kc (wo_l hP) hk1 (wLi_off (show a + 7 ≤ b ∨ b + 2 ≤ a from hab.symm))).app hP1
  have hP : va_P D cls (wLi cI cJ cZ a n mo na aa bb re ef ++ wSe cI b 16 (sal 16 0 ld) r f) H := hP
  refine lv_iconst (v := 0) hx hb d_Li_redo_4 (by decide) ?_
  refine lv_topi (fun z0 e_z0 => ?_)
  obtain rfl : z0 = nI 0 := by rw [e_z0]; exact nI_0.symm
  refine lv_istore_n (lv' := [(2, .int (nI 0)), (0, .ref a), (1, .ref b)]) hx hb d_Li_redo_5 rfl hl (by decide) rfl (fun ls hl => ?_)
  have key : ∀ (k i : Nat) (st : (Int32 × (Nat → Int32)) × Int64 × Int32) (re1 : Nat → Int64) (ef1 : Nat → Int32) (H : Heap) (locs : List Loc) (ls : Array Slot), i + k = n → rdo (fun _ x y => seS x y) na aa bb k i st re1 ef1 = R → lv_has ls 3 [(2, .int (nI i)), (0, .ref a), (1, .ref b)] → va_P D cls (wLi cI cJ cZ a n mo na aa bb re1 ef1 ++ wSe cI b st.1.1 st.1.2 st.2.1 st.2.2) H → va_S (fun q => blk a 7 q ∨ blk b 2 q) s.heap H locs → W p l e (headSpec (k_Li_redo :: gt) rm_Li_redo).room s m ([.ref a, .ref b] : List Value).toArray below meth c H locs 0 0 (MQ below (Qd (fun q => blk a 7 q ∨ blk b 2 q) none (fun H => va_P D cls (wLi cI cJ cZ a n mo na aa bb R.2.1 R.2.2 ++ wSe cI b R.1.1.1 R.1.1.2 R.1.2.1 R.1.2.2) H)) ([.ref a, .ref b] : List Value).toArray s 0 0 (fun q => blk a 7 q ∨ blk b 2 q)) (F0 m 6 ls []) := by
    intro k
    induction k with
    | zero =>
      intro i st re1 ef1 H locs ls hi q0 hl hP hS
      obtain rfl : (st, re1, ef1) = R := q0
      refine lv_iload_n hx hb d_Li_redo_6 rfl (lv_at hl 0 rfl) ?_
      refine lv_aload_n hx hb d_Li_redo_7 rfl (lv_at hl 1 rfl) ?_
      refine va_get (D := D) (ci := 1) (v := .int (nI n)) (C := R_Li) (T := F_Li) (N := 7) hx hb hg in_Li hown hK hP 0 rfl rfl 0 (Nat.le_of_ble_eq_true rfl) (hg _ tw_43) (fun _ h9 => h9) rfl d_Li_redo_8 ?_
      refine lv_icmp_ge (tgt := 62) hx hb d_Li_redo_11 (by decide) (fun hc => ?_) (fun hc => absurd (nI_le (by omega) (by omega)) hc)
      exact W.vret hx hb hr (fun t9 ht hW => ⟨rfl, hS.F ht, by rw [ht]; exact hP⟩) hS.2.2 d_Li_redo_62
    | succ k ih =>
      intro i st re1 ef1 H locs ls hi q0 hl hP hS
      refine lv_iload_n hx hb d_Li_redo_6 rfl (lv_at hl 0 rfl) ?_
      refine lv_aload_n hx hb d_Li_redo_7 rfl (lv_at hl 1 rfl) ?_
      refine va_get (D := D) (ci := 1) (v := .int (nI n)) (C := R_Li) (T := F_Li) (N := 7) hx hb hg in_Li hown hK hP 0 rfl rfl 0 (Nat.le_of_ble_eq_true rfl) (hg _ tw_43) (fun _ h9 => h9) rfl d_Li_redo_8 ?_
      refine lv_icmp_ge (tgt := 62) hx hb d_Li_redo_11 (by decide) (fun hc => absurd hc (nI_ge (by omega) (by omega))) (fun hc => ?_)
      refine lv_aload_n hx hb d_Li_redo_14 rfl (lv_at hl 2 rfl) ?_
      refine lv_aload_n hx hb d_Li_redo_15 rfl (lv_at hl 1 rfl) ?_
      refine va_get (D := D) (ci := 1) (v := .ref (a + 2)) (C := R_Li) (T := F_Li) (N := 7) hx hb hg in_Li hown hK hP 0 rfl rfl 2 (Nat.le_of_ble_eq_true rfl) (hg _ tw_47) (fun _ h9 => h9) rfl d_Li_redo_16 ?_
      refine lv_iload_n hx hb d_Li_redo_19 rfl (lv_at hl 0 rfl) ?_
      refine ep_iald hx hb hK hP 2 0 rfl rfl (i := i) (by omega) (by decide) d_Li_redo_20 ?_
      refine lv_aload_n hx hb d_Li_redo_21 rfl (lv_at hl 1 rfl) ?_
      refine va_get (D := D) (ci := 1) (v := .ref (a + 3)) (C := R_Li) (T := F_Li) (N := 7) hx hb hg in_Li hown hK hP 0 rfl rfl 3 (Nat.le_of_ble_eq_true rfl) (hg _ tw_49) (fun _ h9 => h9) rfl d_Li_redo_22 ?_
      refine lv_iload_n hx hb d_Li_redo_25 rfl (lv_at hl 0 rfl) ?_
      refine ep_iald hx hb hK hP 3 0 rfl rfl (i := i) (by omega) (by decide) d_Li_redo_26 ?_
      refine lv_aload_n hx hb d_Li_redo_27 rfl (lv_at hl 1 rfl) ?_
      refine va_get (D := D) (ci := 1) (v := .ref (a + 4)) (C := R_Li) (T := F_Li) (N := 7) hx hb hg in_Li hown hK hP 0 rfl rfl 4 (Nat.le_of_ble_eq_true rfl) (hg _ tw_51) (fun _ h9 => h9) rfl d_Li_redo_28 ?_
      refine lv_iload_n hx hb d_Li_redo_31 rfl (lv_at hl 0 rfl) ?_
      refine ep_iald hx hb hK hP 4 0 rfl rfl (i := i) (by omega) (by decide) d_Li_redo_32 ?_
      refine ep_callH (ep_toC (va_runU (As := [.int (na i), .int (aa i), .int (bb i)]) (rest := []) ⟨hx, hb, hml, hown, hg⟩ (m_Se_perform l D cI cJ cZ cO b st.1.1 st.1.2 st.2.1 st.2.2 (na i) (aa i) (bb i) (hop i (by omega))) (ep_cwA (owner := "EditablePast$Contents") 3 hg tw_437 tw_439 tw_489 tw_490 tw_11 tk_Se_perform rfl rfl (hKn.2.2.1 _ (by decide +kernel)) (by decide +kernel) ⟨(Nat.le_of_ble_eq_true rfl), (Nat.le_of_ble_eq_true rfl)⟩) ⟨ep_blind, va_recv (q0 := 7) (ci := 7) hK hP rfl rfl, ep_pre hKn (wo_r hP)⟩ rfl rfl hl.1 rfl (lv_room (Nat.le_of_ble_eq_true rfl)) d_Li_redo_33 ⟨Nat.zero_le _, Nat.zero_le _⟩)) hS (fun q h => Or.inr h) (fun H locs hsz9 hk1 hP1 hS => ?_)
      refine W.eq (g2 := F0 m 36 ls []) rfl ?_
      have hP := (wo_kc (wo_l hP) hk1 (wLi_off (show a + 7 ≤ b ∨ b + 2 ≤ a from hab.symm))).app hP1
      have hP : va_P D cls (wLi cI cJ cZ a n mo na aa bb re1 ef1 ++ wSe cI b ((seS (aa i) (bb i) st.1).1.1) ((seS (aa i) (bb i) st.1).1.2) ((seS (aa i) (bb i) st.1).2.1) ((seS (aa i) (bb i) st.1).2.2)) H := hP
      have hD : va_D (fun q => blk a 7 q ∨ blk b 2 q) (wLi cI cJ cZ a n mo na aa bb re1 ef1 ++ wSe cI b ((seS (aa i) (bb i) st.1).1.1) ((seS (aa i) (bb i) st.1).1.2) ((seS (aa i) (bb i) st.1).2.1) ((seS (aa i) (bb i) st.1).2.2)) := app_D wLi_D (blk_D wSe_in) (show a + 7 ≤ b ∨ b + 2 ≤ a from hab.symm)
      have hzz : vp_nar .boolean (seS (aa i) (bb i) st.1).2.2 = (seS (aa i) (bb i) st.1).2.2 := by rcases (seS_bz (aa i) (bb i) st.1) with e | e <;> rw [e] <;> rfl
      refine lv_aload_n hx hb d_Li_redo_36 rfl (lv_at hl 1 rfl) ?_
      refine va_get (D := D) (ci := 1) (v := .ref (a + 5)) (C := R_Li) (T := F_Li) (N := 7) hx hb hg in_Li hown hK hP 0 rfl rfl 5 (Nat.le_of_ble_eq_true rfl) (hg _ tw_53) (fun _ h9 => h9) rfl d_Li_redo_37 ?_
      refine lv_iload_n hx hb d_Li_redo_40 rfl (lv_at hl 0 rfl) ?_
      refine lv_aload_n hx hb d_Li_redo_41 rfl (lv_at hl 2 rfl) ?_
      refine va_get (D := D) (ci := 7) (v := .long ((seS (aa i) (bb i) st.1).2.1)) (C := R_Se) (T := F_Se) (N := 4) hx hb hg in_Se hown hK hP 7 rfl rfl 2 (Nat.le_of_ble_eq_true rfl) (hg _ tw_119) (fun _ h9 => h9) rfl d_Li_redo_42 ?_
      refine ep_last hx hb hK hP hD hS 5 1 rfl rfl (i := i) (x := ((seS (aa i) (bb i) st.1).2.1)) (by omega) (by decide) d_Li_redo_45 (fun H locs hP hD hS => ?_)
      have hP : va_P D cls (wLi cI cJ cZ a n mo na aa bb (vp_updL re1 i ((seS (aa i) (bb i) st.1).2.1)) ef1 ++ wSe cI b ((seS (aa i) (bb i) st.1).1.1) ((seS (aa i) (bb i) st.1).1.2) ((seS (aa i) (bb i) st.1).2.1) ((seS (aa i) (bb i) st.1).2.2)) H := hP
      have hD : va_D (fun q => blk a 7 q ∨ blk b 2 q) (wLi cI cJ cZ a n mo na aa bb (vp_updL re1 i ((seS (aa i) (bb i) st.1).2.1)) ef1 ++ wSe cI b ((seS (aa i) (bb i) st.1).1.1) ((seS (aa i) (bb i) st.1).1.2) ((seS (aa i) (bb i) st.1).2.1) ((seS (aa i) (bb i) st.1).2.2)) := hD
      refine lv_aload_n hx hb d_Li_redo_46 rfl (lv_at hl 1 rfl) ?_
      refine va_get (D := D) (ci := 1) (v := .ref (a + 6)) (C := R_Li) (T := F_Li) (N := 7) hx hb hg in_Li hown hK hP 0 rfl rfl 6 (Nat.le_of_ble_eq_true rfl) (hg _ tw_55) (fun _ h9 => h9) rfl d_Li_redo_47 ?_
      refine lv_iload_n hx hb d_Li_redo_50 rfl (lv_at hl 0 rfl) ?_
      refine lv_aload_n hx hb d_Li_redo_51 rfl (lv_at hl 2 rfl) ?_
      refine va_get (D := D) (ci := 7) (v := .int ((seS (aa i) (bb i) st.1).2.2)) (C := R_Se) (T := F_Se) (N := 4) hx hb hg in_Se hown hK hP 7 rfl rfl 3 (Nat.le_of_ble_eq_true rfl) (hg _ tw_121) (fun _ h9 => h9) rfl d_Li_redo_52 ?_
      refine ep_zast hx hb hK hP hD hS 6 2 rfl rfl (i := i) (x := ((seS (aa i) (bb i) st.1).2.2)) (by assumption) (by omega) (by decide) d_Li_redo_55 (fun H locs hP hD hS => ?_)
      have hP : va_P D cls (wLi cI cJ cZ a n mo na aa bb (vp_updL re1 i ((seS (aa i) (bb i) st.1).2.1)) (upd ef1 i ((seS (aa i) (bb i) st.1).2.2)) ++ wSe cI b ((seS (aa i) (bb i) st.1).1.1) ((seS (aa i) (bb i) st.1).1.2) ((seS (aa i) (bb i) st.1).2.1) ((seS (aa i) (bb i) st.1).2.2)) H := hP
      have hD : va_D (fun q => blk a 7 q ∨ blk b 2 q) (wLi cI cJ cZ a n mo na aa bb (vp_updL re1 i ((seS (aa i) (bb i) st.1).2.1)) (upd ef1 i ((seS (aa i) (bb i) st.1).2.2)) ++ wSe cI b ((seS (aa i) (bb i) st.1).1.1) ((seS (aa i) (bb i) st.1).1.2) ((seS (aa i) (bb i) st.1).2.1) ((seS (aa i) (bb i) st.1).2.2)) := hD
      refine lv_iinc (k := 0) (lv' := [(2, .int (nI (i + 1))), (0, .ref a), (1, .ref b)]) hx hb d_Li_redo_56 hl rfl (inc1 _) (by decide) rfl (fun ls hl => ?_)
      refine lv_goto (tgt := 6) hx hb d_Li_redo_59 (by decide) ?_
      exact ih (i + 1) (seS (aa i) (bb i) st.1) _ _ H locs ls (by omega) q0 (lv_sub hl [0, 1, 2] rfl) hP hS
  exact key n 0 ((16, sal 16 0 ld), r, f) re ef H locs ls (by omega) hR hl hP hS
