/-! by wip/whole/gen/redo.py -/
set_option maxHeartbeats 4000000 in
set_option maxRecDepth 100000 in
theorem m_Li_runUpTo_Qu (l : Launch) (D : va_G) (cI cJ cZ cO : ClassId) (a n : Nat) (mo na aa bb : Nat → Int32) (re : Nat → Int64) (ef : Nat → Int32) (b n9 : Nat) (v : Nat → Int32) (r : Int64) (f : Int32) (t : Int32) (hab : b + 2 ≤ a ∨ a + 7 ≤ b) (hn : n ≤ 32) (R : (Nat × (Nat → Int32)) × Int64 × Int32) (hR : rut (fun nm x _ => bgS 2 nm x) mo na aa bb t n 0 ((0, v), r, f) = R) : Met l y_Li_runUpTo (k_Li_runUpTo :: gt) rm_Li_runUpTo (Pc0 D cI cJ cZ cO [.ref a, .int t, .ref b] (fun H => va_P D cls (wLi cI cJ cZ a n mo na aa bb re ef ++ wBa cI 2 b n9 v r f) H)) (Qd (blk b 2) none (fun H => va_P D cls (wLi cI cJ cZ a n mo na aa bb re ef ++ wBa cI 2 b R.1.1 R.1.2 R.2.1 R.2.2) H)) 0 0 (blk b 2) := by
  refine Met.ofW (cc := c_Li_runUpTo) (maxL := 4) (ret := none) (by decide) rfl ?_
  intro p e s m args below meth c s₁ B hml hv
  obtain ⟨rfl, hKn, hP⟩ := hv
  have hx := B.exec
  have hb := B.bytes
  have hr := B.returns
  have hts := atoms_spec (ws := k_Li_runUpTo :: gt) B.pre
  have hg : ∀ w ∈ gt, w.before _ s = true := fun w h => hts w (List.mem_cons_of_mem _ h)
  have hown : s.vm.findClass R_Li = some m.cls := findClass_of_methodNamed B.named
  have hlocks := B.notSynchronized
  have hK := hKn.1
  have hl := lv_entry ([.ref a, .int t, .ref b]) (n := 4) (Nat.le_of_ble_eq_true rfl)
  rw [lg_entry_eq]
  generalize (lg_sl ([.ref a, .int t, .ref b]) ++ List.replicate (4 - (lg_sl ([.ref a, .int t, .ref b])).length) Slot.unset).toArray = ls at hl ⊢
  have hl : lv_has ls 4 [(0, .ref a), (1, .int t), (2, .ref b)] := hl
  have hS : va_S (blk b 2) s.heap s.heap [] := va_S.rf
  refine lv_aload_n hx hb d_Li_runUpTo_0 rfl (lv_at hl 2 rfl) ?_
  refine ep_callH (ep_toC (va_runU (As := []) (rest := []) ⟨hx, hb, hml, hown, hg⟩ (m_Ba_clear_Qu l D cI cJ cZ cO b n9 v r f) (ep_cwA (owner := "EditablePast$Contents") 0 hg tw_420 tw_422 tw_426 tw_424 tw_5 tk_Ba_clear rfl rfl (hKn.2.2.1 _ (by decide +kernel)) (by decide +kernel) ⟨(Nat.le_of_ble_eq_true rfl), (Nat.le_of_ble_eq_true rfl)⟩) ⟨ep_blind, va_recv (q0 := 7) (ci := 2) hK hP rfl rfl, ep_pre hKn (wo_r hP)⟩ rfl rfl hl.1 rfl (lv_room (Nat.le_of_ble_eq_true rfl)) d_Li_runUpTo_1 ⟨Nat.zero_le _, Nat.zero_le _⟩)) hS (fun q h => h) (fun H locs hsz9 hk1 hP1 hS => ?_)
  refine W.eq (g2 := F0 m 4 ls []) rfl ?_
  have hP := (wo_kc (wo_l hP) hk1 (wLi_off (show a + 7 ≤ b ∨ b + 2 ≤ a from hab.symm))).app hP1
  have hP : va_P D cls (wLi cI cJ cZ a n mo na aa bb re ef ++ wBa cI 2 b 0 v r f) H := hP
  refine lv_iconst (v := 0) hx hb d_Li_runUpTo_4 (by decide) ?_
  refine lv_topi (fun z0 e_z0 => ?_)
  obtain rfl : z0 = nI 0 := by rw [e_z0]; exact nI_0.symm
  refine lv_istore_n (lv' := [(3, .int (nI 0)), (0, .ref a), (1, .int t), (2, .ref b)]) hx hb d_Li_runUpTo_5 rfl hl (by decide) rfl (fun ls hl => ?_)
  have key : ∀ (k i : Nat) (st : (Nat × (Nat → Int32)) × Int64 × Int32) (H : Heap) (locs : List Loc) (ls : Array Slot), i + k = n → st.1.1 ≤ i → rut (fun nm x _ => bgS 2 nm x) mo na aa bb t k i st = R → lv_has ls 4 [(3, .int (nI i)), (0, .ref a), (1, .int t), (2, .ref b)] → va_P D cls (wLi cI cJ cZ a n mo na aa bb re ef ++ wBa cI 2 b st.1.1 st.1.2 st.2.1 st.2.2) H → va_S (blk b 2) s.heap H locs → W p l e (headSpec (k_Li_runUpTo :: gt) rm_Li_runUpTo).room s m ([.ref a, .int t, .ref b] : List Value).toArray below meth c H locs 0 0 (MQ below (Qd (blk b 2) none (fun H => va_P D cls (wLi cI cJ cZ a n mo na aa bb re ef ++ wBa cI 2 b R.1.1 R.1.2 R.2.1 R.2.2) H)) ([.ref a, .int t, .ref b] : List Value).toArray s 0 0 (blk b 2)) (F0 m 6 ls []) := by
    intro k
    induction k with
    | zero =>
      intro i st H locs ls hi hv1 q0 hl hP hS
      obtain rfl : st = R := q0
      refine lv_iload_n hx hb d_Li_runUpTo_6 rfl (lv_at hl 0 rfl) ?_
      refine lv_aload_n hx hb d_Li_runUpTo_7 rfl (lv_at hl 1 rfl) ?_
      refine va_get (D := D) (ci := 1) (v := .int (nI n)) (C := R_Li) (T := F_Li) (N := 7) hx hb hg in_Li hown hK hP 0 rfl rfl 0 (Nat.le_of_ble_eq_true rfl) (hg _ tw_43) (fun _ h9 => h9) rfl d_Li_runUpTo_8 ?_
      refine lv_icmp_ge (tgt := 52) hx hb d_Li_runUpTo_11 (by decide) (fun hc => ?_) (fun hc => absurd (nI_le (by omega) (by omega)) hc)
      exact W.vret hx hb hr (fun t9 ht hW => ⟨rfl, hS.F ht, by rw [ht]; exact hP⟩) hS.2.2 d_Li_runUpTo_52
    | succ k ih =>
      intro i st H locs ls hi hv1 q0 hl hP hS
      unfold rut at q0
      refine lv_iload_n hx hb d_Li_runUpTo_6 rfl (lv_at hl 0 rfl) ?_
      refine lv_aload_n hx hb d_Li_runUpTo_7 rfl (lv_at hl 1 rfl) ?_
      refine va_get (D := D) (ci := 1) (v := .int (nI n)) (C := R_Li) (T := F_Li) (N := 7) hx hb hg in_Li hown hK hP 0 rfl rfl 0 (Nat.le_of_ble_eq_true rfl) (hg _ tw_43) (fun _ h9 => h9) rfl d_Li_runUpTo_8 ?_
      refine lv_icmp_ge (tgt := 52) hx hb d_Li_runUpTo_11 (by decide) (fun hc => absurd hc (nI_ge (by omega) (by omega))) (fun hc => ?_)
      refine lv_aload_n hx hb d_Li_runUpTo_14 rfl (lv_at hl 1 rfl) ?_
      refine va_get (D := D) (ci := 1) (v := .ref (a + 1)) (C := R_Li) (T := F_Li) (N := 7) hx hb hg in_Li hown hK hP 0 rfl rfl 1 (Nat.le_of_ble_eq_true rfl) (hg _ tw_45) (fun _ h9 => h9) rfl d_Li_runUpTo_15 ?_
      refine lv_iload_n hx hb d_Li_runUpTo_18 rfl (lv_at hl 0 rfl) ?_
      refine ep_iald hx hb hK hP 1 0 rfl rfl (i := i) (by omega) (by decide) d_Li_runUpTo_19 ?_
      refine lv_iload_n hx hb d_Li_runUpTo_20 rfl (lv_at hl 2 rfl) ?_
      refine lv_icmp_gt (tgt := 52) hx hb d_Li_runUpTo_21 (by decide) (fun hc => ?_) (fun hc => ?_)
      · rw [if_neg (k2_nle hc)] at q0
        obtain rfl : st = R := q0
        exact W.vret hx hb hr (fun t9 ht hW => ⟨rfl, hS.F ht, by rw [ht]; exact hP⟩) hS.2.2 d_Li_runUpTo_52
      · rw [if_pos (Int32.not_lt.mp hc)] at q0
        refine lv_aload_n hx hb d_Li_runUpTo_24 rfl (lv_at hl 3 rfl) ?_
        refine lv_aload_n hx hb d_Li_runUpTo_25 rfl (lv_at hl 1 rfl) ?_
        refine va_get (D := D) (ci := 1) (v := .ref (a + 2)) (C := R_Li) (T := F_Li) (N := 7) hx hb hg in_Li hown hK hP 0 rfl rfl 2 (Nat.le_of_ble_eq_true rfl) (hg _ tw_47) (fun _ h9 => h9) rfl d_Li_runUpTo_26 ?_
        refine lv_iload_n hx hb d_Li_runUpTo_29 rfl (lv_at hl 0 rfl) ?_
        refine ep_iald hx hb hK hP 2 0 rfl rfl (i := i) (by omega) (by decide) d_Li_runUpTo_30 ?_
        refine lv_aload_n hx hb d_Li_runUpTo_31 rfl (lv_at hl 1 rfl) ?_
        refine va_get (D := D) (ci := 1) (v := .ref (a + 3)) (C := R_Li) (T := F_Li) (N := 7) hx hb hg in_Li hown hK hP 0 rfl rfl 3 (Nat.le_of_ble_eq_true rfl) (hg _ tw_49) (fun _ h9 => h9) rfl d_Li_runUpTo_32 ?_
        refine lv_iload_n hx hb d_Li_runUpTo_35 rfl (lv_at hl 0 rfl) ?_
        refine ep_iald hx hb hK hP 3 0 rfl rfl (i := i) (by omega) (by decide) d_Li_runUpTo_36 ?_
        refine lv_aload_n hx hb d_Li_runUpTo_37 rfl (lv_at hl 1 rfl) ?_
        refine va_get (D := D) (ci := 1) (v := .ref (a + 4)) (C := R_Li) (T := F_Li) (N := 7) hx hb hg in_Li hown hK hP 0 rfl rfl 4 (Nat.le_of_ble_eq_true rfl) (hg _ tw_51) (fun _ h9 => h9) rfl d_Li_runUpTo_38 ?_
        refine lv_iload_n hx hb d_Li_runUpTo_41 rfl (lv_at hl 0 rfl) ?_
        refine ep_iald hx hb hK hP 4 0 rfl rfl (i := i) (by omega) (by decide) d_Li_runUpTo_42 ?_
        refine ep_callH (ep_toC (va_runU (As := [.int (na i), .int (aa i), .int (bb i)]) (rest := []) ⟨hx, hb, hml, hown, hg⟩ (m_Ba_perform_Qu l D cI cJ cZ cO b st.1.1 st.1.2 st.2.1 st.2.2 (na i) (aa i) (bb i) (by omega)) (ep_cwA (owner := "EditablePast$Contents") 3 hg tw_437 tw_439 tw_479 tw_441 tw_5 tk_Ba_perform rfl rfl (hKn.2.2.1 _ (by decide +kernel)) (by decide +kernel) ⟨(Nat.le_of_ble_eq_true rfl), (Nat.le_of_ble_eq_true rfl)⟩) ⟨ep_blind, va_recv (q0 := 7) (ci := 2) hK hP rfl rfl, ep_pre hKn (wo_r hP)⟩ rfl rfl hl.1 rfl (lv_room (Nat.le_of_ble_eq_true rfl)) d_Li_runUpTo_43 ⟨Nat.zero_le _, Nat.zero_le _⟩)) hS (fun q h => h) (fun H locs hsz9 hk1 hP1 hS => ?_)
        refine W.eq (g2 := F0 m 46 ls []) rfl ?_
        have hP := (wo_kc (wo_l hP) hk1 (wLi_off (show a + 7 ≤ b ∨ b + 2 ≤ a from hab.symm))).app hP1
        have hP : va_P D cls (wLi cI cJ cZ a n mo na aa bb re ef ++ wBa cI 2 b ((bgS 2 (na i) (aa i) st.1).1.1) ((bgS 2 (na i) (aa i) st.1).1.2) ((bgS 2 (na i) (aa i) st.1).2.1) ((bgS 2 (na i) (aa i) st.1).2.2)) H := hP
        refine lv_iinc (k := 0) (lv' := [(3, .int (nI (i + 1))), (0, .ref a), (1, .int t), (2, .ref b)]) hx hb d_Li_runUpTo_46 hl rfl (inc1 _) (by decide) rfl (fun ls hl => ?_)
        refine lv_goto (tgt := 6) hx hb d_Li_runUpTo_49 (by decide) ?_
        exact ih (i + 1) (bgS 2 (na i) (aa i) st.1) H locs ls (by omega) (Nat.le_trans (bgS_le 2 _ _ _) (by omega)) q0 (lv_sub hl [0, 1, 2, 3] rfl) hP hS
  exact key n 0 ((0, v), r, f) H locs ls (by omega) (Nat.le_refl _) hR hl hP hS

set_option maxHeartbeats 4000000 in
set_option maxRecDepth 100000 in
theorem m_Li_runUpTo_St (l : Launch) (D : va_G) (cI cJ cZ cO : ClassId) (a n : Nat) (mo na aa bb : Nat → Int32) (re : Nat → Int64) (ef : Nat → Int32) (b n9 : Nat) (v : Nat → Int32) (r : Int64) (f : Int32) (t : Int32) (hab : b + 2 ≤ a ∨ a + 7 ≤ b) (hn : n ≤ 32) (R : (Nat × (Nat → Int32)) × Int64 × Int32) (hR : rut (fun nm x _ => bgS 3 nm x) mo na aa bb t n 0 ((0, v), r, f) = R) : Met l y_Li_runUpTo (k_Li_runUpTo :: gt) rm_Li_runUpTo (Pc0 D cI cJ cZ cO [.ref a, .int t, .ref b] (fun H => va_P D cls (wLi cI cJ cZ a n mo na aa bb re ef ++ wBa cI 3 b n9 v r f) H)) (Qd (blk b 2) none (fun H => va_P D cls (wLi cI cJ cZ a n mo na aa bb re ef ++ wBa cI 3 b R.1.1 R.1.2 R.2.1 R.2.2) H)) 0 0 (blk b 2) := by
  refine Met.ofW (cc := c_Li_runUpTo) (maxL := 4) (ret := none) (by decide) rfl ?_
  intro p e s m args below meth c s₁ B hml hv
  obtain ⟨rfl, hKn, hP⟩ := hv
  have hx := B.exec
  have hb := B.bytes
  have hr := B.returns
  have hts := atoms_spec (ws := k_Li_runUpTo :: gt) B.pre
  have hg : ∀ w ∈ gt, w.before _ s = true := fun w h => hts w (List.mem_cons_of_mem _ h)
  have hown : s.vm.findClass R_Li = some m.cls := findClass_of_methodNamed B.named
  have hlocks := B.notSynchronized
  have hK := hKn.1
  have hl := lv_entry ([.ref a, .int t, .ref b]) (n := 4) (Nat.le_of_ble_eq_true rfl)
  rw [lg_entry_eq]
  generalize (lg_sl ([.ref a, .int t, .ref b]) ++ List.replicate (4 - (lg_sl ([.ref a, .int t, .ref b])).length) Slot.unset).toArray = ls at hl ⊢
  have hl : lv_has ls 4 [(0, .ref a), (1, .int t), (2, .ref b)] := hl
  have hS : va_S (blk b 2) s.heap s.heap [] := va_S.rf
  refine lv_aload_n hx hb d_Li_runUpTo_0 rfl (lv_at hl 2 rfl) ?_
  refine ep_callH (ep_toC (va_runU (As := []) (rest := []) ⟨hx, hb, hml, hown, hg⟩ (m_Ba_clear_St l D cI cJ cZ cO b n9 v r f) (ep_cwA (owner := "EditablePast$Contents") 0 hg tw_420 tw_422 tw_433 tw_424 tw_5 tk_Ba_clear rfl rfl (hKn.2.2.1 _ (by decide +kernel)) (by decide +kernel) ⟨(Nat.le_of_ble_eq_true rfl), (Nat.le_of_ble_eq_true rfl)⟩) ⟨ep_blind, va_recv (q0 := 7) (ci := 3) hK hP rfl rfl, ep_pre hKn (wo_r hP)⟩ rfl rfl hl.1 rfl (lv_room (Nat.le_of_ble_eq_true rfl)) d_Li_runUpTo_1 ⟨Nat.zero_le _, Nat.zero_le _⟩)) hS (fun q h => h) (fun H locs hsz9 hk1 hP1 hS => ?_)
  refine W.eq (g2 := F0 m 4 ls []) rfl ?_
  have hP := (wo_kc (wo_l hP) hk1 (wLi_off (show a + 7 ≤ b ∨ b + 2 ≤ a from hab.symm))).app hP1
  have hP : va_P D cls (wLi cI cJ cZ a n mo na aa bb re ef ++ wBa cI 3 b 0 v r f) H := hP
  refine lv_iconst (v := 0) hx hb d_Li_runUpTo_4 (by decide) ?_
  refine lv_topi (fun z0 e_z0 => ?_)
  obtain rfl : z0 = nI 0 := by rw [e_z0]; exact nI_0.symm
  refine lv_istore_n (lv' := [(3, .int (nI 0)), (0, .ref a), (1, .int t), (2, .ref b)]) hx hb d_Li_runUpTo_5 rfl hl (by decide) rfl (fun ls hl => ?_)
  have key : ∀ (k i : Nat) (st : (Nat × (Nat → Int32)) × Int64 × Int32) (H : Heap) (locs : List Loc) (ls : Array Slot), i + k = n → st.1.1 ≤ i → rut (fun nm x _ => bgS 3 nm x) mo na aa bb t k i st = R → lv_has ls 4 [(3, .int (nI i)), (0, .ref a), (1, .int t), (2, .ref b)] → va_P D cls (wLi cI cJ cZ a n mo na aa bb re ef ++ wBa cI 3 b st.1.1 st.1.2 st.2.1 st.2.2) H → va_S (blk b 2) s.heap H locs → W p l e (headSpec (k_Li_runUpTo :: gt) rm_Li_runUpTo).room s m ([.ref a, .int t, .ref b] : List Value).toArray below meth c H locs 0 0 (MQ below (Qd (blk b 2) none (fun H => va_P D cls (wLi cI cJ cZ a n mo na aa bb re ef ++ wBa cI 3 b R.1.1 R.1.2 R.2.1 R.2.2) H)) ([.ref a, .int t, .ref b] : List Value).toArray s 0 0 (blk b 2)) (F0 m 6 ls []) := by
    intro k
    induction k with
    | zero =>
      intro i st H locs ls hi hv1 q0 hl hP hS
      obtain rfl : st = R := q0
      refine lv_iload_n hx hb d_Li_runUpTo_6 rfl (lv_at hl 0 rfl) ?_
      refine lv_aload_n hx hb d_Li_runUpTo_7 rfl (lv_at hl 1 rfl) ?_
      refine va_get (D := D) (ci := 1) (v := .int (nI n)) (C := R_Li) (T := F_Li) (N := 7) hx hb hg in_Li hown hK hP 0 rfl rfl 0 (Nat.le_of_ble_eq_true rfl) (hg _ tw_43) (fun _ h9 => h9) rfl d_Li_runUpTo_8 ?_
      refine lv_icmp_ge (tgt := 52) hx hb d_Li_runUpTo_11 (by decide) (fun hc => ?_) (fun hc => absurd (nI_le (by omega) (by omega)) hc)
      exact W.vret hx hb hr (fun t9 ht hW => ⟨rfl, hS.F ht, by rw [ht]; exact hP⟩) hS.2.2 d_Li_runUpTo_52
    | succ k ih =>
      intro i st H locs ls hi hv1 q0 hl hP hS
      unfold rut at q0
      refine lv_iload_n hx hb d_Li_runUpTo_6 rfl (lv_at hl 0 rfl) ?_
      refine lv_aload_n hx hb d_Li_runUpTo_7 rfl (lv_at hl 1 rfl) ?_
      refine va_get (D := D) (ci := 1) (v := .int (nI n)) (C := R_Li) (T := F_Li) (N := 7) hx hb hg in_Li hown hK hP 0 rfl rfl 0 (Nat.le_of_ble_eq_true rfl) (hg _ tw_43) (fun _ h9 => h9) rfl d_Li_runUpTo_8 ?_
      refine lv_icmp_ge (tgt := 52) hx hb d_Li_runUpTo_11 (by decide) (fun hc => absurd hc (nI_ge (by omega) (by omega))) (fun hc => ?_)
      refine lv_aload_n hx hb d_Li_runUpTo_14 rfl (lv_at hl 1 rfl) ?_
      refine va_get (D := D) (ci := 1) (v := .ref (a + 1)) (C := R_Li) (T := F_Li) (N := 7) hx hb hg in_Li hown hK hP 0 rfl rfl 1 (Nat.le_of_ble_eq_true rfl) (hg _ tw_45) (fun _ h9 => h9) rfl d_Li_runUpTo_15 ?_
      refine lv_iload_n hx hb d_Li_runUpTo_18 rfl (lv_at hl 0 rfl) ?_
      refine ep_iald hx hb hK hP 1 0 rfl rfl (i := i) (by omega) (by decide) d_Li_runUpTo_19 ?_
      refine lv_iload_n hx hb d_Li_runUpTo_20 rfl (lv_at hl 2 rfl) ?_
      refine lv_icmp_gt (tgt := 52) hx hb d_Li_runUpTo_21 (by decide) (fun hc => ?_) (fun hc => ?_)
      · rw [if_neg (k2_nle hc)] at q0
        obtain rfl : st = R := q0
        exact W.vret hx hb hr (fun t9 ht hW => ⟨rfl, hS.F ht, by rw [ht]; exact hP⟩) hS.2.2 d_Li_runUpTo_52
      · rw [if_pos (Int32.not_lt.mp hc)] at q0
        refine lv_aload_n hx hb d_Li_runUpTo_24 rfl (lv_at hl 3 rfl) ?_
        refine lv_aload_n hx hb d_Li_runUpTo_25 rfl (lv_at hl 1 rfl) ?_
        refine va_get (D := D) (ci := 1) (v := .ref (a + 2)) (C := R_Li) (T := F_Li) (N := 7) hx hb hg in_Li hown hK hP 0 rfl rfl 2 (Nat.le_of_ble_eq_true rfl) (hg _ tw_47) (fun _ h9 => h9) rfl d_Li_runUpTo_26 ?_
        refine lv_iload_n hx hb d_Li_runUpTo_29 rfl (lv_at hl 0 rfl) ?_
        refine ep_iald hx hb hK hP 2 0 rfl rfl (i := i) (by omega) (by decide) d_Li_runUpTo_30 ?_
        refine lv_aload_n hx hb d_Li_runUpTo_31 rfl (lv_at hl 1 rfl) ?_
        refine va_get (D := D) (ci := 1) (v := .ref (a + 3)) (C := R_Li) (T := F_Li) (N := 7) hx hb hg in_Li hown hK hP 0 rfl rfl 3 (Nat.le_of_ble_eq_true rfl) (hg _ tw_49) (fun _ h9 => h9) rfl d_Li_runUpTo_32 ?_
        refine lv_iload_n hx hb d_Li_runUpTo_35 rfl (lv_at hl 0 rfl) ?_
        refine ep_iald hx hb hK hP 3 0 rfl rfl (i := i) (by omega) (by decide) d_Li_runUpTo_36 ?_
        refine lv_aload_n hx hb d_Li_runUpTo_37 rfl (lv_at hl 1 rfl) ?_
        refine va_get (D := D) (ci := 1) (v := .ref (a + 4)) (C := R_Li) (T := F_Li) (N := 7) hx hb hg in_Li hown hK hP 0 rfl rfl 4 (Nat.le_of_ble_eq_true rfl) (hg _ tw_51) (fun _ h9 => h9) rfl d_Li_runUpTo_38 ?_
        refine lv_iload_n hx hb d_Li_runUpTo_41 rfl (lv_at hl 0 rfl) ?_
        refine ep_iald hx hb hK hP 4 0 rfl rfl (i := i) (by omega) (by decide) d_Li_runUpTo_42 ?_
        refine ep_callH (ep_toC (va_runU (As := [.int (na i), .int (aa i), .int (bb i)]) (rest := []) ⟨hx, hb, hml, hown, hg⟩ (m_Ba_perform_St l D cI cJ cZ cO b st.1.1 st.1.2 st.2.1 st.2.2 (na i) (aa i) (bb i) (by omega)) (ep_cwA (owner := "EditablePast$Contents") 3 hg tw_437 tw_439 tw_498 tw_441 tw_5 tk_Ba_perform rfl rfl (hKn.2.2.1 _ (by decide +kernel)) (by decide +kernel) ⟨(Nat.le_of_ble_eq_true rfl), (Nat.le_of_ble_eq_true rfl)⟩) ⟨ep_blind, va_recv (q0 := 7) (ci := 3) hK hP rfl rfl, ep_pre hKn (wo_r hP)⟩ rfl rfl hl.1 rfl (lv_room (Nat.le_of_ble_eq_true rfl)) d_Li_runUpTo_43 ⟨Nat.zero_le _, Nat.zero_le _⟩)) hS (fun q h => h) (fun H locs hsz9 hk1 hP1 hS => ?_)
        refine W.eq (g2 := F0 m 46 ls []) rfl ?_
        have hP := (wo_kc (wo_l hP) hk1 (wLi_off (show a + 7 ≤ b ∨ b + 2 ≤ a from hab.symm))).app hP1
        have hP : va_P D cls (wLi cI cJ cZ a n mo na aa bb re ef ++ wBa cI 3 b ((bgS 3 (na i) (aa i) st.1).1.1) ((bgS 3 (na i) (aa i) st.1).1.2) ((bgS 3 (na i) (aa i) st.1).2.1) ((bgS 3 (na i) (aa i) st.1).2.2)) H := hP
        refine lv_iinc (k := 0) (lv' := [(3, .int (nI (i + 1))), (0, .ref a), (1, .int t), (2, .ref b)]) hx hb d_Li_runUpTo_46 hl rfl (inc1 _) (by decide) rfl (fun ls hl => ?_)
        refine lv_goto (tgt := 6) hx hb d_Li_runUpTo_49 (by decide) ?_
        exact ih (i + 1) (bgS 3 (na i) (aa i) st.1) H locs ls (by omega) (Nat.le_trans (bgS_le 3 _ _ _) (by omega)) q0 (lv_sub hl [0, 1, 2, 3] rfl) hP hS
  exact key n 0 ((0, v), r, f) H locs ls (by omega) (Nat.le_refl _) hR hl hP hS

set_option maxHeartbeats 4000000 in
set_option maxRecDepth 100000 in
theorem m_Li_runUpTo_He (l : Launch) (D : va_G) (cI cJ cZ cO : ClassId) (a n : Nat) (mo na aa bb : Nat → Int32) (re : Nat → Int64) (ef : Nat → Int32) (b n9 : Nat) (v : Nat → Int32) (r : Int64) (f : Int32) (t : Int32) (hab : b + 2 ≤ a ∨ a + 7 ≤ b) (hn : n ≤ 32) (R : (Nat × (Nat → Int32)) × Int64 × Int32) (hR : rut (fun nm x _ => bgS 4 nm x) mo na aa bb t n 0 ((0, v), r, f) = R) : Met l y_Li_runUpTo (k_Li_runUpTo :: gt) rm_Li_runUpTo (Pc0 D cI cJ cZ cO [.ref a, .int t, .ref b] (fun H => va_P D cls (wLi cI cJ cZ a n mo na aa bb re ef ++ wBa cI 4 b n9 v r f) H)) (Qd (blk b 2) none (fun H => va_P D cls (wLi cI cJ cZ a n mo na aa bb re ef ++ wBa cI 4 b R.1.1 R.1.2 R.2.1 R.2.2) H)) 0 0 (blk b 2) := by
  refine Met.ofW (cc := c_Li_runUpTo) (maxL := 4) (ret := none) (by decide) rfl ?_
  intro p e s m args below meth c s₁ B hml hv
  obtain ⟨rfl, hKn, hP⟩ := hv
  have hx := B.exec
  have hb := B.bytes
  have hr := B.returns
  have hts := atoms_spec (ws := k_Li_runUpTo :: gt) B.pre
  have hg : ∀ w ∈ gt, w.before _ s = true := fun w h => hts w (List.mem_cons_of_mem _ h)
  have hown : s.vm.findClass R_Li = some m.cls := findClass_of_methodNamed B.named
  have hlocks := B.notSynchronized
  have hK := hKn.1
  have hl := lv_entry ([.ref a, .int t, .ref b]) (n := 4) (Nat.le_of_ble_eq_true rfl)
  rw [lg_entry_eq]
  generalize (lg_sl ([.ref a, .int t, .ref b]) ++ List.replicate (4 - (lg_sl ([.ref a, .int t, .ref b])).length) Slot.unset).toArray = ls at hl ⊢
  have hl : lv_has ls 4 [(0, .ref a), (1, .int t), (2, .ref b)] := hl
  have hS : va_S (blk b 2) s.heap s.heap [] := va_S.rf
  refine lv_aload_n hx hb d_Li_runUpTo_0 rfl (lv_at hl 2 rfl) ?_
  refine ep_callH (ep_toC (va_runU (As := []) (rest := []) ⟨hx, hb, hml, hown, hg⟩ (m_Ba_clear_He l D cI cJ cZ cO b n9 v r f) (ep_cwA (owner := "EditablePast$Contents") 0 hg tw_420 tw_422 tw_423 tw_424 tw_5 tk_Ba_clear rfl rfl (hKn.2.2.1 _ (by decide +kernel)) (by decide +kernel) ⟨(Nat.le_of_ble_eq_true rfl), (Nat.le_of_ble_eq_true rfl)⟩) ⟨ep_blind, va_recv (q0 := 7) (ci := 4) hK hP rfl rfl, ep_pre hKn (wo_r hP)⟩ rfl rfl hl.1 rfl (lv_room (Nat.le_of_ble_eq_true rfl)) d_Li_runUpTo_1 ⟨Nat.zero_le _, Nat.zero_le _⟩)) hS (fun q h => h) (fun H locs hsz9 hk1 hP1 hS => ?_)
  refine W.eq (g2 := F0 m 4 ls []) rfl ?_
  have hP := (wo_kc (wo_l hP) hk1 (wLi_off (show a + 7 ≤ b ∨ b + 2 ≤ a from hab.symm))).app hP1
  have hP : va_P D cls (wLi cI cJ cZ a n mo na aa bb re ef ++ wBa cI 4 b 0 v r f) H := hP
  refine lv_iconst (v := 0) hx hb d_Li_runUpTo_4 (by decide) ?_
  refine lv_topi (fun z0 e_z0 => ?_)
  obtain rfl : z0 = nI 0 := by rw [e_z0]; exact nI_0.symm
  refine lv_istore_n (lv' := [(3, .int (nI 0)), (0, .ref a), (1, .int t), (2, .ref b)]) hx hb d_Li_runUpTo_5 rfl hl (by decide) rfl (fun ls hl => ?_)
  have key : ∀ (k i : Nat) (st : (Nat × (Nat → Int32)) × Int64 × Int32) (H : Heap) (locs : List Loc) (ls : Array Slot), i + k = n → st.1.1 ≤ i → rut (fun nm x _ => bgS 4 nm x) mo na aa bb t k i st = R → lv_has ls 4 [(3, .int (nI i)), (0, .ref a), (1, .int t), (2, .ref b)] → va_P D cls (wLi cI cJ cZ a n mo na aa bb re ef ++ wBa cI 4 b st.1.1 st.1.2 st.2.1 st.2.2) H → va_S (blk b 2) s.heap H locs → W p l e (headSpec (k_Li_runUpTo :: gt) rm_Li_runUpTo).room s m ([.ref a, .int t, .ref b] : List Value).toArray below meth c H locs 0 0 (MQ below (Qd (blk b 2) none (fun H => va_P D cls (wLi cI cJ cZ a n mo na aa bb re ef ++ wBa cI 4 b R.1.1 R.1.2 R.2.1 R.2.2) H)) ([.ref a, .int t, .ref b] : List Value).toArray s 0 0 (blk b 2)) (F0 m 6 ls []) := by
    intro k
    induction k with
    | zero =>
      intro i st H locs ls hi hv1 q0 hl hP hS
      obtain rfl : st = R := q0
      refine lv_iload_n hx hb d_Li_runUpTo_6 rfl (lv_at hl 0 rfl) ?_
      refine lv_aload_n hx hb d_Li_runUpTo_7 rfl (lv_at hl 1 rfl) ?_
      refine va_get (D := D) (ci := 1) (v := .int (nI n)) (C := R_Li) (T := F_Li) (N := 7) hx hb hg in_Li hown hK hP 0 rfl rfl 0 (Nat.le_of_ble_eq_true rfl) (hg _ tw_43) (fun _ h9 => h9) rfl d_Li_runUpTo_8 ?_
      refine lv_icmp_ge (tgt := 52) hx hb d_Li_runUpTo_11 (by decide) (fun hc => ?_) (fun hc => absurd (nI_le (by omega) (by omega)) hc)
      exact W.vret hx hb hr (fun t9 ht hW => ⟨rfl, hS.F ht, by rw [ht]; exact hP⟩) hS.2.2 d_Li_runUpTo_52
    | succ k ih =>
      intro i st H locs ls hi hv1 q0 hl hP hS
      unfold rut at q0
      refine lv_iload_n hx hb d_Li_runUpTo_6 rfl (lv_at hl 0 rfl) ?_
      refine lv_aload_n hx hb d_Li_runUpTo_7 rfl (lv_at hl 1 rfl) ?_
      refine va_get (D := D) (ci := 1) (v := .int (nI n)) (C := R_Li) (T := F_Li) (N := 7) hx hb hg in_Li hown hK hP 0 rfl rfl 0 (Nat.le_of_ble_eq_true rfl) (hg _ tw_43) (fun _ h9 => h9) rfl d_Li_runUpTo_8 ?_
      refine lv_icmp_ge (tgt := 52) hx hb d_Li_runUpTo_11 (by decide) (fun hc => absurd hc (nI_ge (by omega) (by omega))) (fun hc => ?_)
      refine lv_aload_n hx hb d_Li_runUpTo_14 rfl (lv_at hl 1 rfl) ?_
      refine va_get (D := D) (ci := 1) (v := .ref (a + 1)) (C := R_Li) (T := F_Li) (N := 7) hx hb hg in_Li hown hK hP 0 rfl rfl 1 (Nat.le_of_ble_eq_true rfl) (hg _ tw_45) (fun _ h9 => h9) rfl d_Li_runUpTo_15 ?_
      refine lv_iload_n hx hb d_Li_runUpTo_18 rfl (lv_at hl 0 rfl) ?_
      refine ep_iald hx hb hK hP 1 0 rfl rfl (i := i) (by omega) (by decide) d_Li_runUpTo_19 ?_
      refine lv_iload_n hx hb d_Li_runUpTo_20 rfl (lv_at hl 2 rfl) ?_
      refine lv_icmp_gt (tgt := 52) hx hb d_Li_runUpTo_21 (by decide) (fun hc => ?_) (fun hc => ?_)
      · rw [if_neg (k2_nle hc)] at q0
        obtain rfl : st = R := q0
        exact W.vret hx hb hr (fun t9 ht hW => ⟨rfl, hS.F ht, by rw [ht]; exact hP⟩) hS.2.2 d_Li_runUpTo_52
      · rw [if_pos (Int32.not_lt.mp hc)] at q0
        refine lv_aload_n hx hb d_Li_runUpTo_24 rfl (lv_at hl 3 rfl) ?_
        refine lv_aload_n hx hb d_Li_runUpTo_25 rfl (lv_at hl 1 rfl) ?_
        refine va_get (D := D) (ci := 1) (v := .ref (a + 2)) (C := R_Li) (T := F_Li) (N := 7) hx hb hg in_Li hown hK hP 0 rfl rfl 2 (Nat.le_of_ble_eq_true rfl) (hg _ tw_47) (fun _ h9 => h9) rfl d_Li_runUpTo_26 ?_
        refine lv_iload_n hx hb d_Li_runUpTo_29 rfl (lv_at hl 0 rfl) ?_
        refine ep_iald hx hb hK hP 2 0 rfl rfl (i := i) (by omega) (by decide) d_Li_runUpTo_30 ?_
        refine lv_aload_n hx hb d_Li_runUpTo_31 rfl (lv_at hl 1 rfl) ?_
        refine va_get (D := D) (ci := 1) (v := .ref (a + 3)) (C := R_Li) (T := F_Li) (N := 7) hx hb hg in_Li hown hK hP 0 rfl rfl 3 (Nat.le_of_ble_eq_true rfl) (hg _ tw_49) (fun _ h9 => h9) rfl d_Li_runUpTo_32 ?_
        refine lv_iload_n hx hb d_Li_runUpTo_35 rfl (lv_at hl 0 rfl) ?_
        refine ep_iald hx hb hK hP 3 0 rfl rfl (i := i) (by omega) (by decide) d_Li_runUpTo_36 ?_
        refine lv_aload_n hx hb d_Li_runUpTo_37 rfl (lv_at hl 1 rfl) ?_
        refine va_get (D := D) (ci := 1) (v := .ref (a + 4)) (C := R_Li) (T := F_Li) (N := 7) hx hb hg in_Li hown hK hP 0 rfl rfl 4 (Nat.le_of_ble_eq_true rfl) (hg _ tw_51) (fun _ h9 => h9) rfl d_Li_runUpTo_38 ?_
        refine lv_iload_n hx hb d_Li_runUpTo_41 rfl (lv_at hl 0 rfl) ?_
        refine ep_iald hx hb hK hP 4 0 rfl rfl (i := i) (by omega) (by decide) d_Li_runUpTo_42 ?_
        refine ep_callH (ep_toC (va_runU (As := [.int (na i), .int (aa i), .int (bb i)]) (rest := []) ⟨hx, hb, hml, hown, hg⟩ (m_Ba_perform_He l D cI cJ cZ cO b st.1.1 st.1.2 st.2.1 st.2.2 (na i) (aa i) (bb i) (by omega)) (ep_cwA (owner := "EditablePast$Contents") 3 hg tw_437 tw_439 tw_440 tw_441 tw_5 tk_Ba_perform rfl rfl (hKn.2.2.1 _ (by decide +kernel)) (by decide +kernel) ⟨(Nat.le_of_ble_eq_true rfl), (Nat.le_of_ble_eq_true rfl)⟩) ⟨ep_blind, va_recv (q0 := 7) (ci := 4) hK hP rfl rfl, ep_pre hKn (wo_r hP)⟩ rfl rfl hl.1 rfl (lv_room (Nat.le_of_ble_eq_true rfl)) d_Li_runUpTo_43 ⟨Nat.zero_le _, Nat.zero_le _⟩)) hS (fun q h => h) (fun H locs hsz9 hk1 hP1 hS => ?_)
        refine W.eq (g2 := F0 m 46 ls []) rfl ?_
        have hP := (wo_kc (wo_l hP) hk1 (wLi_off (show a + 7 ≤ b ∨ b + 2 ≤ a from hab.symm))).app hP1
        have hP : va_P D cls (wLi cI cJ cZ a n mo na aa bb re ef ++ wBa cI 4 b ((bgS 4 (na i) (aa i) st.1).1.1) ((bgS 4 (na i) (aa i) st.1).1.2) ((bgS 4 (na i) (aa i) st.1).2.1) ((bgS 4 (na i) (aa i) st.1).2.2)) H := hP
        refine lv_iinc (k := 0) (lv' := [(3, .int (nI (i + 1))), (0, .ref a), (1, .int t), (2, .ref b)]) hx hb d_Li_runUpTo_46 hl rfl (inc1 _) (by decide) rfl (fun ls hl => ?_)
        refine lv_goto (tgt := 6) hx hb d_Li_runUpTo_49 (by decide) ?_
        exact ih (i + 1) (bgS 4 (na i) (aa i) st.1) H locs ls (by omega) (Nat.le_trans (bgS_le 4 _ _ _) (by omega)) q0 (lv_sub hl [0, 1, 2, 3] rfl) hP hS
  exact key n 0 ((0, v), r, f) H locs ls (by omega) (Nat.le_refl _) hR hl hP hS

set_option maxHeartbeats 4000000 in
set_option maxRecDepth 100000 in
theorem m_Li_runUpTo_Ta (l : Launch) (D : va_G) (cI cJ cZ cO : ClassId) (a n : Nat) (mo na aa bb : Nat → Int32) (re : Nat → Int64) (ef : Nat → Int32) (b n9 : Nat) (ks vs : Nat → Int32) (r : Int64) (f : Int32) (t : Int32) (hab : b + 3 ≤ a ∨ a + 7 ≤ b) (hn : n ≤ 32) (R : (Nat × (Nat → Int32) × (Nat → Int32)) × Int64 × Int32) (hR : rut taS mo na aa bb t n 0 ((0, ks, vs), r, f) = R) : Met l y_Li_runUpTo (k_Li_runUpTo :: gt) rm_Li_runUpTo (Pc0 D cI cJ cZ cO [.ref a, .int t, .ref b] (fun H => va_P D cls (wLi cI cJ cZ a n mo na aa bb re ef ++ wTa cI b n9 ks vs r f) H)) (Qd (blk b 3) none (fun H => va_P D cls (wLi cI cJ cZ a n mo na aa bb re ef ++ wTa cI b R.1.1 R.1.2.1 R.1.2.2 R.2.1 R.2.2) H)) 0 0 (blk b 3) := by
  refine Met.ofW (cc := c_Li_runUpTo) (maxL := 4) (ret := none) (by decide) rfl ?_
  intro p e s m args below meth c s₁ B hml hv
  obtain ⟨rfl, hKn, hP⟩ := hv
  have hx := B.exec
  have hb := B.bytes
  have hr := B.returns
  have hts := atoms_spec (ws := k_Li_runUpTo :: gt) B.pre
  have hg : ∀ w ∈ gt, w.before _ s = true := fun w h => hts w (List.mem_cons_of_mem _ h)
  have hown : s.vm.findClass R_Li = some m.cls := findClass_of_methodNamed B.named
  have hlocks := B.notSynchronized
  have hK := hKn.1
  have hl := lv_entry ([.ref a, .int t, .ref b]) (n := 4) (Nat.le_of_ble_eq_true rfl)
  rw [lg_entry_eq]
  generalize (lg_sl ([.ref a, .int t, .ref b]) ++ List.replicate (4 - (lg_sl ([.ref a, .int t, .ref b])).length) Slot.unset).toArray = ls at hl ⊢
  have hl : lv_has ls 4 [(0, .ref a), (1, .int t), (2, .ref b)] := hl
  have hS : va_S (blk b 3) s.heap s.heap [] := va_S.rf
  refine lv_aload_n hx hb d_Li_runUpTo_0 rfl (lv_at hl 2 rfl) ?_
  refine ep_callH (ep_toC (va_runU (As := []) (rest := []) ⟨hx, hb, hml, hown, hg⟩ (m_Ta_clear l D cI cJ cZ cO b n9 ks vs r f) (ep_cwA (owner := "EditablePast$Contents") 0 hg tw_420 tw_422 tw_434 tw_435 tw_8 tk_Ta_clear rfl rfl (hKn.2.2.1 _ (by decide +kernel)) (by decide +kernel) ⟨(Nat.le_of_ble_eq_true rfl), (Nat.le_of_ble_eq_true rfl)⟩) ⟨ep_blind, va_recv (q0 := 7) (ci := 5) hK hP rfl rfl, ep_pre hKn (wo_r hP)⟩ rfl rfl hl.1 rfl (lv_room (Nat.le_of_ble_eq_true rfl)) d_Li_runUpTo_1 ⟨Nat.zero_le _, Nat.zero_le _⟩)) hS (fun q h => h) (fun H locs hsz9 hk1 hP1 hS => ?_)
  refine W.eq (g2 := F0 m 4 ls []) rfl ?_
  have hP := (wo_kc (wo_l hP) hk1 (wLi_off (show a + 7 ≤ b ∨ b + 3 ≤ a from hab.symm))).app hP1
  have hP : va_P D cls (wLi cI cJ cZ a n mo na aa bb re ef ++ wTa cI b 0 ks vs r f) H := hP
  refine lv_iconst (v := 0) hx hb d_Li_runUpTo_4 (by decide) ?_
  refine lv_topi (fun z0 e_z0 => ?_)
  obtain rfl : z0 = nI 0 := by rw [e_z0]; exact nI_0.symm
  refine lv_istore_n (lv' := [(3, .int (nI 0)), (0, .ref a), (1, .int t), (2, .ref b)]) hx hb d_Li_runUpTo_5 rfl hl (by decide) rfl (fun ls hl => ?_)
  have key : ∀ (k i : Nat) (st : (Nat × (Nat → Int32) × (Nat → Int32)) × Int64 × Int32) (H : Heap) (locs : List Loc) (ls : Array Slot), i + k = n → st.1.1 ≤ i → rut taS mo na aa bb t k i st = R → lv_has ls 4 [(3, .int (nI i)), (0, .ref a), (1, .int t), (2, .ref b)] → va_P D cls (wLi cI cJ cZ a n mo na aa bb re ef ++ wTa cI b st.1.1 st.1.2.1 st.1.2.2 st.2.1 st.2.2) H → va_S (blk b 3) s.heap H locs → W p l e (headSpec (k_Li_runUpTo :: gt) rm_Li_runUpTo).room s m ([.ref a, .int t, .ref b] : List Value).toArray below meth c H locs 0 0 (MQ below (Qd (blk b 3) none (fun H => va_P D cls (wLi cI cJ cZ a n mo na aa bb re ef ++ wTa cI b R.1.1 R.1.2.1 R.1.2.2 R.2.1 R.2.2) H)) ([.ref a, .int t, .ref b] : List Value).toArray s 0 0 (blk b 3)) (F0 m 6 ls []) := by
    intro k
    induction k with
    | zero =>
      intro i st H locs ls hi hv1 q0 hl hP hS
      obtain rfl : st = R := q0
      refine lv_iload_n hx hb d_Li_runUpTo_6 rfl (lv_at hl 0 rfl) ?_
      refine lv_aload_n hx hb d_Li_runUpTo_7 rfl (lv_at hl 1 rfl) ?_
      refine va_get (D := D) (ci := 1) (v := .int (nI n)) (C := R_Li) (T := F_Li) (N := 7) hx hb hg in_Li hown hK hP 0 rfl rfl 0 (Nat.le_of_ble_eq_true rfl) (hg _ tw_43) (fun _ h9 => h9) rfl d_Li_runUpTo_8 ?_
      refine lv_icmp_ge (tgt := 52) hx hb d_Li_runUpTo_11 (by decide) (fun hc => ?_) (fun hc => absurd (nI_le (by omega) (by omega)) hc)
      exact W.vret hx hb hr (fun t9 ht hW => ⟨rfl, hS.F ht, by rw [ht]; exact hP⟩) hS.2.2 d_Li_runUpTo_52
    | succ k ih =>
      intro i st H locs ls hi hv1 q0 hl hP hS
      unfold rut at q0
      refine lv_iload_n hx hb d_Li_runUpTo_6 rfl (lv_at hl 0 rfl) ?_
      refine lv_aload_n hx hb d_Li_runUpTo_7 rfl (lv_at hl 1 rfl) ?_
      refine va_get (D := D) (ci := 1) (v := .int (nI n)) (C := R_Li) (T := F_Li) (N := 7) hx hb hg in_Li hown hK hP 0 rfl rfl 0 (Nat.le_of_ble_eq_true rfl) (hg _ tw_43) (fun _ h9 => h9) rfl d_Li_runUpTo_8 ?_
      refine lv_icmp_ge (tgt := 52) hx hb d_Li_runUpTo_11 (by decide) (fun hc => absurd hc (nI_ge (by omega) (by omega))) (fun hc => ?_)
      refine lv_aload_n hx hb d_Li_runUpTo_14 rfl (lv_at hl 1 rfl) ?_
      refine va_get (D := D) (ci := 1) (v := .ref (a + 1)) (C := R_Li) (T := F_Li) (N := 7) hx hb hg in_Li hown hK hP 0 rfl rfl 1 (Nat.le_of_ble_eq_true rfl) (hg _ tw_45) (fun _ h9 => h9) rfl d_Li_runUpTo_15 ?_
      refine lv_iload_n hx hb d_Li_runUpTo_18 rfl (lv_at hl 0 rfl) ?_
      refine ep_iald hx hb hK hP 1 0 rfl rfl (i := i) (by omega) (by decide) d_Li_runUpTo_19 ?_
      refine lv_iload_n hx hb d_Li_runUpTo_20 rfl (lv_at hl 2 rfl) ?_
      refine lv_icmp_gt (tgt := 52) hx hb d_Li_runUpTo_21 (by decide) (fun hc => ?_) (fun hc => ?_)
      · rw [if_neg (k2_nle hc)] at q0
        obtain rfl : st = R := q0
        exact W.vret hx hb hr (fun t9 ht hW => ⟨rfl, hS.F ht, by rw [ht]; exact hP⟩) hS.2.2 d_Li_runUpTo_52
      · rw [if_pos (Int32.not_lt.mp hc)] at q0
        refine lv_aload_n hx hb d_Li_runUpTo_24 rfl (lv_at hl 3 rfl) ?_
        refine lv_aload_n hx hb d_Li_runUpTo_25 rfl (lv_at hl 1 rfl) ?_
        refine va_get (D := D) (ci := 1) (v := .ref (a + 2)) (C := R_Li) (T := F_Li) (N := 7) hx hb hg in_Li hown hK hP 0 rfl rfl 2 (Nat.le_of_ble_eq_true rfl) (hg _ tw_47) (fun _ h9 => h9) rfl d_Li_runUpTo_26 ?_
        refine lv_iload_n hx hb d_Li_runUpTo_29 rfl (lv_at hl 0 rfl) ?_
        refine ep_iald hx hb hK hP 2 0 rfl rfl (i := i) (by omega) (by decide) d_Li_runUpTo_30 ?_
        refine lv_aload_n hx hb d_Li_runUpTo_31 rfl (lv_at hl 1 rfl) ?_
        refine va_get (D := D) (ci := 1) (v := .ref (a + 3)) (C := R_Li) (T := F_Li) (N := 7) hx hb hg in_Li hown hK hP 0 rfl rfl 3 (Nat.le_of_ble_eq_true rfl) (hg _ tw_49) (fun _ h9 => h9) rfl d_Li_runUpTo_32 ?_
        refine lv_iload_n hx hb d_Li_runUpTo_35 rfl (lv_at hl 0 rfl) ?_
        refine ep_iald hx hb hK hP 3 0 rfl rfl (i := i) (by omega) (by decide) d_Li_runUpTo_36 ?_
        refine lv_aload_n hx hb d_Li_runUpTo_37 rfl (lv_at hl 1 rfl) ?_
        refine va_get (D := D) (ci := 1) (v := .ref (a + 4)) (C := R_Li) (T := F_Li) (N := 7) hx hb hg in_Li hown hK hP 0 rfl rfl 4 (Nat.le_of_ble_eq_true rfl) (hg _ tw_51) (fun _ h9 => h9) rfl d_Li_runUpTo_38 ?_
        refine lv_iload_n hx hb d_Li_runUpTo_41 rfl (lv_at hl 0 rfl) ?_
        refine ep_iald hx hb hK hP 4 0 rfl rfl (i := i) (by omega) (by decide) d_Li_runUpTo_42 ?_
        refine ep_callH (ep_toC (va_runU (As := [.int (na i), .int (aa i), .int (bb i)]) (rest := []) ⟨hx, hb, hml, hown, hg⟩ (m_Ta_perform l D cI cJ cZ cO b st.1.1 st.1.2.1 st.1.2.2 st.2.1 st.2.2 (na i) (aa i) (bb i) (by omega)) (ep_cwA (owner := "EditablePast$Contents") 3 hg tw_437 tw_439 tw_499 tw_500 tw_8 tk_Ta_perform rfl rfl (hKn.2.2.1 _ (by decide +kernel)) (by decide +kernel) ⟨(Nat.le_of_ble_eq_true rfl), (Nat.le_of_ble_eq_true rfl)⟩) ⟨ep_blind, va_recv (q0 := 7) (ci := 5) hK hP rfl rfl, ep_pre hKn (wo_r hP)⟩ rfl rfl hl.1 rfl (lv_room (Nat.le_of_ble_eq_true rfl)) d_Li_runUpTo_43 ⟨Nat.zero_le _, Nat.zero_le _⟩)) hS (fun q h => h) (fun H locs hsz9 hk1 hP1 hS => ?_)
        refine W.eq (g2 := F0 m 46 ls []) rfl ?_
        have hP := (wo_kc (wo_l hP) hk1 (wLi_off (show a + 7 ≤ b ∨ b + 3 ≤ a from hab.symm))).app hP1
        have hP : va_P D cls (wLi cI cJ cZ a n mo na aa bb re ef ++ wTa cI b ((taS (na i) (aa i) (bb i) st.1).1.1) ((taS (na i) (aa i) (bb i) st.1).1.2.1) ((taS (na i) (aa i) (bb i) st.1).1.2.2) ((taS (na i) (aa i) (bb i) st.1).2.1) ((taS (na i) (aa i) (bb i) st.1).2.2)) H := hP
        refine lv_iinc (k := 0) (lv' := [(3, .int (nI (i + 1))), (0, .ref a), (1, .int t), (2, .ref b)]) hx hb d_Li_runUpTo_46 hl rfl (inc1 _) (by decide) rfl (fun ls hl => ?_)
        refine lv_goto (tgt := 6) hx hb d_Li_runUpTo_49 (by decide) ?_
        exact ih (i + 1) (taS (na i) (aa i) (bb i) st.1) H locs ls (by omega) (Nat.le_trans (taS_le _ _ _ _) (by omega)) q0 (lv_sub hl [0, 1, 2, 3] rfl) hP hS
  exact key n 0 ((0, ks, vs), r, f) H locs ls (by omega) (Nat.le_refl _) hR hl hP hS

set_option maxHeartbeats 4000000 in
set_option maxRecDepth 100000 in
theorem m_Li_runUpTo_Re (l : Launch) (D : va_G) (cI cJ cZ cO : ClassId) (a n : Nat) (mo na aa bb : Nat → Int32) (re : Nat → Int64) (ef : Nat → Int32) (b : Nat) (tot : Int64) (n9 : Nat) (r : Int64) (f : Int32) (t : Int32) (hab : b + 1 ≤ a ∨ a + 7 ≤ b) (hn : n ≤ 32) (R : (Int64 × Nat) × Int64 × Int32) (hR : rut (fun _ x _ => reS x) mo na aa bb t n 0 ((0, n9), r, f) = R) : Met l y_Li_runUpTo (k_Li_runUpTo :: gt) rm_Li_runUpTo (Pc0 D cI cJ cZ cO [.ref a, .int t, .ref b] (fun H => va_P D cls (wLi cI cJ cZ a n mo na aa bb re ef ++ wRe b tot n9 r f) H)) (Qd (blk b 1) none (fun H => va_P D cls (wLi cI cJ cZ a n mo na aa bb re ef ++ wRe b R.1.1 R.1.2 R.2.1 R.2.2) H)) 0 0 (blk b 1) := by
  refine Met.ofW (cc := c_Li_runUpTo) (maxL := 4) (ret := none) (by decide) rfl ?_
  intro p e s m args below meth c s₁ B hml hv
  obtain ⟨rfl, hKn, hP⟩ := hv
  have hx := B.exec
  have hb := B.bytes
  have hr := B.returns
  have hts := atoms_spec (ws := k_Li_runUpTo :: gt) B.pre
  have hg : ∀ w ∈ gt, w.before _ s = true := fun w h => hts w (List.mem_cons_of_mem _ h)
  have hown : s.vm.findClass R_Li = some m.cls := findClass_of_methodNamed B.named
  have hlocks := B.notSynchronized
  have hK := hKn.1
  have hl := lv_entry ([.ref a, .int t, .ref b]) (n := 4) (Nat.le_of_ble_eq_true rfl)
  rw [lg_entry_eq]
  generalize (lg_sl ([.ref a, .int t, .ref b]) ++ List.replicate (4 - (lg_sl ([.ref a, .int t, .ref b])).length) Slot.unset).toArray = ls at hl ⊢
  have hl : lv_has ls 4 [(0, .ref a), (1, .int t), (2, .ref b)] := hl
  have hS : va_S (blk b 1) s.heap s.heap [] := va_S.rf
  refine lv_aload_n hx hb d_Li_runUpTo_0 rfl (lv_at hl 2 rfl) ?_
  refine ep_callH (ep_toC (va_runU (As := []) (rest := []) ⟨hx, hb, hml, hown, hg⟩ (m_Re_clear l D cI cJ cZ cO b tot n9 r f) (ep_cwA (owner := "EditablePast$Contents") 0 hg tw_420 tw_422 tw_427 tw_428 tw_10 tk_Re_clear rfl rfl (hKn.2.2.1 _ (by decide +kernel)) (by decide +kernel) ⟨(Nat.le_of_ble_eq_true rfl), (Nat.le_of_ble_eq_true rfl)⟩) ⟨ep_blind, va_recv (q0 := 7) (ci := 6) hK hP rfl rfl, ep_pre hKn (wo_r hP)⟩ rfl rfl hl.1 rfl (lv_room (Nat.le_of_ble_eq_true rfl)) d_Li_runUpTo_1 ⟨Nat.zero_le _, Nat.zero_le _⟩)) hS (fun q h => h) (fun H locs hsz9 hk1 hP1 hS => ?_)
  refine W.eq (g2 := F0 m 4 ls []) rfl ?_
  have hP := (wo_kc (wo_l hP) hk1 (wLi_off (show a + 7 ≤ b ∨ b + 1 ≤ a from hab.symm))).app hP1
  have hP : va_P D cls (wLi cI cJ cZ a n mo na aa bb re ef ++ wRe b 0 n9 r f) H := hP
  refine lv_iconst (v := 0) hx hb d_Li_runUpTo_4 (by decide) ?_
  refine lv_topi (fun z0 e_z0 => ?_)
  obtain rfl : z0 = nI 0 := by rw [e_z0]; exact nI_0.symm
  refine lv_istore_n (lv' := [(3, .int (nI 0)), (0, .ref a), (1, .int t), (2, .ref b)]) hx hb d_Li_runUpTo_5 rfl hl (by decide) rfl (fun ls hl => ?_)
  have key : ∀ (k i : Nat) (st : (Int64 × Nat) × Int64 × Int32) (H : Heap) (locs : List Loc) (ls : Array Slot), i + k = n → rut (fun _ x _ => reS x) mo na aa bb t k i st = R → lv_has ls 4 [(3, .int (nI i)), (0, .ref a), (1, .int t), (2, .ref b)] → va_P D cls (wLi cI cJ cZ a n mo na aa bb re ef ++ wRe b st.1.1 st.1.2 st.2.1 st.2.2) H → va_S (blk b 1) s.heap H locs → W p l e (headSpec (k_Li_runUpTo :: gt) rm_Li_runUpTo).room s m ([.ref a, .int t, .ref b] : List Value).toArray below meth c H locs 0 0 (MQ below (Qd (blk b 1) none (fun H => va_P D cls (wLi cI cJ cZ a n mo na aa bb re ef ++ wRe b R.1.1 R.1.2 R.2.1 R.2.2) H)) ([.ref a, .int t, .ref b] : List Value).toArray s 0 0 (blk b 1)) (F0 m 6 ls []) := by
    intro k
    induction k with
    | zero =>
      intro i st H locs ls hi q0 hl hP hS
      obtain rfl : st = R := q0
      refine lv_iload_n hx hb d_Li_runUpTo_6 rfl (lv_at hl 0 rfl) ?_
      refine lv_aload_n hx hb d_Li_runUpTo_7 rfl (lv_at hl 1 rfl) ?_
      refine va_get (D := D) (ci := 1) (v := .int (nI n)) (C := R_Li) (T := F_Li) (N := 7) hx hb hg in_Li hown hK hP 0 rfl rfl 0 (Nat.le_of_ble_eq_true rfl) (hg _ tw_43) (fun _ h9 => h9) rfl d_Li_runUpTo_8 ?_
      refine lv_icmp_ge (tgt := 52) hx hb d_Li_runUpTo_11 (by decide) (fun hc => ?_) (fun hc => absurd (nI_le (by omega) (by omega)) hc)
      exact W.vret hx hb hr (fun t9 ht hW => ⟨rfl, hS.F ht, by rw [ht]; exact hP⟩) hS.2.2 d_Li_runUpTo_52
    | succ k ih =>
      intro i st H locs ls hi q0 hl hP hS
      unfold rut at q0
      refine lv_iload_n hx hb d_Li_runUpTo_6 rfl (lv_at hl 0 rfl) ?_
      refine lv_aload_n hx hb d_Li_runUpTo_7 rfl (lv_at hl 1 rfl) ?_
      refine va_get (D := D) (ci := 1) (v := .int (nI n)) (C := R_Li) (T := F_Li) (N := 7) hx hb hg in_Li hown hK hP 0 rfl rfl 0 (Nat.le_of_ble_eq_true rfl) (hg _ tw_43) (fun _ h9 => h9) rfl d_Li_runUpTo_8 ?_
      refine lv_icmp_ge (tgt := 52) hx hb d_Li_runUpTo_11 (by decide) (fun hc => absurd hc (nI_ge (by omega) (by omega))) (fun hc => ?_)
      refine lv_aload_n hx hb d_Li_runUpTo_14 rfl (lv_at hl 1 rfl) ?_
      refine va_get (D := D) (ci := 1) (v := .ref (a + 1)) (C := R_Li) (T := F_Li) (N := 7) hx hb hg in_Li hown hK hP 0 rfl rfl 1 (Nat.le_of_ble_eq_true rfl) (hg _ tw_45) (fun _ h9 => h9) rfl d_Li_runUpTo_15 ?_
      refine lv_iload_n hx hb d_Li_runUpTo_18 rfl (lv_at hl 0 rfl) ?_
      refine ep_iald hx hb hK hP 1 0 rfl rfl (i := i) (by omega) (by decide) d_Li_runUpTo_19 ?_
      refine lv_iload_n hx hb d_Li_runUpTo_20 rfl (lv_at hl 2 rfl) ?_
      refine lv_icmp_gt (tgt := 52) hx hb d_Li_runUpTo_21 (by decide) (fun hc => ?_) (fun hc => ?_)
      · rw [if_neg (k2_nle hc)] at q0
        obtain rfl : st = R := q0
        exact W.vret hx hb hr (fun t9 ht hW => ⟨rfl, hS.F ht, by rw [ht]; exact hP⟩) hS.2.2 d_Li_runUpTo_52
      · rw [if_pos (Int32.not_lt.mp hc)] at q0
        refine lv_aload_n hx hb d_Li_runUpTo_24 rfl (lv_at hl 3 rfl) ?_
        refine lv_aload_n hx hb d_Li_runUpTo_25 rfl (lv_at hl 1 rfl) ?_
        refine va_get (D := D) (ci := 1) (v := .ref (a + 2)) (C := R_Li) (T := F_Li) (N := 7) hx hb hg in_Li hown hK hP 0 rfl rfl 2 (Nat.le_of_ble_eq_true rfl) (hg _ tw_47) (fun _ h9 => h9) rfl d_Li_runUpTo_26 ?_
        refine lv_iload_n hx hb d_Li_runUpTo_29 rfl (lv_at hl 0 rfl) ?_
        refine ep_iald hx hb hK hP 2 0 rfl rfl (i := i) (by omega) (by decide) d_Li_runUpTo_30 ?_
        refine lv_aload_n hx hb d_Li_runUpTo_31 rfl (lv_at hl 1 rfl) ?_
        refine va_get (D := D) (ci := 1) (v := .ref (a + 3)) (C := R_Li) (T := F_Li) (N := 7) hx hb hg in_Li hown hK hP 0 rfl rfl 3 (Nat.le_of_ble_eq_true rfl) (hg _ tw_49) (fun _ h9 => h9) rfl d_Li_runUpTo_32 ?_
        refine lv_iload_n hx hb d_Li_runUpTo_35 rfl (lv_at hl 0 rfl) ?_
        refine ep_iald hx hb hK hP 3 0 rfl rfl (i := i) (by omega) (by decide) d_Li_runUpTo_36 ?_
        refine lv_aload_n hx hb d_Li_runUpTo_37 rfl (lv_at hl 1 rfl) ?_
        refine va_get (D := D) (ci := 1) (v := .ref (a + 4)) (C := R_Li) (T := F_Li) (N := 7) hx hb hg in_Li hown hK hP 0 rfl rfl 4 (Nat.le_of_ble_eq_true rfl) (hg _ tw_51) (fun _ h9 => h9) rfl d_Li_runUpTo_38 ?_
        refine lv_iload_n hx hb d_Li_runUpTo_41 rfl (lv_at hl 0 rfl) ?_
        refine ep_iald hx hb hK hP 4 0 rfl rfl (i := i) (by omega) (by decide) d_Li_runUpTo_42 ?_
        refine ep_callH (ep_toC (va_runU (As := [.int (na i), .int (aa i), .int (bb i)]) (rest := []) ⟨hx, hb, hml, hown, hg⟩ (m_Re_perform l D cI cJ cZ cO b st.1.1 st.1.2 st.2.1 st.2.2 (na i) (aa i) (bb i)) (ep_cwA (owner := "EditablePast$Contents") 3 hg tw_437 tw_439 tw_480 tw_481 tw_10 tk_Re_perform rfl rfl (hKn.2.2.1 _ (by decide +kernel)) (by decide +kernel) ⟨(Nat.le_of_ble_eq_true rfl), (Nat.le_of_ble_eq_true rfl)⟩) ⟨ep_blind, va_recv (q0 := 7) (ci := 6) hK hP rfl rfl, ep_pre hKn (wo_r hP)⟩ rfl rfl hl.1 rfl (lv_room (Nat.le_of_ble_eq_true rfl)) d_Li_runUpTo_43 ⟨Nat.zero_le _, Nat.zero_le _⟩)) hS (fun q h => h) (fun H locs hsz9 hk1 hP1 hS => ?_)
        refine W.eq (g2 := F0 m 46 ls []) rfl ?_
        have hP := (wo_kc (wo_l hP) hk1 (wLi_off (show a + 7 ≤ b ∨ b + 1 ≤ a from hab.symm))).app hP1
        have hP : va_P D cls (wLi cI cJ cZ a n mo na aa bb re ef ++ wRe b ((reS (aa i) st.1).1.1) ((reS (aa i) st.1).1.2) ((reS (aa i) st.1).2.1) ((reS (aa i) st.1).2.2)) H := hP
        refine lv_iinc (k := 0) (lv' := [(3, .int (nI (i + 1))), (0, .ref a), (1, .int t), (2, .ref b)]) hx hb d_Li_runUpTo_46 hl rfl (inc1 _) (by decide) rfl (fun ls hl => ?_)
        refine lv_goto (tgt := 6) hx hb d_Li_runUpTo_49 (by decide) ?_
        exact ih (i + 1) (reS (aa i) st.1) H locs ls (by omega) q0 (lv_sub hl [0, 1, 2, 3] rfl) hP hS
  exact key n 0 ((0, n9), r, f) H locs ls (by omega) hR hl hP hS

set_option maxHeartbeats 4000000 in
set_option maxRecDepth 100000 in
theorem m_Li_runUpTo_Se (l : Launch) (D : va_G) (cI cJ cZ cO : ClassId) (a n : Nat) (mo na aa bb : Nat → Int32) (re : Nat → Int64) (ef : Nat → Int32) (b : Nat) (cn : Int32) (ld : Nat → Int32) (r : Int64) (f : Int32) (t : Int32) (hab : b + 2 ≤ a ∨ a + 7 ≤ b) (hn : n ≤ 32) (hop : ∀ i, i < n → ∃ x y : Nat, x < 16 ∧ y < 16 ∧ aa i = nI x ∧ bb i = nI y) (R : (Int32 × (Nat → Int32)) × Int64 × Int32) (hR : rut (fun _ x y => seS x y) mo na aa bb t n 0 ((16, sal 16 0 ld), r, f) = R) : Met l y_Li_runUpTo (k_Li_runUpTo :: gt) rm_Li_runUpTo (Pc0 D cI cJ cZ cO [.ref a, .int t, .ref b] (fun H => va_P D cls (wLi cI cJ cZ a n mo na aa bb re ef ++ wSe cI b cn ld r f) H)) (Qd (blk b 2) none (fun H => va_P D cls (wLi cI cJ cZ a n mo na aa bb re ef ++ wSe cI b R.1.1 R.1.2 R.2.1 R.2.2) H)) 0 0 (blk b 2) := by
  refine Met.ofW (cc := c_Li_runUpTo) (maxL := 4) (ret := none) (by decide) rfl ?_
  intro p e s m args below meth c s₁ B hml hv
  obtain ⟨rfl, hKn, hP⟩ := hv
  have hx := B.exec
  have hb := B.bytes
  have hr := B.returns
  have hts := atoms_spec (ws := k_Li_runUpTo :: gt) B.pre
  have hg : ∀ w ∈ gt, w.before _ s = true := fun w h => hts w (List.mem_cons_of_mem _ h)
  have hown : s.vm.findClass R_Li = some m.cls := findClass_of_methodNamed B.named
  have hlocks := B.notSynchronized
  have hK := hKn.1
  have hl := lv_entry ([.ref a, .int t, .ref b]) (n := 4) (Nat.le_of_ble_eq_true rfl)
  rw [lg_entry_eq]
  generalize (lg_sl ([.ref a, .int t, .ref b]) ++ List.replicate (4 - (lg_sl ([.ref a, .int t, .ref b])).length) Slot.unset).toArray = ls at hl ⊢
  have hl : lv_has ls 4 [(0, .ref a), (1, .int t), (2, .ref b)] := hl
  have hS : va_S (blk b 2) s.heap s.heap [] := va_S.rf
  refine lv_aload_n hx hb d_Li_runUpTo_0 rfl (lv_at hl 2 rfl) ?_
  refine ep_callH (ep_toC (va_runU (As := []) (rest := []) ⟨hx, hb, hml, hown, hg⟩ (m_Se_clear l D cI cJ cZ cO b cn ld r f) (ep_cwA (owner := "EditablePast$Contents") 0 hg tw_420 tw_422 tw_430 tw_431 tw_11 tk_Se_clear rfl rfl (hKn.2.2.1 _ (by decide +kernel)) (by decide +kernel) ⟨(Nat.le_of_ble_eq_true rfl), (Nat.le_of_ble_eq_true rfl)⟩) ⟨ep_blind, va_recv (q0 := 7) (ci := 7) hK hP rfl rfl, ep_pre hKn (wo_r hP)⟩ rfl rfl hl.1 rfl (lv_room (Nat.le_of_ble_eq_true rfl)) d_Li_runUpTo_1 ⟨Nat.zero_le _, Nat.zero_le _⟩)) hS (fun q h => h) (fun H locs hsz9 hk1 hP1 hS => ?_)
  refine W.eq (g2 := F0 m 4 ls []) rfl ?_
  have hP := (wo_kc (wo_l hP) hk1 (wLi_off (show a + 7 ≤ b ∨ b + 2 ≤ a from hab.symm))).app hP1
  have hP : va_P D cls (wLi cI cJ cZ a n mo na aa bb re ef ++ wSe cI b 16 (sal 16 0 ld) r f) H := hP
  refine lv_iconst (v := 0) hx hb d_Li_runUpTo_4 (by decide) ?_
  refine lv_topi (fun z0 e_z0 => ?_)
  obtain rfl : z0 = nI 0 := by rw [e_z0]; exact nI_0.symm
  refine lv_istore_n (lv' := [(3, .int (nI 0)), (0, .ref a), (1, .int t), (2, .ref b)]) hx hb d_Li_runUpTo_5 rfl hl (by decide) rfl (fun ls hl => ?_)
  have key : ∀ (k i : Nat) (st : (Int32 × (Nat → Int32)) × Int64 × Int32) (H : Heap) (locs : List Loc) (ls : Array Slot), i + k = n → rut (fun _ x y => seS x y) mo na aa bb t k i st = R → lv_has ls 4 [(3, .int (nI i)), (0, .ref a), (1, .int t), (2, .ref b)] → va_P D cls (wLi cI cJ cZ a n mo na aa bb re ef ++ wSe cI b st.1.1 st.1.2 st.2.1 st.2.2) H → va_S (blk b 2) s.heap H locs → W p l e (headSpec (k_Li_runUpTo :: gt) rm_Li_runUpTo).room s m ([.ref a, .int t, .ref b] : List Value).toArray below meth c H locs 0 0 (MQ below (Qd (blk b 2) none (fun H => va_P D cls (wLi cI cJ cZ a n mo na aa bb re ef ++ wSe cI b R.1.1 R.1.2 R.2.1 R.2.2) H)) ([.ref a, .int t, .ref b] : List Value).toArray s 0 0 (blk b 2)) (F0 m 6 ls []) := by
    intro k
    induction k with
    | zero =>
      intro i st H locs ls hi q0 hl hP hS
      obtain rfl : st = R := q0
      refine lv_iload_n hx hb d_Li_runUpTo_6 rfl (lv_at hl 0 rfl) ?_
      refine lv_aload_n hx hb d_Li_runUpTo_7 rfl (lv_at hl 1 rfl) ?_
      refine va_get (D := D) (ci := 1) (v := .int (nI n)) (C := R_Li) (T := F_Li) (N := 7) hx hb hg in_Li hown hK hP 0 rfl rfl 0 (Nat.le_of_ble_eq_true rfl) (hg _ tw_43) (fun _ h9 => h9) rfl d_Li_runUpTo_8 ?_
      refine lv_icmp_ge (tgt := 52) hx hb d_Li_runUpTo_11 (by decide) (fun hc => ?_) (fun hc => absurd (nI_le (by omega) (by omega)) hc)
      exact W.vret hx hb hr (fun t9 ht hW => ⟨rfl, hS.F ht, by rw [ht]; exact hP⟩) hS.2.2 d_Li_runUpTo_52
    | succ k ih =>
      intro i st H locs ls hi q0 hl hP hS
      unfold rut at q0
      refine lv_iload_n hx hb d_Li_runUpTo_6 rfl (lv_at hl 0 rfl) ?_
      refine lv_aload_n hx hb d_Li_runUpTo_7 rfl (lv_at hl 1 rfl) ?_
      refine va_get (D := D) (ci := 1) (v := .int (nI n)) (C := R_Li) (T := F_Li) (N := 7) hx hb hg in_Li hown hK hP 0 rfl rfl 0 (Nat.le_of_ble_eq_true rfl) (hg _ tw_43) (fun _ h9 => h9) rfl d_Li_runUpTo_8 ?_
      refine lv_icmp_ge (tgt := 52) hx hb d_Li_runUpTo_11 (by decide) (fun hc => absurd hc (nI_ge (by omega) (by omega))) (fun hc => ?_)
      refine lv_aload_n hx hb d_Li_runUpTo_14 rfl (lv_at hl 1 rfl) ?_
      refine va_get (D := D) (ci := 1) (v := .ref (a + 1)) (C := R_Li) (T := F_Li) (N := 7) hx hb hg in_Li hown hK hP 0 rfl rfl 1 (Nat.le_of_ble_eq_true rfl) (hg _ tw_45) (fun _ h9 => h9) rfl d_Li_runUpTo_15 ?_
      refine lv_iload_n hx hb d_Li_runUpTo_18 rfl (lv_at hl 0 rfl) ?_
      refine ep_iald hx hb hK hP 1 0 rfl rfl (i := i) (by omega) (by decide) d_Li_runUpTo_19 ?_
      refine lv_iload_n hx hb d_Li_runUpTo_20 rfl (lv_at hl 2 rfl) ?_
      refine lv_icmp_gt (tgt := 52) hx hb d_Li_runUpTo_21 (by decide) (fun hc => ?_) (fun hc => ?_)
      · rw [if_neg (k2_nle hc)] at q0
        obtain rfl : st = R := q0
        exact W.vret hx hb hr (fun t9 ht hW => ⟨rfl, hS.F ht, by rw [ht]; exact hP⟩) hS.2.2 d_Li_runUpTo_52
      · rw [if_pos (Int32.not_lt.mp hc)] at q0
        refine lv_aload_n hx hb d_Li_runUpTo_24 rfl (lv_at hl 3 rfl) ?_
        refine lv_aload_n hx hb d_Li_runUpTo_25 rfl (lv_at hl 1 rfl) ?_
        refine va_get (D := D) (ci := 1) (v := .ref (a + 2)) (C := R_Li) (T := F_Li) (N := 7) hx hb hg in_Li hown hK hP 0 rfl rfl 2 (Nat.le_of_ble_eq_true rfl) (hg _ tw_47) (fun _ h9 => h9) rfl d_Li_runUpTo_26 ?_
        refine lv_iload_n hx hb d_Li_runUpTo_29 rfl (lv_at hl 0 rfl) ?_
        refine ep_iald hx hb hK hP 2 0 rfl rfl (i := i) (by omega) (by decide) d_Li_runUpTo_30 ?_
        refine lv_aload_n hx hb d_Li_runUpTo_31 rfl (lv_at hl 1 rfl) ?_
        refine va_get (D := D) (ci := 1) (v := .ref (a + 3)) (C := R_Li) (T := F_Li) (N := 7) hx hb hg in_Li hown hK hP 0 rfl rfl 3 (Nat.le_of_ble_eq_true rfl) (hg _ tw_49) (fun _ h9 => h9) rfl d_Li_runUpTo_32 ?_
        refine lv_iload_n hx hb d_Li_runUpTo_35 rfl (lv_at hl 0 rfl) ?_
        refine ep_iald hx hb hK hP 3 0 rfl rfl (i := i) (by omega) (by decide) d_Li_runUpTo_36 ?_
        refine lv_aload_n hx hb d_Li_runUpTo_37 rfl (lv_at hl 1 rfl) ?_
        refine va_get (D := D) (ci := 1) (v := .ref (a + 4)) (C := R_Li) (T := F_Li) (N := 7) hx hb hg in_Li hown hK hP 0 rfl rfl 4 (Nat.le_of_ble_eq_true rfl) (hg _ tw_51) (fun _ h9 => h9) rfl d_Li_runUpTo_38 ?_
        refine lv_iload_n hx hb d_Li_runUpTo_41 rfl (lv_at hl 0 rfl) ?_
        refine ep_iald hx hb hK hP 4 0 rfl rfl (i := i) (by omega) (by decide) d_Li_runUpTo_42 ?_
        refine ep_callH (ep_toC (va_runU (As := [.int (na i), .int (aa i), .int (bb i)]) (rest := []) ⟨hx, hb, hml, hown, hg⟩ (m_Se_perform l D cI cJ cZ cO b st.1.1 st.1.2 st.2.1 st.2.2 (na i) (aa i) (bb i) (hop i (by omega))) (ep_cwA (owner := "EditablePast$Contents") 3 hg tw_437 tw_439 tw_489 tw_490 tw_11 tk_Se_perform rfl rfl (hKn.2.2.1 _ (by decide +kernel)) (by decide +kernel) ⟨(Nat.le_of_ble_eq_true rfl), (Nat.le_of_ble_eq_true rfl)⟩) ⟨ep_blind, va_recv (q0 := 7) (ci := 7) hK hP rfl rfl, ep_pre hKn (wo_r hP)⟩ rfl rfl hl.1 rfl (lv_room (Nat.le_of_ble_eq_true rfl)) d_Li_runUpTo_43 ⟨Nat.zero_le _, Nat.zero_le _⟩)) hS (fun q h => h) (fun H locs hsz9 hk1 hP1 hS => ?_)
        refine W.eq (g2 := F0 m 46 ls []) rfl ?_
        have hP := (wo_kc (wo_l hP) hk1 (wLi_off (show a + 7 ≤ b ∨ b + 2 ≤ a from hab.symm))).app hP1
        have hP : va_P D cls (wLi cI cJ cZ a n mo na aa bb re ef ++ wSe cI b ((seS (aa i) (bb i) st.1).1.1) ((seS (aa i) (bb i) st.1).1.2) ((seS (aa i) (bb i) st.1).2.1) ((seS (aa i) (bb i) st.1).2.2)) H := hP
        refine lv_iinc (k := 0) (lv' := [(3, .int (nI (i + 1))), (0, .ref a), (1, .int t), (2, .ref b)]) hx hb d_Li_runUpTo_46 hl rfl (inc1 _) (by decide) rfl (fun ls hl => ?_)
        refine lv_goto (tgt := 6) hx hb d_Li_runUpTo_49 (by decide) ?_
        exact ih (i + 1) (seS (aa i) (bb i) st.1) H locs ls (by omega) q0 (lv_sub hl [0, 1, 2, 3] rfl) hP hS
  exact key n 0 ((16, sal 16 0 ld), r, f) H locs ls (by omega) hR hl hP hS
