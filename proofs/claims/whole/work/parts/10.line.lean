/-! contracts of EditablePast$Line (by wip/whole/gen/line.py) -/
set_option maxHeartbeats 4000000 in
set_option maxRecDepth 100000 in
theorem m_Li_placeFrom (l : Launch) (D : va_G) (cI cJ cZ cO : ClassId) (a n : Nat) (mo na aa bb : Nat → Int32) (re : Nat → Int64) (ef : Nat → Int32) (t : Int32) (hn : n ≤ 32) : Met l y_Li_placeFrom (k_Li_placeFrom :: gt) rm_Li_placeFrom (Pc0 D cI cJ cZ cO [.ref a, .int t] (fun H => va_P D cls (wLi cI cJ cZ a n mo na aa bb re ef) H)) (Qp (some (.int (nI (pfr mo t n 0))))) 0 0 (fun _ => False) := by
  refine Met.ofW (cc := c_Li_placeFrom) (maxL := 3) (ret := (Option.some FieldType.int)) (by decide) rfl ?_
  intro p e s m args below meth c s₁ B hml hv
  obtain ⟨rfl, hKn, hP⟩ := hv
  have hx := B.exec
  have hb := B.bytes
  have hr := B.returns
  have hts := atoms_spec (ws := k_Li_placeFrom :: gt) B.pre
  have hg : ∀ w ∈ gt, w.before _ s = true := fun w h => hts w (List.mem_cons_of_mem _ h)
  have hown : s.vm.findClass R_Li = some m.cls := findClass_of_methodNamed B.named
  have hlocks := B.notSynchronized
  have hK := hKn.1
  have hl := lv_entry ([.ref a, .int t]) (n := 3) (Nat.le_of_ble_eq_true rfl)
  rw [lg_entry_eq]
  generalize (lg_sl ([.ref a, .int t]) ++ List.replicate (3 - (lg_sl ([.ref a, .int t])).length) Slot.unset).toArray = ls at hl ⊢
  have hl : lv_has ls 3 [(0, .ref a), (1, .int t)] := hl
  refine lv_iconst (v := 0) hx hb d_Li_placeFrom_0 (by decide) ?_
  refine lv_topi (fun z0 e_z0 => ?_)
  obtain rfl : z0 = nI 0 := by rw [e_z0]; exact nI_0.symm
  refine lv_istore_n (lv' := [(2, .int (nI 0)), (0, .ref a), (1, .int t)]) hx hb d_Li_placeFrom_1 rfl hl (by decide) rfl (fun ls hl => ?_)
  have key : ∀ (k i : Nat) (ls : Array Slot), i + k = n → pfr mo t k i = pfr mo t n 0 → lv_has ls 3 [(2, .int (nI i)), (0, .ref a), (1, .int t)] → W p l e (headSpec (k_Li_placeFrom :: gt) rm_Li_placeFrom).room s m ([.ref a, .int t] : List Value).toArray below meth c s.heap [] 0 0 (MQ below (Qp (some (.int (nI (pfr mo t n 0))))) ([.ref a, .int t] : List Value).toArray s 0 0 (fun _ => False)) (F0 m 2 ls []) := by
    intro k
    induction k with
    | zero =>
      intro i ls hi hq hl
      refine lv_iload_n hx hb d_Li_placeFrom_2 rfl (lv_at hl 0 rfl) ?_
      refine lv_aload_n hx hb d_Li_placeFrom_3 rfl (lv_at hl 1 rfl) ?_
      refine va_get (D := D) (ci := 1) (v := .int (nI n)) (C := R_Li) (T := F_Li) (N := 7) hx hb hg in_Li hown hK hP 0 rfl rfl 0 (Nat.le_of_ble_eq_true rfl) (hg _ tw_43) (fun _ h9 => h9) rfl d_Li_placeFrom_4 ?_
      refine lv_icmp_ge (tgt := 26) hx hb d_Li_placeFrom_7 (by decide) (fun hc => ?_) (fun hc => absurd (nI_le (by omega) (by omega)) hc)
      refine lv_iload_n hx hb d_Li_placeFrom_26 rfl (lv_at hl 0 rfl) ?_
      exact W.iret (v := nI i) hx hb hr (fun t9 ht hW => ⟨by rw [← hq]; rfl, ht⟩) (fun q h => nomatch h) d_Li_placeFrom_27
    | succ k ih =>
      intro i ls hi hq hl
      have hq : (if mo i < t then pfr mo t k (i + 1) else i) = pfr mo t n 0 := hq
      refine lv_iload_n hx hb d_Li_placeFrom_2 rfl (lv_at hl 0 rfl) ?_
      refine lv_aload_n hx hb d_Li_placeFrom_3 rfl (lv_at hl 1 rfl) ?_
      refine va_get (D := D) (ci := 1) (v := .int (nI n)) (C := R_Li) (T := F_Li) (N := 7) hx hb hg in_Li hown hK hP 0 rfl rfl 0 (Nat.le_of_ble_eq_true rfl) (hg _ tw_43) (fun _ h9 => h9) rfl d_Li_placeFrom_4 ?_
      refine lv_icmp_ge (tgt := 26) hx hb d_Li_placeFrom_7 (by decide) (fun hc => absurd hc (nI_ge (by omega) (by omega))) (fun hc => ?_)
      refine lv_aload_n hx hb d_Li_placeFrom_10 rfl (lv_at hl 1 rfl) ?_
      refine va_get (D := D) (ci := 1) (v := .ref (a + 1)) (C := R_Li) (T := F_Li) (N := 7) hx hb hg in_Li hown hK hP 0 rfl rfl 1 (Nat.le_of_ble_eq_true rfl) (hg _ tw_45) (fun _ h9 => h9) rfl d_Li_placeFrom_11 ?_
      refine lv_iload_n hx hb d_Li_placeFrom_14 rfl (lv_at hl 0 rfl) ?_
      refine ep_iald hx hb hK hP 1 0 rfl rfl (i := i) (by omega) (by decide) d_Li_placeFrom_15 ?_
      refine lv_iload_n hx hb d_Li_placeFrom_16 rfl (lv_at hl 2 rfl) ?_
      refine lv_icmp_ge (tgt := 26) hx hb d_Li_placeFrom_17 (by decide) (fun hc => ?_) (fun hc => ?_)
      · rw [if_neg (k2_nlt hc)] at hq
        refine lv_iload_n hx hb d_Li_placeFrom_26 rfl (lv_at hl 0 rfl) ?_
        exact W.iret (v := nI i) hx hb hr (fun t9 ht hW => ⟨by rw [← hq], ht⟩) (fun q h => nomatch h) d_Li_placeFrom_27
      · rw [if_pos (k2_lt hc)] at hq
        refine lv_iinc (k := 0) (lv' := [(2, .int (nI (i + 1))), (0, .ref a), (1, .int t)]) hx hb d_Li_placeFrom_20 hl rfl (inc1 _) (by decide) rfl (fun ls hl => ?_)
        refine lv_goto (tgt := 2) hx hb d_Li_placeFrom_23 (by decide) ?_
        exact ih (i + 1) ls (by omega) hq hl
  exact key n 0 ls (by omega) rfl hl

set_option maxHeartbeats 4000000 in
set_option maxRecDepth 100000 in
theorem m_Li_placeAt (l : Launch) (D : va_G) (cI cJ cZ cO : ClassId) (a n : Nat) (mo na aa bb : Nat → Int32) (re : Nat → Int64) (ef : Nat → Int32) (t : Int32) (hn : n ≤ 32) : Met l y_Li_placeAt (k_Li_placeAt :: gt) rm_Li_placeAt (Pc0 D cI cJ cZ cO [.ref a, .int t] (fun H => va_P D cls (wLi cI cJ cZ a n mo na aa bb re ef) H)) (Qp (some (.int (pat mo t n)))) 0 0 (fun _ => False) := by
  refine Met.ofW (cc := c_Li_placeAt) (maxL := 3) (ret := (Option.some FieldType.int)) (by decide) rfl ?_
  intro p e s m args below meth c s₁ B hml hv
  obtain ⟨rfl, hKn, hP⟩ := hv
  have hx := B.exec
  have hb := B.bytes
  have hr := B.returns
  have hts := atoms_spec (ws := k_Li_placeAt :: gt) B.pre
  have hg : ∀ w ∈ gt, w.before _ s = true := fun w h => hts w (List.mem_cons_of_mem _ h)
  have hown : s.vm.findClass R_Li = some m.cls := findClass_of_methodNamed B.named
  have hlocks := B.notSynchronized
  have hK := hKn.1
  have hl := lv_entry ([.ref a, .int t]) (n := 3) (Nat.le_of_ble_eq_true rfl)
  rw [lg_entry_eq]
  generalize (lg_sl ([.ref a, .int t]) ++ List.replicate (3 - (lg_sl ([.ref a, .int t])).length) Slot.unset).toArray = ls at hl ⊢
  have hl : lv_has ls 3 [(0, .ref a), (1, .int t)] := hl
  refine lv_aload_n hx hb d_Li_placeAt_0 rfl (lv_at hl 0 rfl) ?_
  refine lv_iload_n hx hb d_Li_placeAt_1 rfl (lv_at hl 1 rfl) ?_
  refine ep_callP (W.runV (As := [.int t]) (rest := []) ⟨hx, hb, hml, hown, hg⟩ (m_Li_placeFrom l D cI cJ cZ cO a n mo na aa bb re ef t hn) (ep_cwV 1 hg tw_352 tw_353 tw_354 tw_3 tk_Li_placeFrom rfl rfl (by decide +kernel) ⟨(Nat.le_of_ble_eq_true rfl), (Nat.le_of_ble_eq_true rfl)⟩) ⟨ep_blind, va_recv (q0 := 0) (ci := 1) hK hP rfl rfl, ep_pre hKn (hP)⟩ rfl rfl hl.1 rfl (lv_room (Nat.le_of_ble_eq_true rfl)) d_Li_placeAt_2 ⟨Nat.zero_le _, Nat.zero_le _⟩) ?_
  refine W.eq (g2 := F0 m 5 ls [.int (nI (pfr mo t n 0))]) rfl ?_
  have hp0 := pfr_le mo t n 0
  unfold pat
  generalize hp1 : pfr mo t n 0 = r at hp0 ⊢
  refine lv_istore_n (lv' := [(2, .int (nI r)), (0, .ref a), (1, .int t)]) hx hb d_Li_placeAt_5 rfl hl (by decide) rfl (fun ls hl => ?_)
  refine lv_iload_n hx hb d_Li_placeAt_6 rfl (lv_at hl 0 rfl) ?_
  refine lv_aload_n hx hb d_Li_placeAt_7 rfl (lv_at hl 1 rfl) ?_
  refine va_get (D := D) (ci := 1) (v := .int (nI n)) (C := R_Li) (T := F_Li) (N := 7) hx hb hg in_Li hown hK hP 0 rfl rfl 0 (Nat.le_of_ble_eq_true rfl) (hg _ tw_43) (fun _ h9 => h9) rfl d_Li_placeAt_8 ?_
  refine lv_icmp_ge (tgt := 28) hx hb d_Li_placeAt_11 (by decide) (fun hc => ?_) (fun hc => ?_)
  · refine lv_iconst (v := (-1)) hx hb d_Li_placeAt_28 (by decide) ?_
    exact W.iret (v := -1) hx hb hr (fun t9 ht hW => ⟨by rw [if_neg (fun h => nI_ge h (by omega) hc)], ht⟩) (fun q h => nomatch h) d_Li_placeAt_29
  · have hlt : r < n := by rcases Nat.lt_or_ge r n with h | h; exact h; exact absurd (nI_le h (by omega)) hc
    refine lv_aload_n hx hb d_Li_placeAt_14 rfl (lv_at hl 1 rfl) ?_
    refine va_get (D := D) (ci := 1) (v := .ref (a + 1)) (C := R_Li) (T := F_Li) (N := 7) hx hb hg in_Li hown hK hP 0 rfl rfl 1 (Nat.le_of_ble_eq_true rfl) (hg _ tw_45) (fun _ h9 => h9) rfl d_Li_placeAt_15 ?_
    refine lv_iload_n hx hb d_Li_placeAt_18 rfl (lv_at hl 0 rfl) ?_
    refine ep_iald hx hb hK hP 1 0 rfl rfl (i := r) (by omega) (by decide) d_Li_placeAt_19 ?_
    refine lv_iload_n hx hb d_Li_placeAt_20 rfl (lv_at hl 2 rfl) ?_
    refine lv_icmp_ne (tgt := 28) hx hb d_Li_placeAt_21 (by decide) (fun hc => ?_) (fun hc => ?_)
    · refine lv_iconst (v := (-1)) hx hb d_Li_placeAt_28 (by decide) ?_
      exact W.iret (v := -1) hx hb hr (fun t9 ht hW => ⟨by rw [if_pos hlt, if_neg hc], ht⟩) (fun q h => nomatch h) d_Li_placeAt_29
    · refine lv_iload_n hx hb d_Li_placeAt_24 rfl (lv_at hl 0 rfl) ?_
      refine lv_goto (tgt := 29) hx hb d_Li_placeAt_25 (by decide) ?_
      exact W.iret (v := nI r) hx hb hr (fun t9 ht hW => ⟨by rw [if_pos hlt, if_pos hc], ht⟩) (fun q h => nomatch h) d_Li_placeAt_29

set_option maxHeartbeats 4000000 in
set_option maxRecDepth 100000 in
theorem m_Li_momentOrNever (l : Launch) (D : va_G) (cI cJ cZ cO : ClassId) (a n : Nat) (mo na aa bb : Nat → Int32) (re : Nat → Int64) (ef : Nat → Int32) (i : Nat) (hn : n ≤ 32) (hi : i ≤ n) : Met l y_Li_momentOrNever (k_Li_momentOrNever :: gt) rm_Li_momentOrNever (Pc0 D cI cJ cZ cO [.ref a, .int (nI i)] (fun H => va_P D cls (wLi cI cJ cZ a n mo na aa bb re ef) H)) (Qp (some (.int (if i < n then mo i else 1000000001)))) 0 0 (fun _ => False) := by
  refine Met.ofW (cc := c_Li_momentOrNever) (maxL := 2) (ret := (Option.some FieldType.int)) (by decide) rfl ?_
  intro p e s m args below meth c s₁ B hml hv
  obtain ⟨rfl, hKn, hP⟩ := hv
  have hx := B.exec
  have hb := B.bytes
  have hr := B.returns
  have hts := atoms_spec (ws := k_Li_momentOrNever :: gt) B.pre
  have hg : ∀ w ∈ gt, w.before _ s = true := fun w h => hts w (List.mem_cons_of_mem _ h)
  have hown : s.vm.findClass R_Li = some m.cls := findClass_of_methodNamed B.named
  have hlocks := B.notSynchronized
  have hK := hKn.1
  have hl := lv_entry ([.ref a, .int (nI i)]) (n := 2) (Nat.le_of_ble_eq_true rfl)
  rw [lg_entry_eq]
  generalize (lg_sl ([.ref a, .int (nI i)]) ++ List.replicate (2 - (lg_sl ([.ref a, .int (nI i)])).length) Slot.unset).toArray = ls at hl ⊢
  have hl : lv_has ls 2 [(0, .ref a), (1, .int (nI i))] := hl
  refine lv_iload_n hx hb d_Li_momentOrNever_0 rfl (lv_at hl 1 rfl) ?_
  refine lv_aload_n hx hb d_Li_momentOrNever_1 rfl (lv_at hl 0 rfl) ?_
  refine va_get (D := D) (ci := 1) (v := .int (nI n)) (C := R_Li) (T := F_Li) (N := 7) hx hb hg in_Li hown hK hP 0 rfl rfl 0 (Nat.le_of_ble_eq_true rfl) (hg _ tw_43) (fun _ h9 => h9) rfl d_Li_momentOrNever_2 ?_
  refine lv_icmp_ge (tgt := 17) hx hb d_Li_momentOrNever_5 (by decide) (fun hc => ?_) (fun hc => ?_)
  · refine lv_ldc (v := 1000000001) hx hb hown (hg _ tw_680) d_Li_momentOrNever_17 ?_
    exact W.iret (v := 1000000001) hx hb hr (fun t9 ht hW => ⟨by rw [if_neg (fun h => nI_ge h (by omega) hc)], ht⟩) (fun q h => nomatch h) d_Li_momentOrNever_19
  · have hlt : i < n := by rcases Nat.lt_or_ge i n with h | h; exact h; exact absurd (nI_le h (by omega)) hc
    refine lv_aload_n hx hb d_Li_momentOrNever_8 rfl (lv_at hl 0 rfl) ?_
    refine va_get (D := D) (ci := 1) (v := .ref (a + 1)) (C := R_Li) (T := F_Li) (N := 7) hx hb hg in_Li hown hK hP 0 rfl rfl 1 (Nat.le_of_ble_eq_true rfl) (hg _ tw_45) (fun _ h9 => h9) rfl d_Li_momentOrNever_9 ?_
    refine lv_iload_n hx hb d_Li_momentOrNever_12 rfl (lv_at hl 1 rfl) ?_
    refine ep_iald hx hb hK hP 1 0 rfl rfl (i := i) (by omega) (by decide) d_Li_momentOrNever_13 ?_
    refine lv_goto (tgt := 19) hx hb d_Li_momentOrNever_14 (by decide) ?_
    exact W.iret (v := mo i) hx hb hr (fun t9 ht hW => ⟨by rw [if_pos hlt], ht⟩) (fun q h => nomatch h) d_Li_momentOrNever_19

set_option maxHeartbeats 4000000 in
set_option maxRecDepth 100000 in
theorem m_Li_copyOperation (l : Launch) (D : va_G) (cI cJ cZ cO : ClassId) (a n : Nat) (mo na aa bb : Nat → Int32) (re : Nat → Int64) (ef : Nat → Int32) (f g : Nat) (hf : f < 32) (hg9 : g < 32) (hz : vp_nar .boolean (ef f) = ef f) : Met l y_Li_copyOperation (k_Li_copyOperation :: gt) rm_Li_copyOperation (Pc0 D cI cJ cZ cO [.ref a, .ref a, .int (nI f), .int (nI g)] (fun H => va_P D cls (wLi cI cJ cZ a n mo na aa bb re ef) H)) (Qd (blk a 7) none (fun H => va_P D cls (wLi cI cJ cZ a n (upd mo g (mo f)) (upd na g (na f)) (upd aa g (aa f)) (upd bb g (bb f)) (vp_updL re g (re f)) (upd ef g (ef f))) H)) 0 0 (blk a 7) := by
  refine Met.ofW (cc := c_Li_copyOperation) (maxL := 4) (ret := none) (by decide) rfl ?_
  intro p e s m args below meth c s₁ B hml hv
  obtain ⟨rfl, hKn, hP⟩ := hv
  have hx := B.exec
  have hb := B.bytes
  have hr := B.returns
  have hts := atoms_spec (ws := k_Li_copyOperation :: gt) B.pre
  have hg : ∀ w ∈ gt, w.before _ s = true := fun w h => hts w (List.mem_cons_of_mem _ h)
  have hown : s.vm.findClass R_Li = some m.cls := findClass_of_methodNamed B.named
  have hlocks := B.notSynchronized
  have hK := hKn.1
  have hl := lv_entry ([.ref a, .ref a, .int (nI f), .int (nI g)]) (n := 4) (Nat.le_of_ble_eq_true rfl)
  rw [lg_entry_eq]
  generalize (lg_sl ([.ref a, .ref a, .int (nI f), .int (nI g)]) ++ List.replicate (4 - (lg_sl ([.ref a, .ref a, .int (nI f), .int (nI g)])).length) Slot.unset).toArray = ls at hl ⊢
  have hl : lv_has ls 4 [(0, .ref a), (1, .ref a), (2, .int (nI f)), (3, .int (nI g))] := hl
  have hS : va_S (blk a 7) s.heap s.heap [] := va_S.rf
  have hD : va_D (blk a 7) (wLi cI cJ cZ a n mo na aa bb re ef) := wLi_D
  refine lv_aload_n hx hb d_Li_copyOperation_0 rfl (lv_at hl 0 rfl) ?_
  refine va_get (D := D) (ci := 1) (v := .ref (a + 1)) (C := R_Li) (T := F_Li) (N := 7) hx hb hg in_Li hown hK hP 0 rfl rfl 1 (Nat.le_of_ble_eq_true rfl) (hg _ tw_45) (fun _ h9 => h9) rfl d_Li_copyOperation_1 ?_
  refine lv_iload_n hx hb d_Li_copyOperation_4 rfl (lv_at hl 3 rfl) ?_
  refine lv_aload_n hx hb d_Li_copyOperation_5 rfl (lv_at hl 1 rfl) ?_
  refine va_get (D := D) (ci := 1) (v := .ref (a + 1)) (C := R_Li) (T := F_Li) (N := 7) hx hb hg in_Li hown hK hP 0 rfl rfl 1 (Nat.le_of_ble_eq_true rfl) (hg _ tw_45) (fun _ h9 => h9) rfl d_Li_copyOperation_6 ?_
  refine lv_iload_n hx hb d_Li_copyOperation_9 rfl (lv_at hl 2 rfl) ?_
  refine ep_iald hx hb hK hP 1 0 rfl rfl (i := f) (by omega) (by decide) d_Li_copyOperation_10 ?_
  refine ep_iast hx hb hK hP hD hS 1 0 rfl rfl (i := g) (x := (mo f)) (by omega) (by decide) d_Li_copyOperation_11 (fun H locs hP hD hS => ?_)
  have hP : va_P D cls (wLi cI cJ cZ a n (upd mo g (mo f)) na aa bb re ef) H := hP
  have hD : va_D (blk a 7) (wLi cI cJ cZ a n (upd mo g (mo f)) na aa bb re ef) := hD
  refine lv_aload_n hx hb d_Li_copyOperation_12 rfl (lv_at hl 0 rfl) ?_
  refine va_get (D := D) (ci := 1) (v := .ref (a + 2)) (C := R_Li) (T := F_Li) (N := 7) hx hb hg in_Li hown hK hP 0 rfl rfl 2 (Nat.le_of_ble_eq_true rfl) (hg _ tw_47) (fun _ h9 => h9) rfl d_Li_copyOperation_13 ?_
  refine lv_iload_n hx hb d_Li_copyOperation_16 rfl (lv_at hl 3 rfl) ?_
  refine lv_aload_n hx hb d_Li_copyOperation_17 rfl (lv_at hl 1 rfl) ?_
  refine va_get (D := D) (ci := 1) (v := .ref (a + 2)) (C := R_Li) (T := F_Li) (N := 7) hx hb hg in_Li hown hK hP 0 rfl rfl 2 (Nat.le_of_ble_eq_true rfl) (hg _ tw_47) (fun _ h9 => h9) rfl d_Li_copyOperation_18 ?_
  refine lv_iload_n hx hb d_Li_copyOperation_21 rfl (lv_at hl 2 rfl) ?_
  refine ep_iald hx hb hK hP 2 0 rfl rfl (i := f) (by omega) (by decide) d_Li_copyOperation_22 ?_
  refine ep_iast hx hb hK hP hD hS 2 0 rfl rfl (i := g) (x := (na f)) (by omega) (by decide) d_Li_copyOperation_23 (fun H locs hP hD hS => ?_)
  have hP : va_P D cls (wLi cI cJ cZ a n (upd mo g (mo f)) (upd na g (na f)) aa bb re ef) H := hP
  have hD : va_D (blk a 7) (wLi cI cJ cZ a n (upd mo g (mo f)) (upd na g (na f)) aa bb re ef) := hD
  refine lv_aload_n hx hb d_Li_copyOperation_24 rfl (lv_at hl 0 rfl) ?_
  refine va_get (D := D) (ci := 1) (v := .ref (a + 3)) (C := R_Li) (T := F_Li) (N := 7) hx hb hg in_Li hown hK hP 0 rfl rfl 3 (Nat.le_of_ble_eq_true rfl) (hg _ tw_49) (fun _ h9 => h9) rfl d_Li_copyOperation_25 ?_
  refine lv_iload_n hx hb d_Li_copyOperation_28 rfl (lv_at hl 3 rfl) ?_
  refine lv_aload_n hx hb d_Li_copyOperation_29 rfl (lv_at hl 1 rfl) ?_
  refine va_get (D := D) (ci := 1) (v := .ref (a + 3)) (C := R_Li) (T := F_Li) (N := 7) hx hb hg in_Li hown hK hP 0 rfl rfl 3 (Nat.le_of_ble_eq_true rfl) (hg _ tw_49) (fun _ h9 => h9) rfl d_Li_copyOperation_30 ?_
  refine lv_iload_n hx hb d_Li_copyOperation_33 rfl (lv_at hl 2 rfl) ?_
  refine ep_iald hx hb hK hP 3 0 rfl rfl (i := f) (by omega) (by decide) d_Li_copyOperation_34 ?_
  refine ep_iast hx hb hK hP hD hS 3 0 rfl rfl (i := g) (x := (aa f)) (by omega) (by decide) d_Li_copyOperation_35 (fun H locs hP hD hS => ?_)
  have hP : va_P D cls (wLi cI cJ cZ a n (upd mo g (mo f)) (upd na g (na f)) (upd aa g (aa f)) bb re ef) H := hP
  have hD : va_D (blk a 7) (wLi cI cJ cZ a n (upd mo g (mo f)) (upd na g (na f)) (upd aa g (aa f)) bb re ef) := hD
  refine lv_aload_n hx hb d_Li_copyOperation_36 rfl (lv_at hl 0 rfl) ?_
  refine va_get (D := D) (ci := 1) (v := .ref (a + 4)) (C := R_Li) (T := F_Li) (N := 7) hx hb hg in_Li hown hK hP 0 rfl rfl 4 (Nat.le_of_ble_eq_true rfl) (hg _ tw_51) (fun _ h9 => h9) rfl d_Li_copyOperation_37 ?_
  refine lv_iload_n hx hb d_Li_copyOperation_40 rfl (lv_at hl 3 rfl) ?_
  refine lv_aload_n hx hb d_Li_copyOperation_41 rfl (lv_at hl 1 rfl) ?_
  refine va_get (D := D) (ci := 1) (v := .ref (a + 4)) (C := R_Li) (T := F_Li) (N := 7) hx hb hg in_Li hown hK hP 0 rfl rfl 4 (Nat.le_of_ble_eq_true rfl) (hg _ tw_51) (fun _ h9 => h9) rfl d_Li_copyOperation_42 ?_
  refine lv_iload_n hx hb d_Li_copyOperation_45 rfl (lv_at hl 2 rfl) ?_
  refine ep_iald hx hb hK hP 4 0 rfl rfl (i := f) (by omega) (by decide) d_Li_copyOperation_46 ?_
  refine ep_iast hx hb hK hP hD hS 4 0 rfl rfl (i := g) (x := (bb f)) (by omega) (by decide) d_Li_copyOperation_47 (fun H locs hP hD hS => ?_)
  have hP : va_P D cls (wLi cI cJ cZ a n (upd mo g (mo f)) (upd na g (na f)) (upd aa g (aa f)) (upd bb g (bb f)) re ef) H := hP
  have hD : va_D (blk a 7) (wLi cI cJ cZ a n (upd mo g (mo f)) (upd na g (na f)) (upd aa g (aa f)) (upd bb g (bb f)) re ef) := hD
  refine lv_aload_n hx hb d_Li_copyOperation_48 rfl (lv_at hl 0 rfl) ?_
  refine va_get (D := D) (ci := 1) (v := .ref (a + 5)) (C := R_Li) (T := F_Li) (N := 7) hx hb hg in_Li hown hK hP 0 rfl rfl 5 (Nat.le_of_ble_eq_true rfl) (hg _ tw_53) (fun _ h9 => h9) rfl d_Li_copyOperation_49 ?_
  refine lv_iload_n hx hb d_Li_copyOperation_52 rfl (lv_at hl 3 rfl) ?_
  refine lv_aload_n hx hb d_Li_copyOperation_53 rfl (lv_at hl 1 rfl) ?_
  refine va_get (D := D) (ci := 1) (v := .ref (a + 5)) (C := R_Li) (T := F_Li) (N := 7) hx hb hg in_Li hown hK hP 0 rfl rfl 5 (Nat.le_of_ble_eq_true rfl) (hg _ tw_53) (fun _ h9 => h9) rfl d_Li_copyOperation_54 ?_
  refine lv_iload_n hx hb d_Li_copyOperation_57 rfl (lv_at hl 2 rfl) ?_
  refine ep_lald hx hb hK hP 5 1 rfl rfl (i := f) (by omega) (by decide) d_Li_copyOperation_58 ?_
  refine ep_last hx hb hK hP hD hS 5 1 rfl rfl (i := g) (x := (re f)) (by omega) (by decide) d_Li_copyOperation_59 (fun H locs hP hD hS => ?_)
  have hP : va_P D cls (wLi cI cJ cZ a n (upd mo g (mo f)) (upd na g (na f)) (upd aa g (aa f)) (upd bb g (bb f)) (vp_updL re g (re f)) ef) H := hP
  have hD : va_D (blk a 7) (wLi cI cJ cZ a n (upd mo g (mo f)) (upd na g (na f)) (upd aa g (aa f)) (upd bb g (bb f)) (vp_updL re g (re f)) ef) := hD
  refine lv_aload_n hx hb d_Li_copyOperation_60 rfl (lv_at hl 0 rfl) ?_
  refine va_get (D := D) (ci := 1) (v := .ref (a + 6)) (C := R_Li) (T := F_Li) (N := 7) hx hb hg in_Li hown hK hP 0 rfl rfl 6 (Nat.le_of_ble_eq_true rfl) (hg _ tw_55) (fun _ h9 => h9) rfl d_Li_copyOperation_61 ?_
  refine lv_iload_n hx hb d_Li_copyOperation_64 rfl (lv_at hl 3 rfl) ?_
  refine lv_aload_n hx hb d_Li_copyOperation_65 rfl (lv_at hl 1 rfl) ?_
  refine va_get (D := D) (ci := 1) (v := .ref (a + 6)) (C := R_Li) (T := F_Li) (N := 7) hx hb hg in_Li hown hK hP 0 rfl rfl 6 (Nat.le_of_ble_eq_true rfl) (hg _ tw_55) (fun _ h9 => h9) rfl d_Li_copyOperation_66 ?_
  refine lv_iload_n hx hb d_Li_copyOperation_69 rfl (lv_at hl 2 rfl) ?_
  refine ep_zald hx hb hK hP 6 2 rfl rfl (i := f) (by omega) (by decide) d_Li_copyOperation_70 ?_
  refine ep_zast hx hb hK hP hD hS 6 2 rfl rfl (i := g) (x := (ef f)) (by assumption) (by omega) (by decide) d_Li_copyOperation_71 (fun H locs hP hD hS => ?_)
  have hP : va_P D cls (wLi cI cJ cZ a n (upd mo g (mo f)) (upd na g (na f)) (upd aa g (aa f)) (upd bb g (bb f)) (vp_updL re g (re f)) (upd ef g (ef f))) H := hP
  have hD : va_D (blk a 7) (wLi cI cJ cZ a n (upd mo g (mo f)) (upd na g (na f)) (upd aa g (aa f)) (upd bb g (bb f)) (vp_updL re g (re f)) (upd ef g (ef f))) := hD
  exact W.vret hx hb hr (fun t9 ht hW => ⟨rfl, hS.F ht, by rw [ht]; exact hP⟩) hS.2.2 d_Li_copyOperation_72

set_option maxHeartbeats 4000000 in
set_option maxRecDepth 100000 in
theorem m_Li_copyOperation_of (l : Launch) (D : va_G) (cI cJ cZ cO : ClassId) (a n : Nat) (mo na aa bb : Nat → Int32) (re : Nat → Int64) (ef : Nat → Int32) (b n2 : Nat) (mo2 na2 aa2 bb2 : Nat → Int32) (re2 : Nat → Int64) (ef2 : Nat → Int32) (hab : b + 7 ≤ a ∨ a + 7 ≤ b) (f g : Nat) (hf : f < 32) (hg9 : g < 32) (hz : vp_nar .boolean (ef2 f) = ef2 f) : Met l y_Li_copyOperation (k_Li_copyOperation :: gt) rm_Li_copyOperation (Pc0 D cI cJ cZ cO [.ref a, .ref b, .int (nI f), .int (nI g)] (fun H => va_P D cls (wLi cI cJ cZ a n mo na aa bb re ef) H ∧ va_P D cls (wLi cI cJ cZ b n2 mo2 na2 aa2 bb2 re2 ef2) H)) (Qd (blk a 7) none (fun H => va_P D cls (wLi cI cJ cZ a n (upd mo g (mo2 f)) (upd na g (na2 f)) (upd aa g (aa2 f)) (upd bb g (bb2 f)) (vp_updL re g (re2 f)) (upd ef g (ef2 f))) H)) 0 0 (blk a 7) := by
  refine Met.ofW (cc := c_Li_copyOperation) (maxL := 4) (ret := none) (by decide) rfl ?_
  intro p e s m args below meth c s₁ B hml hv
  obtain ⟨rfl, hKn, hP, hP2⟩ := hv
  have hx := B.exec
  have hb := B.bytes
  have hr := B.returns
  have hts := atoms_spec (ws := k_Li_copyOperation :: gt) B.pre
  have hg : ∀ w ∈ gt, w.before _ s = true := fun w h => hts w (List.mem_cons_of_mem _ h)
  have hown : s.vm.findClass R_Li = some m.cls := findClass_of_methodNamed B.named
  have hlocks := B.notSynchronized
  have hK := hKn.1
  have hl := lv_entry ([.ref a, .ref b, .int (nI f), .int (nI g)]) (n := 4) (Nat.le_of_ble_eq_true rfl)
  rw [lg_entry_eq]
  generalize (lg_sl ([.ref a, .ref b, .int (nI f), .int (nI g)]) ++ List.replicate (4 - (lg_sl ([.ref a, .ref b, .int (nI f), .int (nI g)])).length) Slot.unset).toArray = ls at hl ⊢
  have hl : lv_has ls 4 [(0, .ref a), (1, .ref b), (2, .int (nI f)), (3, .int (nI g))] := hl
  have hP20 := hP2
  have hS : va_S (blk a 7) s.heap s.heap [] := va_S.rf
  have hD : va_D (blk a 7) (wLi cI cJ cZ a n mo na aa bb re ef) := wLi_D
  refine lv_aload_n hx hb d_Li_copyOperation_0 rfl (lv_at hl 0 rfl) ?_
  refine va_get (D := D) (ci := 1) (v := .ref (a + 1)) (C := R_Li) (T := F_Li) (N := 7) hx hb hg in_Li hown hK hP 0 rfl rfl 1 (Nat.le_of_ble_eq_true rfl) (hg _ tw_45) (fun _ h9 => h9) rfl d_Li_copyOperation_1 ?_
  refine lv_iload_n hx hb d_Li_copyOperation_4 rfl (lv_at hl 3 rfl) ?_
  refine lv_aload_n hx hb d_Li_copyOperation_5 rfl (lv_at hl 1 rfl) ?_
  refine va_get (D := D) (ci := 1) (v := .ref (b + 1)) (C := R_Li) (T := F_Li) (N := 7) hx hb hg in_Li hown hK hP2 0 rfl rfl 1 (Nat.le_of_ble_eq_true rfl) (hg _ tw_45) (fun _ h9 => h9) rfl d_Li_copyOperation_6 ?_
  refine lv_iload_n hx hb d_Li_copyOperation_9 rfl (lv_at hl 2 rfl) ?_
  refine ep_iald hx hb hK hP2 1 0 rfl rfl (i := f) (by omega) (by decide) d_Li_copyOperation_10 ?_
  refine ep_iast hx hb hK hP hD hS 1 0 rfl rfl (i := g) (x := (mo2 f)) (by omega) (by decide) d_Li_copyOperation_11 (fun H locs hP hD hS => ?_)
  have hP : va_P D cls (wLi cI cJ cZ a n (upd mo g (mo2 f)) na aa bb re ef) H := hP
  have hD : va_D (blk a 7) (wLi cI cJ cZ a n (upd mo g (mo2 f)) na aa bb re ef) := hD
  have hP2 := wo_kp hP20 hS (wLi_off hab)
  refine lv_aload_n hx hb d_Li_copyOperation_12 rfl (lv_at hl 0 rfl) ?_
  refine va_get (D := D) (ci := 1) (v := .ref (a + 2)) (C := R_Li) (T := F_Li) (N := 7) hx hb hg in_Li hown hK hP 0 rfl rfl 2 (Nat.le_of_ble_eq_true rfl) (hg _ tw_47) (fun _ h9 => h9) rfl d_Li_copyOperation_13 ?_
  refine lv_iload_n hx hb d_Li_copyOperation_16 rfl (lv_at hl 3 rfl) ?_
  refine lv_aload_n hx hb d_Li_copyOperation_17 rfl (lv_at hl 1 rfl) ?_
  refine va_get (D := D) (ci := 1) (v := .ref (b + 2)) (C := R_Li) (T := F_Li) (N := 7) hx hb hg in_Li hown hK hP2 0 rfl rfl 2 (Nat.le_of_ble_eq_true rfl) (hg _ tw_47) (fun _ h9 => h9) rfl d_Li_copyOperation_18 ?_
  refine lv_iload_n hx hb d_Li_copyOperation_21 rfl (lv_at hl 2 rfl) ?_
  refine ep_iald hx hb hK hP2 2 0 rfl rfl (i := f) (by omega) (by decide) d_Li_copyOperation_22 ?_
  refine ep_iast hx hb hK hP hD hS 2 0 rfl rfl (i := g) (x := (na2 f)) (by omega) (by decide) d_Li_copyOperation_23 (fun H locs hP hD hS => ?_)
  have hP : va_P D cls (wLi cI cJ cZ a n (upd mo g (mo2 f)) (upd na g (na2 f)) aa bb re ef) H := hP
  have hD : va_D (blk a 7) (wLi cI cJ cZ a n (upd mo g (mo2 f)) (upd na g (na2 f)) aa bb re ef) := hD
  have hP2 := wo_kp hP20 hS (wLi_off hab)
  refine lv_aload_n hx hb d_Li_copyOperation_24 rfl (lv_at hl 0 rfl) ?_
  refine va_get (D := D) (ci := 1) (v := .ref (a + 3)) (C := R_Li) (T := F_Li) (N := 7) hx hb hg in_Li hown hK hP 0 rfl rfl 3 (Nat.le_of_ble_eq_true rfl) (hg _ tw_49) (fun _ h9 => h9) rfl d_Li_copyOperation_25 ?_
  refine lv_iload_n hx hb d_Li_copyOperation_28 rfl (lv_at hl 3 rfl) ?_
  refine lv_aload_n hx hb d_Li_copyOperation_29 rfl (lv_at hl 1 rfl) ?_
  refine va_get (D := D) (ci := 1) (v := .ref (b + 3)) (C := R_Li) (T := F_Li) (N := 7) hx hb hg in_Li hown hK hP2 0 rfl rfl 3 (Nat.le_of_ble_eq_true rfl) (hg _ tw_49) (fun _ h9 => h9) rfl d_Li_copyOperation_30 ?_
  refine lv_iload_n hx hb d_Li_copyOperation_33 rfl (lv_at hl 2 rfl) ?_
  refine ep_iald hx hb hK hP2 3 0 rfl rfl (i := f) (by omega) (by decide) d_Li_copyOperation_34 ?_
  refine ep_iast hx hb hK hP hD hS 3 0 rfl rfl (i := g) (x := (aa2 f)) (by omega) (by decide) d_Li_copyOperation_35 (fun H locs hP hD hS => ?_)
  have hP : va_P D cls (wLi cI cJ cZ a n (upd mo g (mo2 f)) (upd na g (na2 f)) (upd aa g (aa2 f)) bb re ef) H := hP
  have hD : va_D (blk a 7) (wLi cI cJ cZ a n (upd mo g (mo2 f)) (upd na g (na2 f)) (upd aa g (aa2 f)) bb re ef) := hD
  have hP2 := wo_kp hP20 hS (wLi_off hab)
  refine lv_aload_n hx hb d_Li_copyOperation_36 rfl (lv_at hl 0 rfl) ?_
  refine va_get (D := D) (ci := 1) (v := .ref (a + 4)) (C := R_Li) (T := F_Li) (N := 7) hx hb hg in_Li hown hK hP 0 rfl rfl 4 (Nat.le_of_ble_eq_true rfl) (hg _ tw_51) (fun _ h9 => h9) rfl d_Li_copyOperation_37 ?_
  refine lv_iload_n hx hb d_Li_copyOperation_40 rfl (lv_at hl 3 rfl) ?_
  refine lv_aload_n hx hb d_Li_copyOperation_41 rfl (lv_at hl 1 rfl) ?_
  refine va_get (D := D) (ci := 1) (v := .ref (b + 4)) (C := R_Li) (T := F_Li) (N := 7) hx hb hg in_Li hown hK hP2 0 rfl rfl 4 (Nat.le_of_ble_eq_true rfl) (hg _ tw_51) (fun _ h9 => h9) rfl d_Li_copyOperation_42 ?_
  refine lv_iload_n hx hb d_Li_copyOperation_45 rfl (lv_at hl 2 rfl) ?_
  refine ep_iald hx hb hK hP2 4 0 rfl rfl (i := f) (by omega) (by decide) d_Li_copyOperation_46 ?_
  refine ep_iast hx hb hK hP hD hS 4 0 rfl rfl (i := g) (x := (bb2 f)) (by omega) (by decide) d_Li_copyOperation_47 (fun H locs hP hD hS => ?_)
  have hP : va_P D cls (wLi cI cJ cZ a n (upd mo g (mo2 f)) (upd na g (na2 f)) (upd aa g (aa2 f)) (upd bb g (bb2 f)) re ef) H := hP
  have hD : va_D (blk a 7) (wLi cI cJ cZ a n (upd mo g (mo2 f)) (upd na g (na2 f)) (upd aa g (aa2 f)) (upd bb g (bb2 f)) re ef) := hD
  have hP2 := wo_kp hP20 hS (wLi_off hab)
  refine lv_aload_n hx hb d_Li_copyOperation_48 rfl (lv_at hl 0 rfl) ?_
  refine va_get (D := D) (ci := 1) (v := .ref (a + 5)) (C := R_Li) (T := F_Li) (N := 7) hx hb hg in_Li hown hK hP 0 rfl rfl 5 (Nat.le_of_ble_eq_true rfl) (hg _ tw_53) (fun _ h9 => h9) rfl d_Li_copyOperation_49 ?_
  refine lv_iload_n hx hb d_Li_copyOperation_52 rfl (lv_at hl 3 rfl) ?_
  refine lv_aload_n hx hb d_Li_copyOperation_53 rfl (lv_at hl 1 rfl) ?_
  refine va_get (D := D) (ci := 1) (v := .ref (b + 5)) (C := R_Li) (T := F_Li) (N := 7) hx hb hg in_Li hown hK hP2 0 rfl rfl 5 (Nat.le_of_ble_eq_true rfl) (hg _ tw_53) (fun _ h9 => h9) rfl d_Li_copyOperation_54 ?_
  refine lv_iload_n hx hb d_Li_copyOperation_57 rfl (lv_at hl 2 rfl) ?_
  refine ep_lald hx hb hK hP2 5 1 rfl rfl (i := f) (by omega) (by decide) d_Li_copyOperation_58 ?_
  refine ep_last hx hb hK hP hD hS 5 1 rfl rfl (i := g) (x := (re2 f)) (by omega) (by decide) d_Li_copyOperation_59 (fun H locs hP hD hS => ?_)
  have hP : va_P D cls (wLi cI cJ cZ a n (upd mo g (mo2 f)) (upd na g (na2 f)) (upd aa g (aa2 f)) (upd bb g (bb2 f)) (vp_updL re g (re2 f)) ef) H := hP
  have hD : va_D (blk a 7) (wLi cI cJ cZ a n (upd mo g (mo2 f)) (upd na g (na2 f)) (upd aa g (aa2 f)) (upd bb g (bb2 f)) (vp_updL re g (re2 f)) ef) := hD
  have hP2 := wo_kp hP20 hS (wLi_off hab)
  refine lv_aload_n hx hb d_Li_copyOperation_60 rfl (lv_at hl 0 rfl) ?_
  refine va_get (D := D) (ci := 1) (v := .ref (a + 6)) (C := R_Li) (T := F_Li) (N := 7) hx hb hg in_Li hown hK hP 0 rfl rfl 6 (Nat.le_of_ble_eq_true rfl) (hg _ tw_55) (fun _ h9 => h9) rfl d_Li_copyOperation_61 ?_
  refine lv_iload_n hx hb d_Li_copyOperation_64 rfl (lv_at hl 3 rfl) ?_
  refine lv_aload_n hx hb d_Li_copyOperation_65 rfl (lv_at hl 1 rfl) ?_
  refine va_get (D := D) (ci := 1) (v := .ref (b + 6)) (C := R_Li) (T := F_Li) (N := 7) hx hb hg in_Li hown hK hP2 0 rfl rfl 6 (Nat.le_of_ble_eq_true rfl) (hg _ tw_55) (fun _ h9 => h9) rfl d_Li_copyOperation_66 ?_
  refine lv_iload_n hx hb d_Li_copyOperation_69 rfl (lv_at hl 2 rfl) ?_
  refine ep_zald hx hb hK hP2 6 2 rfl rfl (i := f) (by omega) (by decide) d_Li_copyOperation_70 ?_
  refine ep_zast hx hb hK hP hD hS 6 2 rfl rfl (i := g) (x := (ef2 f)) (by assumption) (by omega) (by decide) d_Li_copyOperation_71 (fun H locs hP hD hS => ?_)
  have hP : va_P D cls (wLi cI cJ cZ a n (upd mo g (mo2 f)) (upd na g (na2 f)) (upd aa g (aa2 f)) (upd bb g (bb2 f)) (vp_updL re g (re2 f)) (upd ef g (ef2 f))) H := hP
  have hD : va_D (blk a 7) (wLi cI cJ cZ a n (upd mo g (mo2 f)) (upd na g (na2 f)) (upd aa g (aa2 f)) (upd bb g (bb2 f)) (vp_updL re g (re2 f)) (upd ef g (ef2 f))) := hD
  have hP2 := wo_kp hP20 hS (wLi_off hab)
  exact W.vret hx hb hr (fun t9 ht hW => ⟨rfl, hS.F ht, by rw [ht]; exact hP⟩) hS.2.2 d_Li_copyOperation_72

set_option maxHeartbeats 4000000 in
set_option maxRecDepth 100000 in
theorem m_Li_isSame (l : Launch) (D : va_G) (cI cJ cZ cO : ClassId) (a n : Nat) (mo na aa bb : Nat → Int32) (re : Nat → Int64) (ef : Nat → Int32) (b n2 : Nat) (mo2 na2 aa2 bb2 : Nat → Int32) (re2 : Nat → Int64) (ef2 : Nat → Int32) (f g : Nat) (hf : f < 32) (hg9 : g < 32) : Met l y_Li_isSame (k_Li_isSame :: gt) rm_Li_isSame (Pc0 D cI cJ cZ cO [.ref a, .int (nI f), .ref b, .int (nI g)] (fun H => va_P D cls (wLi cI cJ cZ a n mo na aa bb re ef) H ∧ va_P D cls (wLi cI cJ cZ b n2 mo2 na2 aa2 bb2 re2 ef2) H)) (Qp (some (.int (if mo f = mo2 g ∧ re f = re2 g ∧ ef f = ef2 g then 1 else 0)))) 0 0 (fun _ => False) := by
  refine Met.ofW (cc := c_Li_isSame) (maxL := 4) (ret := (Option.some FieldType.boolean)) (by decide) rfl ?_
  intro p e s m args below meth c s₁ B hml hv
  obtain ⟨rfl, hKn, hP, hP2⟩ := hv
  have hx := B.exec
  have hb := B.bytes
  have hr := B.returns
  have hts := atoms_spec (ws := k_Li_isSame :: gt) B.pre
  have hg : ∀ w ∈ gt, w.before _ s = true := fun w h => hts w (List.mem_cons_of_mem _ h)
  have hown : s.vm.findClass R_Li = some m.cls := findClass_of_methodNamed B.named
  have hlocks := B.notSynchronized
  have hK := hKn.1
  have hl := lv_entry ([.ref a, .int (nI f), .ref b, .int (nI g)]) (n := 4) (Nat.le_of_ble_eq_true rfl)
  rw [lg_entry_eq]
  generalize (lg_sl ([.ref a, .int (nI f), .ref b, .int (nI g)]) ++ List.replicate (4 - (lg_sl ([.ref a, .int (nI f), .ref b, .int (nI g)])).length) Slot.unset).toArray = ls at hl ⊢
  have hl : lv_has ls 4 [(0, .ref a), (1, .int (nI f)), (2, .ref b), (3, .int (nI g))] := hl
  refine lv_aload_n hx hb d_Li_isSame_0 rfl (lv_at hl 0 rfl) ?_
  refine va_get (D := D) (ci := 1) (v := .ref (a + 1)) (C := R_Li) (T := F_Li) (N := 7) hx hb hg in_Li hown hK hP 0 rfl rfl 1 (Nat.le_of_ble_eq_true rfl) (hg _ tw_45) (fun _ h9 => h9) rfl d_Li_isSame_1 ?_
  refine lv_iload_n hx hb d_Li_isSame_4 rfl (lv_at hl 1 rfl) ?_
  refine ep_iald hx hb hK hP 1 0 rfl rfl (i := f) (by omega) (by decide) d_Li_isSame_5 ?_
  refine lv_aload_n hx hb d_Li_isSame_6 rfl (lv_at hl 2 rfl) ?_
  refine va_get (D := D) (ci := 1) (v := .ref (b + 1)) (C := R_Li) (T := F_Li) (N := 7) hx hb hg in_Li hown hK hP2 0 rfl rfl 1 (Nat.le_of_ble_eq_true rfl) (hg _ tw_45) (fun _ h9 => h9) rfl d_Li_isSame_7 ?_
  refine lv_iload_n hx hb d_Li_isSame_10 rfl (lv_at hl 3 rfl) ?_
  refine ep_iald hx hb hK hP2 1 0 rfl rfl (i := g) (by omega) (by decide) d_Li_isSame_11 ?_
  refine lv_icmp_ne (tgt := 50) hx hb d_Li_isSame_12 (by decide) (fun hc => ?_) (fun hc => ?_)
  · refine lv_iconst (v := 0) hx hb d_Li_isSame_50 (by decide) ?_
    exact W.zret (v := 0) hx hb hr (by decide) (fun t9 ht hW => ⟨by rw [if_neg (fun h => hc h.1)], ht⟩) (fun q h => nomatch h) d_Li_isSame_51
  · have e1 := hc
    refine lv_aload_n hx hb d_Li_isSame_15 rfl (lv_at hl 0 rfl) ?_
    refine va_get (D := D) (ci := 1) (v := .ref (a + 5)) (C := R_Li) (T := F_Li) (N := 7) hx hb hg in_Li hown hK hP 0 rfl rfl 5 (Nat.le_of_ble_eq_true rfl) (hg _ tw_53) (fun _ h9 => h9) rfl d_Li_isSame_16 ?_
    refine lv_iload_n hx hb d_Li_isSame_19 rfl (lv_at hl 1 rfl) ?_
    refine ep_lald hx hb hK hP 5 1 rfl rfl (i := f) (by omega) (by decide) d_Li_isSame_20 ?_
    refine lv_aload_n hx hb d_Li_isSame_21 rfl (lv_at hl 2 rfl) ?_
    refine va_get (D := D) (ci := 1) (v := .ref (b + 5)) (C := R_Li) (T := F_Li) (N := 7) hx hb hg in_Li hown hK hP2 0 rfl rfl 5 (Nat.le_of_ble_eq_true rfl) (hg _ tw_53) (fun _ h9 => h9) rfl d_Li_isSame_22 ?_
    refine lv_iload_n hx hb d_Li_isSame_25 rfl (lv_at hl 3 rfl) ?_
    refine ep_lald hx hb hK hP2 5 1 rfl rfl (i := g) (by omega) (by decide) d_Li_isSame_26 ?_
    refine W.lcmp hx hb d_Li_isSame_27 ?_
    refine lv_if_ne (tgt := 50) hx hb d_Li_isSame_28 (by decide) (fun hc => ?_) (fun hc => ?_)
    · refine lv_iconst (v := 0) hx hb d_Li_isSame_50 (by decide) ?_
      exact W.zret (v := 0) hx hb hr (by decide) (fun t9 ht hW => ⟨by rw [if_neg (fun h => hc ((lg_cmp_eq _ _).mpr h.2.1))], ht⟩) (fun q h => nomatch h) d_Li_isSame_51
    · have e2 := (lg_cmp_eq _ _).mp hc
      refine lv_aload_n hx hb d_Li_isSame_31 rfl (lv_at hl 0 rfl) ?_
      refine va_get (D := D) (ci := 1) (v := .ref (a + 6)) (C := R_Li) (T := F_Li) (N := 7) hx hb hg in_Li hown hK hP 0 rfl rfl 6 (Nat.le_of_ble_eq_true rfl) (hg _ tw_55) (fun _ h9 => h9) rfl d_Li_isSame_32 ?_
      refine lv_iload_n hx hb d_Li_isSame_35 rfl (lv_at hl 1 rfl) ?_
      refine ep_zald hx hb hK hP 6 2 rfl rfl (i := f) (by omega) (by decide) d_Li_isSame_36 ?_
      refine lv_aload_n hx hb d_Li_isSame_37 rfl (lv_at hl 2 rfl) ?_
      refine va_get (D := D) (ci := 1) (v := .ref (b + 6)) (C := R_Li) (T := F_Li) (N := 7) hx hb hg in_Li hown hK hP2 0 rfl rfl 6 (Nat.le_of_ble_eq_true rfl) (hg _ tw_55) (fun _ h9 => h9) rfl d_Li_isSame_38 ?_
      refine lv_iload_n hx hb d_Li_isSame_41 rfl (lv_at hl 3 rfl) ?_
      refine ep_zald hx hb hK hP2 6 2 rfl rfl (i := g) (by omega) (by decide) d_Li_isSame_42 ?_
      refine lv_icmp_ne (tgt := 50) hx hb d_Li_isSame_43 (by decide) (fun hc => ?_) (fun hc => ?_)
      · refine lv_iconst (v := 0) hx hb d_Li_isSame_50 (by decide) ?_
        exact W.zret (v := 0) hx hb hr (by decide) (fun t9 ht hW => ⟨by rw [if_neg (fun h => hc h.2.2)], ht⟩) (fun q h => nomatch h) d_Li_isSame_51
      · refine lv_iconst (v := 1) hx hb d_Li_isSame_46 (by decide) ?_
        refine lv_goto (tgt := 51) hx hb d_Li_isSame_47 (by decide) ?_
        exact W.zret (v := 1) hx hb hr (by decide) (fun t9 ht hW => ⟨by rw [if_pos ⟨e1, e2, hc⟩], ht⟩) (fun q h => nomatch h) d_Li_isSame_51

set_option maxHeartbeats 4000000 in
set_option maxRecDepth 100000 in
theorem m_Li_insert (l : Launch) (D : va_G) (cI cJ cZ cO : ClassId) (a n : Nat) (mo na aa bb : Nat → Int32) (re : Nat → Int64) (ef : Nat → Int32) (t nm x y : Int32) (hn : n < 32) (hz : bz ef) : Met l y_Li_insert (k_Li_insert :: gt) rm_Li_insert (Pc0 D cI cJ cZ cO [.ref a, .int t, .int nm, .int x, .int y] (fun H => va_P D cls (wLi cI cJ cZ a n mo na aa bb re ef) H)) (Qd (blk a 7) none (fun H => va_P D cls (wLi cI cJ cZ a (n + 1) (upd (shu mo (n - (pfr mo t n 0)) n) (pfr mo t n 0) t) (upd (shu na (n - (pfr mo t n 0)) n) (pfr mo t n 0) nm) (upd (shu aa (n - (pfr mo t n 0)) n) (pfr mo t n 0) x) (upd (shu bb (n - (pfr mo t n 0)) n) (pfr mo t n 0) y) (shuL re (n - (pfr mo t n 0)) n) (shu ef (n - (pfr mo t n 0)) n)) H)) 0 0 (blk a 7) := by
  refine Met.ofW (cc := c_Li_insert) (maxL := 7) (ret := none) (by decide) rfl ?_
  intro p e s m args below meth c s₁ B hml hv
  obtain ⟨rfl, hKn, hP⟩ := hv
  have hx := B.exec
  have hb := B.bytes
  have hr := B.returns
  have hts := atoms_spec (ws := k_Li_insert :: gt) B.pre
  have hg : ∀ w ∈ gt, w.before _ s = true := fun w h => hts w (List.mem_cons_of_mem _ h)
  have hown : s.vm.findClass R_Li = some m.cls := findClass_of_methodNamed B.named
  have hlocks := B.notSynchronized
  have hK := hKn.1
  have hl := lv_entry ([.ref a, .int t, .int nm, .int x, .int y]) (n := 7) (Nat.le_of_ble_eq_true rfl)
  rw [lg_entry_eq]
  generalize (lg_sl ([.ref a, .int t, .int nm, .int x, .int y]) ++ List.replicate (7 - (lg_sl ([.ref a, .int t, .int nm, .int x, .int y])).length) Slot.unset).toArray = ls at hl ⊢
  have hl : lv_has ls 7 [(0, .ref a), (1, .int t), (2, .int nm), (3, .int x), (4, .int y)] := hl
  have hS : va_S (blk a 7) s.heap s.heap [] := va_S.rf
  refine lv_aload_n hx hb d_Li_insert_0 rfl (lv_at hl 0 rfl) ?_
  refine lv_iload_n hx hb d_Li_insert_1 rfl (lv_at hl 1 rfl) ?_
  refine ep_callP (W.runV (As := [.int t]) (rest := []) ⟨hx, hb, hml, hown, hg⟩ (m_Li_placeFrom l D cI cJ cZ cO a n mo na aa bb re ef t (by omega)) (ep_cwV 1 hg tw_352 tw_353 tw_354 tw_3 tk_Li_placeFrom rfl rfl (by decide +kernel) ⟨(Nat.le_of_ble_eq_true rfl), (Nat.le_of_ble_eq_true rfl)⟩) ⟨ep_blind, va_recv (q0 := 0) (ci := 1) hK hP rfl rfl, ep_pre hKn (hP)⟩ rfl rfl hl.1 rfl (lv_room (Nat.le_of_ble_eq_true rfl)) d_Li_insert_2 ⟨Nat.zero_le _, Nat.zero_le _⟩) ?_
  refine W.eq (g2 := F0 m 5 ls [.int (nI (pfr mo t n 0))]) rfl ?_
  have hp0 := pfr_le mo t n 0
  generalize hp1 : pfr mo t n 0 = r at hp0 ⊢
  refine lv_istore (lv' := [(5, .int (nI r)), (0, .ref a), (1, .int t), (2, .int nm), (3, .int x), (4, .int y)]) hx hb d_Li_insert_5 hl (by decide) rfl (fun ls hl => ?_)
  refine lv_aload_n hx hb d_Li_insert_7 rfl (lv_at hl 1 rfl) ?_
  refine va_get (D := D) (ci := 1) (v := .int (nI n)) (C := R_Li) (T := F_Li) (N := 7) hx hb hg in_Li hown hK hP 0 rfl rfl 0 (Nat.le_of_ble_eq_true rfl) (hg _ tw_43) (fun _ h9 => h9) rfl d_Li_insert_8 ?_
  refine lv_istore (lv' := [(6, .int (nI n)), (5, .int (nI r)), (0, .ref a), (1, .int t), (2, .int nm), (3, .int x), (4, .int y)]) hx hb d_Li_insert_11 hl (by decide) rfl (fun ls hl => ?_)
  generalize hf0 : shu mo (n - r) n = M
  generalize hf1 : shu na (n - r) n = Na
  generalize hf2 : shu aa (n - r) n = Aa
  generalize hf3 : shu bb (n - r) n = Bb
  generalize hf4 : shuL re (n - r) n = Re
  generalize hf5 : shu ef (n - r) n = Ef
  have key : ∀ (k i : Nat) (mo1 na1 aa1 bb1 : Nat → Int32) (re1 : Nat → Int64) (ef1 : Nat → Int32) (H : Heap) (locs : List Loc) (ls : Array Slot), i = r + k → i ≤ n → bz ef1 → shu mo1 k i = M → shu na1 k i = Na → shu aa1 k i = Aa → shu bb1 k i = Bb → shuL re1 k i = Re → shu ef1 k i = Ef → lv_has ls 7 [(6, .int (nI i)), (5, .int (nI r)), (0, .ref a), (1, .int t), (2, .int nm), (3, .int x), (4, .int y)] → va_P D cls (wLi cI cJ cZ a n mo1 na1 aa1 bb1 re1 ef1) H → va_S (blk a 7) s.heap H locs → W p l e (headSpec (k_Li_insert :: gt) rm_Li_insert).room s m ([.ref a, .int t, .int nm, .int x, .int y] : List Value).toArray below meth c H locs 0 0 (MQ below (Qd (blk a 7) none (fun H => va_P D cls (wLi cI cJ cZ a (n + 1) (upd M r t) (upd Na r nm) (upd Aa r x) (upd Bb r y) Re Ef) H)) ([.ref a, .int t, .int nm, .int x, .int y] : List Value).toArray s 0 0 (blk a 7)) (F0 m 13 ls []) := by
    intro k
    induction k with
    | zero =>
      intro i mo1 na1 aa1 bb1 re1 ef1 H locs ls hi hin hz1 q0 q1 q2 q3 q4 q5 hl hP hS
      obtain rfl : mo1 = M := q0
      obtain rfl : na1 = Na := q1
      obtain rfl : aa1 = Aa := q2
      obtain rfl : bb1 = Bb := q3
      obtain rfl : re1 = Re := q4
      obtain rfl : ef1 = Ef := q5
      have hD : va_D (blk a 7) (wLi cI cJ cZ a n mo1 na1 aa1 bb1 re1 ef1) := wLi_D
      refine lv_iload hx hb d_Li_insert_13 (lv_at hl 0 rfl) ?_
      refine lv_iload hx hb d_Li_insert_15 (lv_at hl 1 rfl) ?_
      refine lv_icmp_le (tgt := 37) hx hb d_Li_insert_17 (by decide) (fun hc => ?_) (fun hc => absurd (nI_le (by omega) (by omega)) hc)
      refine lv_aload_n hx hb d_Li_insert_37 rfl (lv_at hl 2 rfl) ?_
      refine va_get (D := D) (ci := 1) (v := .ref (a + 1)) (C := R_Li) (T := F_Li) (N := 7) hx hb hg in_Li hown hK hP 0 rfl rfl 1 (Nat.le_of_ble_eq_true rfl) (hg _ tw_45) (fun _ h9 => h9) rfl d_Li_insert_38 ?_
      refine lv_iload hx hb d_Li_insert_41 (lv_at hl 1 rfl) ?_
      refine lv_iload_n hx hb d_Li_insert_43 rfl (lv_at hl 3 rfl) ?_
      refine ep_iast hx hb hK hP hD hS 1 0 rfl rfl (i := r) (x := t) (by omega) (by decide) d_Li_insert_44 (fun H locs hP hD hS => ?_)
      have hP : va_P D cls (wLi cI cJ cZ a n (upd mo1 r t) na1 aa1 bb1 re1 ef1) H := hP
      have hD : va_D (blk a 7) (wLi cI cJ cZ a n (upd mo1 r t) na1 aa1 bb1 re1 ef1) := hD
      refine lv_aload_n hx hb d_Li_insert_45 rfl (lv_at hl 2 rfl) ?_
      refine va_get (D := D) (ci := 1) (v := .ref (a + 2)) (C := R_Li) (T := F_Li) (N := 7) hx hb hg in_Li hown hK hP 0 rfl rfl 2 (Nat.le_of_ble_eq_true rfl) (hg _ tw_47) (fun _ h9 => h9) rfl d_Li_insert_46 ?_
      refine lv_iload hx hb d_Li_insert_49 (lv_at hl 1 rfl) ?_
      refine lv_iload_n hx hb d_Li_insert_51 rfl (lv_at hl 4 rfl) ?_
      refine ep_iast hx hb hK hP hD hS 2 0 rfl rfl (i := r) (x := nm) (by omega) (by decide) d_Li_insert_52 (fun H locs hP hD hS => ?_)
      have hP : va_P D cls (wLi cI cJ cZ a n (upd mo1 r t) (upd na1 r nm) aa1 bb1 re1 ef1) H := hP
      have hD : va_D (blk a 7) (wLi cI cJ cZ a n (upd mo1 r t) (upd na1 r nm) aa1 bb1 re1 ef1) := hD
      refine lv_aload_n hx hb d_Li_insert_53 rfl (lv_at hl 2 rfl) ?_
      refine va_get (D := D) (ci := 1) (v := .ref (a + 3)) (C := R_Li) (T := F_Li) (N := 7) hx hb hg in_Li hown hK hP 0 rfl rfl 3 (Nat.le_of_ble_eq_true rfl) (hg _ tw_49) (fun _ h9 => h9) rfl d_Li_insert_54 ?_
      refine lv_iload hx hb d_Li_insert_57 (lv_at hl 1 rfl) ?_
      refine lv_iload_n hx hb d_Li_insert_59 rfl (lv_at hl 5 rfl) ?_
      refine ep_iast hx hb hK hP hD hS 3 0 rfl rfl (i := r) (x := x) (by omega) (by decide) d_Li_insert_60 (fun H locs hP hD hS => ?_)
      have hP : va_P D cls (wLi cI cJ cZ a n (upd mo1 r t) (upd na1 r nm) (upd aa1 r x) bb1 re1 ef1) H := hP
      have hD : va_D (blk a 7) (wLi cI cJ cZ a n (upd mo1 r t) (upd na1 r nm) (upd aa1 r x) bb1 re1 ef1) := hD
      refine lv_aload_n hx hb d_Li_insert_61 rfl (lv_at hl 2 rfl) ?_
      refine va_get (D := D) (ci := 1) (v := .ref (a + 4)) (C := R_Li) (T := F_Li) (N := 7) hx hb hg in_Li hown hK hP 0 rfl rfl 4 (Nat.le_of_ble_eq_true rfl) (hg _ tw_51) (fun _ h9 => h9) rfl d_Li_insert_62 ?_
      refine lv_iload hx hb d_Li_insert_65 (lv_at hl 1 rfl) ?_
      refine lv_iload hx hb d_Li_insert_67 (lv_at hl 6 rfl) ?_
      refine ep_iast hx hb hK hP hD hS 4 0 rfl rfl (i := r) (x := y) (by omega) (by decide) d_Li_insert_69 (fun H locs hP hD hS => ?_)
      have hP : va_P D cls (wLi cI cJ cZ a n (upd mo1 r t) (upd na1 r nm) (upd aa1 r x) (upd bb1 r y) re1 ef1) H := hP
      have hD : va_D (blk a 7) (wLi cI cJ cZ a n (upd mo1 r t) (upd na1 r nm) (upd aa1 r x) (upd bb1 r y) re1 ef1) := hD
      refine lv_aload_n hx hb d_Li_insert_70 rfl (lv_at hl 2 rfl) ?_
      refine lv_dup hx hb d_Li_insert_71 rfl ?_
      refine va_get (D := D) (ci := 1) (v := .int (nI n)) (C := R_Li) (T := F_Li) (N := 7) hx hb hg in_Li hown hK hP 0 rfl rfl 0 (Nat.le_of_ble_eq_true rfl) (hg _ tw_43) (fun _ h9 => h9) rfl d_Li_insert_72 ?_
      refine lv_iconst (v := 1) hx hb d_Li_insert_75 (by decide) ?_
      refine lv_iadd hx hb d_Li_insert_76 ?_
      refine lv_topi (fun z1 e_z1 => ?_)
      obtain rfl : z1 = nI (n + 1) := by rw [e_z1]; exact (nI_1 n)
      refine va_put (D := D) (ci := 1) (v := .int (nI (n + 1))) (ty := .int) (C := R_Li) (T := F_Li) (N := 7) hx hb hg in_Li t_Li t_Li_ok n_Li hown hK hP hD hS 0 rfl rfl 0 (Nat.le_of_ble_eq_true rfl) (hg _ tw_43) (fun _ h9 => h9) rfl (by decide +kernel) rfl rfl (Nat.le_of_ble_eq_true rfl) d_Li_insert_77 (fun H locs hP hD hS => ?_)
      have hP : va_P D cls (wLi cI cJ cZ a (n + 1) (upd mo1 r t) (upd na1 r nm) (upd aa1 r x) (upd bb1 r y) re1 ef1) H := hP
      have hD : va_D (blk a 7) (wLi cI cJ cZ a (n + 1) (upd mo1 r t) (upd na1 r nm) (upd aa1 r x) (upd bb1 r y) re1 ef1) := hD
      exact W.vret hx hb hr (fun t9 ht hW => ⟨rfl, hS.F ht, by rw [ht]; exact hP⟩) hS.2.2 d_Li_insert_80
    | succ k ih =>
      intro i mo1 na1 aa1 bb1 re1 ef1 H locs ls hi hin hz1 q0 q1 q2 q3 q4 q5 hl hP hS
      refine lv_iload hx hb d_Li_insert_13 (lv_at hl 0 rfl) ?_
      refine lv_iload hx hb d_Li_insert_15 (lv_at hl 1 rfl) ?_
      refine lv_icmp_le (tgt := 37) hx hb d_Li_insert_17 (by decide) (fun hc => absurd hc (nI_ge (by omega) (by omega))) (fun hc => ?_)
      refine lv_aload_n hx hb d_Li_insert_20 rfl (lv_at hl 2 rfl) ?_
      refine lv_aload_n hx hb d_Li_insert_21 rfl (lv_at hl 2 rfl) ?_
      refine lv_iload hx hb d_Li_insert_22 (lv_at hl 0 rfl) ?_
      refine lv_iconst (v := 1) hx hb d_Li_insert_24 (by decide) ?_
      refine lv_isub hx hb d_Li_insert_25 ?_
      refine lv_topi (fun z1 e_z1 => ?_)
      obtain rfl : z1 = nI (i - 1) := by rw [e_z1]; exact (sub1 (by omega))
      refine lv_iload hx hb d_Li_insert_26 (lv_at hl 0 rfl) ?_
      refine ep_callH (W.runV (As := [.ref a, .int (nI (i - 1)), .int (nI i)]) (rest := []) ⟨hx, hb, hml, hown, hg⟩ (m_Li_copyOperation l D cI cJ cZ cO a n mo1 na1 aa1 bb1 re1 ef1 (i - 1) i (by omega) (by omega) (bz_n hz1 _)) (ep_cwV 3 hg tw_408 tw_410 ts_4 tw_3 tk_Li_copyOperation rfl rfl (by decide +kernel) ⟨(Nat.le_of_ble_eq_true rfl), (Nat.le_of_ble_eq_true rfl)⟩) ⟨ep_blind, va_recv (q0 := 0) (ci := 1) hK hP rfl rfl, ep_pre hKn (hP)⟩ rfl rfl hl.1 rfl (lv_room (Nat.le_of_ble_eq_true rfl)) d_Li_insert_28 ⟨Nat.zero_le _, Nat.zero_le _⟩) hS (fun q h => h) (fun H locs hsz9 hk1 hP1 hS => ?_)
      refine W.eq (g2 := F0 m 31 ls []) rfl ?_
      have hP : va_P D cls (wLi cI cJ cZ a n (upd mo1 i (mo1 (i - 1))) (upd na1 i (na1 (i - 1))) (upd aa1 i (aa1 (i - 1))) (upd bb1 i (bb1 (i - 1))) (vp_updL re1 i (re1 (i - 1))) (upd ef1 i (ef1 (i - 1)))) H := hP1
      refine lv_iinc (k := 0) (lv' := [(6, .int (nI (i - 1))), (5, .int (nI r)), (0, .ref a), (1, .int t), (2, .int nm), (3, .int x), (4, .int y)]) hx hb d_Li_insert_31 hl rfl (dec1 (by omega)) (by decide) rfl (fun ls hl => ?_)
      refine lv_goto (tgt := 13) hx hb d_Li_insert_34 (by decide) ?_
      exact ih (i - 1) _ _ _ _ _ _ H locs ls (by omega) (by omega) (bz_upd hz1 _ (hz1 _)) q0 q1 q2 q3 q4 q5 (lv_sub hl [0, 1, 2, 3, 4, 5, 6] rfl) hP hS
  exact key (n - r) n mo na aa bb re ef s.heap [] ls (by omega) (by omega) hz hf0 hf1 hf2 hf3 hf4 hf5 hl hP hS

set_option maxHeartbeats 4000000 in
set_option maxRecDepth 100000 in
theorem m_Li_remove (l : Launch) (D : va_G) (cI cJ cZ cO : ClassId) (a n : Nat) (mo na aa bb : Nat → Int32) (re : Nat → Int64) (ef : Nat → Int32) (i0 : Nat) (hn : n ≤ 32) (hi0 : i0 < n) (hz : bz ef) : Met l y_Li_remove (k_Li_remove :: gt) rm_Li_remove (Pc0 D cI cJ cZ cO [.ref a, .int (nI i0)] (fun H => va_P D cls (wLi cI cJ cZ a n mo na aa bb re ef) H)) (Qd (blk a 7) none (fun H => va_P D cls (wLi cI cJ cZ a (n - 1) (shd mo (n - 1 - i0) i0) (shd na (n - 1 - i0) i0) (shd aa (n - 1 - i0) i0) (shd bb (n - 1 - i0) i0) (shdL re (n - 1 - i0) i0) (shd ef (n - 1 - i0) i0)) H)) 0 0 (blk a 7) := by
  refine Met.ofW (cc := c_Li_remove) (maxL := 3) (ret := none) (by decide) rfl ?_
  intro p e s m args below meth c s₁ B hml hv
  obtain ⟨rfl, hKn, hP⟩ := hv
  have hx := B.exec
  have hb := B.bytes
  have hr := B.returns
  have hts := atoms_spec (ws := k_Li_remove :: gt) B.pre
  have hg : ∀ w ∈ gt, w.before _ s = true := fun w h => hts w (List.mem_cons_of_mem _ h)
  have hown : s.vm.findClass R_Li = some m.cls := findClass_of_methodNamed B.named
  have hlocks := B.notSynchronized
  have hK := hKn.1
  have hl := lv_entry ([.ref a, .int (nI i0)]) (n := 3) (Nat.le_of_ble_eq_true rfl)
  rw [lg_entry_eq]
  generalize (lg_sl ([.ref a, .int (nI i0)]) ++ List.replicate (3 - (lg_sl ([.ref a, .int (nI i0)])).length) Slot.unset).toArray = ls at hl ⊢
  have hl : lv_has ls 3 [(0, .ref a), (1, .int (nI i0))] := hl
  have hS : va_S (blk a 7) s.heap s.heap [] := va_S.rf
  have hD : va_D (blk a 7) (wLi cI cJ cZ a n mo na aa bb re ef) := wLi_D
  refine lv_aload_n hx hb d_Li_remove_0 rfl (lv_at hl 0 rfl) ?_
  refine lv_dup hx hb d_Li_remove_1 rfl ?_
  refine va_get (D := D) (ci := 1) (v := .int (nI n)) (C := R_Li) (T := F_Li) (N := 7) hx hb hg in_Li hown hK hP 0 rfl rfl 0 (Nat.le_of_ble_eq_true rfl) (hg _ tw_43) (fun _ h9 => h9) rfl d_Li_remove_2 ?_
  refine lv_iconst (v := 1) hx hb d_Li_remove_5 (by decide) ?_
  refine lv_isub hx hb d_Li_remove_6 ?_
  refine lv_topi (fun z0 e_z0 => ?_)
  obtain rfl : z0 = nI (n - 1) := by rw [e_z0]; exact (sub1 (by omega))
  refine va_put (D := D) (ci := 1) (v := .int (nI (n - 1))) (ty := .int) (C := R_Li) (T := F_Li) (N := 7) hx hb hg in_Li t_Li t_Li_ok n_Li hown hK hP hD hS 0 rfl rfl 0 (Nat.le_of_ble_eq_true rfl) (hg _ tw_43) (fun _ h9 => h9) rfl (by decide +kernel) rfl rfl (Nat.le_of_ble_eq_true rfl) d_Li_remove_7 (fun H locs hP hD hS => ?_)
  have hP : va_P D cls (wLi cI cJ cZ a (n - 1) mo na aa bb re ef) H := hP
  have hD : va_D (blk a 7) (wLi cI cJ cZ a (n - 1) mo na aa bb re ef) := hD
  refine lv_iload_n hx hb d_Li_remove_10 rfl (lv_at hl 1 rfl) ?_
  refine lv_istore_n (lv' := [(2, .int (nI i0)), (0, .ref a), (1, .int (nI i0))]) hx hb d_Li_remove_11 rfl hl (by decide) rfl (fun ls hl => ?_)
  generalize hf0 : shd mo (n - 1 - i0) i0 = M
  generalize hf1 : shd na (n - 1 - i0) i0 = Na
  generalize hf2 : shd aa (n - 1 - i0) i0 = Aa
  generalize hf3 : shd bb (n - 1 - i0) i0 = Bb
  generalize hf4 : shdL re (n - 1 - i0) i0 = Re
  generalize hf5 : shd ef (n - 1 - i0) i0 = Ef
  have key : ∀ (k i : Nat) (mo1 na1 aa1 bb1 : Nat → Int32) (re1 : Nat → Int64) (ef1 : Nat → Int32) (H : Heap) (locs : List Loc) (ls : Array Slot), i + k = n - 1 → bz ef1 → shd mo1 k i = M → shd na1 k i = Na → shd aa1 k i = Aa → shd bb1 k i = Bb → shdL re1 k i = Re → shd ef1 k i = Ef → lv_has ls 3 [(2, .int (nI i)), (0, .ref a), (1, .int (nI i0))] → va_P D cls (wLi cI cJ cZ a (n - 1) mo1 na1 aa1 bb1 re1 ef1) H → va_S (blk a 7) s.heap H locs → W p l e (headSpec (k_Li_remove :: gt) rm_Li_remove).room s m ([.ref a, .int (nI i0)] : List Value).toArray below meth c H locs 0 0 (MQ below (Qd (blk a 7) none (fun H => va_P D cls (wLi cI cJ cZ a (n - 1) M Na Aa Bb Re Ef) H)) ([.ref a, .int (nI i0)] : List Value).toArray s 0 0 (blk a 7)) (F0 m 12 ls []) := by
    intro k
    induction k with
    | zero =>
      intro i mo1 na1 aa1 bb1 re1 ef1 H locs ls hi hz1 q0 q1 q2 q3 q4 q5 hl hP hS
      obtain rfl : mo1 = M := q0
      obtain rfl : na1 = Na := q1
      obtain rfl : aa1 = Aa := q2
      obtain rfl : bb1 = Bb := q3
      obtain rfl : re1 = Re := q4
      obtain rfl : ef1 = Ef := q5
      refine lv_iload_n hx hb d_Li_remove_12 rfl (lv_at hl 0 rfl) ?_
      refine lv_aload_n hx hb d_Li_remove_13 rfl (lv_at hl 1 rfl) ?_
      refine va_get (D := D) (ci := 1) (v := .int (nI (n - 1))) (C := R_Li) (T := F_Li) (N := 7) hx hb hg in_Li hown hK hP 0 rfl rfl 0 (Nat.le_of_ble_eq_true rfl) (hg _ tw_43) (fun _ h9 => h9) rfl d_Li_remove_14 ?_
      refine lv_icmp_ge (tgt := 35) hx hb d_Li_remove_17 (by decide) (fun hc => ?_) (fun hc => absurd (nI_le (by omega) (by omega)) hc)
      exact W.vret hx hb hr (fun t9 ht hW => ⟨rfl, hS.F ht, by rw [ht]; exact hP⟩) hS.2.2 d_Li_remove_35
    | succ k ih =>
      intro i mo1 na1 aa1 bb1 re1 ef1 H locs ls hi hz1 q0 q1 q2 q3 q4 q5 hl hP hS
      refine lv_iload_n hx hb d_Li_remove_12 rfl (lv_at hl 0 rfl) ?_
      refine lv_aload_n hx hb d_Li_remove_13 rfl (lv_at hl 1 rfl) ?_
      refine va_get (D := D) (ci := 1) (v := .int (nI (n - 1))) (C := R_Li) (T := F_Li) (N := 7) hx hb hg in_Li hown hK hP 0 rfl rfl 0 (Nat.le_of_ble_eq_true rfl) (hg _ tw_43) (fun _ h9 => h9) rfl d_Li_remove_14 ?_
      refine lv_icmp_ge (tgt := 35) hx hb d_Li_remove_17 (by decide) (fun hc => absurd hc (nI_ge (by omega) (by omega))) (fun hc => ?_)
      refine lv_aload_n hx hb d_Li_remove_20 rfl (lv_at hl 1 rfl) ?_
      refine lv_aload_n hx hb d_Li_remove_21 rfl (lv_at hl 1 rfl) ?_
      refine lv_iload_n hx hb d_Li_remove_22 rfl (lv_at hl 0 rfl) ?_
      refine lv_iconst (v := 1) hx hb d_Li_remove_23 (by decide) ?_
      refine lv_iadd hx hb d_Li_remove_24 ?_
      refine lv_topi (fun z1 e_z1 => ?_)
      obtain rfl : z1 = nI (i + 1) := by rw [e_z1]; exact (nI_1 i)
      refine lv_iload_n hx hb d_Li_remove_25 rfl (lv_at hl 0 rfl) ?_
      refine ep_callH (W.runV (As := [.ref a, .int (nI (i + 1)), .int (nI i)]) (rest := []) ⟨hx, hb, hml, hown, hg⟩ (m_Li_copyOperation l D cI cJ cZ cO a (n - 1) mo1 na1 aa1 bb1 re1 ef1 (i + 1) i (by omega) (by omega) (bz_n hz1 _)) (ep_cwV 3 hg tw_408 tw_410 ts_4 tw_3 tk_Li_copyOperation rfl rfl (by decide +kernel) ⟨(Nat.le_of_ble_eq_true rfl), (Nat.le_of_ble_eq_true rfl)⟩) ⟨ep_blind, va_recv (q0 := 0) (ci := 1) hK hP rfl rfl, ep_pre hKn (hP)⟩ rfl rfl hl.1 rfl (lv_room (Nat.le_of_ble_eq_true rfl)) d_Li_remove_26 ⟨Nat.zero_le _, Nat.zero_le _⟩) hS (fun q h => h) (fun H locs hsz9 hk1 hP1 hS => ?_)
      refine W.eq (g2 := F0 m 29 ls []) rfl ?_
      have hP : va_P D cls (wLi cI cJ cZ a (n - 1) (upd mo1 i (mo1 (i + 1))) (upd na1 i (na1 (i + 1))) (upd aa1 i (aa1 (i + 1))) (upd bb1 i (bb1 (i + 1))) (vp_updL re1 i (re1 (i + 1))) (upd ef1 i (ef1 (i + 1)))) H := hP1
      refine lv_iinc (k := 0) (lv' := [(2, .int (nI (i + 1))), (0, .ref a), (1, .int (nI i0))]) hx hb d_Li_remove_29 hl rfl (inc1 _) (by decide) rfl (fun ls hl => ?_)
      refine lv_goto (tgt := 12) hx hb d_Li_remove_32 (by decide) ?_
      exact ih (i + 1) _ _ _ _ _ _ H locs ls (by omega) (bz_upd hz1 _ (hz1 _)) q0 q1 q2 q3 q4 q5 (lv_sub hl [0, 1, 2] rfl) hP hS
  exact key (n - 1 - i0) i0 mo na aa bb re ef H locs ls (by omega) hz hf0 hf1 hf2 hf3 hf4 hf5 hl hP hS

set_option maxHeartbeats 4000000 in
set_option maxRecDepth 100000 in
theorem m_Li_copyFrom (l : Launch) (D : va_G) (cI cJ cZ cO : ClassId) (a n : Nat) (mo na aa bb : Nat → Int32) (re : Nat → Int64) (ef : Nat → Int32) (b n2 : Nat) (mo2 na2 aa2 bb2 : Nat → Int32) (re2 : Nat → Int64) (ef2 : Nat → Int32) (hab : b + 7 ≤ a ∨ a + 7 ≤ b) (hn : n2 ≤ 32) (hz : bz ef2) : Met l y_Li_copyFrom (k_Li_copyFrom :: gt) rm_Li_copyFrom (Pc0 D cI cJ cZ cO [.ref a, .ref b] (fun H => va_P D cls (wLi cI cJ cZ a n mo na aa bb re ef) H ∧ va_P D cls (wLi cI cJ cZ b n2 mo2 na2 aa2 bb2 re2 ef2) H)) (Qd (blk a 7) none (fun H => va_P D cls (wLi cI cJ cZ a n2 (cpf mo mo2 n2 0) (cpf na na2 n2 0) (cpf aa aa2 n2 0) (cpf bb bb2 n2 0) (cpfL re re2 n2 0) (cpf ef ef2 n2 0)) H)) 0 0 (blk a 7) := by
  refine Met.ofW (cc := c_Li_copyFrom) (maxL := 3) (ret := none) (by decide) rfl ?_
  intro p e s m args below meth c s₁ B hml hv
  obtain ⟨rfl, hKn, hP, hP2⟩ := hv
  have hx := B.exec
  have hb := B.bytes
  have hr := B.returns
  have hts := atoms_spec (ws := k_Li_copyFrom :: gt) B.pre
  have hg : ∀ w ∈ gt, w.before _ s = true := fun w h => hts w (List.mem_cons_of_mem _ h)
  have hown : s.vm.findClass R_Li = some m.cls := findClass_of_methodNamed B.named
  have hlocks := B.notSynchronized
  have hK := hKn.1
  have hl := lv_entry ([.ref a, .ref b]) (n := 3) (Nat.le_of_ble_eq_true rfl)
  rw [lg_entry_eq]
  generalize (lg_sl ([.ref a, .ref b]) ++ List.replicate (3 - (lg_sl ([.ref a, .ref b])).length) Slot.unset).toArray = ls at hl ⊢
  have hl : lv_has ls 3 [(0, .ref a), (1, .ref b)] := hl
  have hP20 := hP2
  have hS : va_S (blk a 7) s.heap s.heap [] := va_S.rf
  have hD : va_D (blk a 7) (wLi cI cJ cZ a n mo na aa bb re ef) := wLi_D
  refine lv_aload_n hx hb d_Li_copyFrom_0 rfl (lv_at hl 0 rfl) ?_
  refine lv_aload_n hx hb d_Li_copyFrom_1 rfl (lv_at hl 1 rfl) ?_
  refine va_get (D := D) (ci := 1) (v := .int (nI n2)) (C := R_Li) (T := F_Li) (N := 7) hx hb hg in_Li hown hK hP2 0 rfl rfl 0 (Nat.le_of_ble_eq_true rfl) (hg _ tw_43) (fun _ h9 => h9) rfl d_Li_copyFrom_2 ?_
  refine va_put (D := D) (ci := 1) (v := .int (nI n2)) (ty := .int) (C := R_Li) (T := F_Li) (N := 7) hx hb hg in_Li t_Li t_Li_ok n_Li hown hK hP hD hS 0 rfl rfl 0 (Nat.le_of_ble_eq_true rfl) (hg _ tw_43) (fun _ h9 => h9) rfl (by decide +kernel) rfl rfl (Nat.le_of_ble_eq_true rfl) d_Li_copyFrom_5 (fun H locs hP hD hS => ?_)
  have hP : va_P D cls (wLi cI cJ cZ a n2 mo na aa bb re ef) H := hP
  have hD : va_D (blk a 7) (wLi cI cJ cZ a n2 mo na aa bb re ef) := hD
  have hP2 := wo_kp hP20 hS (wLi_off hab)
  refine lv_iconst (v := 0) hx hb d_Li_copyFrom_8 (by decide) ?_
  refine lv_topi (fun z0 e_z0 => ?_)
  obtain rfl : z0 = nI 0 := by rw [e_z0]; exact nI_0.symm
  refine lv_istore_n (lv' := [(2, .int (nI 0)), (0, .ref a), (1, .ref b)]) hx hb d_Li_copyFrom_9 rfl hl (by decide) rfl (fun ls hl => ?_)
  generalize hf0 : cpf mo mo2 n2 0 = M
  generalize hf1 : cpf na na2 n2 0 = Na
  generalize hf2 : cpf aa aa2 n2 0 = Aa
  generalize hf3 : cpf bb bb2 n2 0 = Bb
  generalize hf4 : cpfL re re2 n2 0 = Re
  generalize hf5 : cpf ef ef2 n2 0 = Ef
  have key : ∀ (k i : Nat) (mo1 na1 aa1 bb1 : Nat → Int32) (re1 : Nat → Int64) (ef1 : Nat → Int32) (H : Heap) (locs : List Loc) (ls : Array Slot), i + k = n2 → cpf mo1 mo2 k i = M → cpf na1 na2 k i = Na → cpf aa1 aa2 k i = Aa → cpf bb1 bb2 k i = Bb → cpfL re1 re2 k i = Re → cpf ef1 ef2 k i = Ef → lv_has ls 3 [(2, .int (nI i)), (0, .ref a), (1, .ref b)] → va_P D cls (wLi cI cJ cZ a n2 mo1 na1 aa1 bb1 re1 ef1) H → va_S (blk a 7) s.heap H locs → W p l e (headSpec (k_Li_copyFrom :: gt) rm_Li_copyFrom).room s m ([.ref a, .ref b] : List Value).toArray below meth c H locs 0 0 (MQ below (Qd (blk a 7) none (fun H => va_P D cls (wLi cI cJ cZ a n2 M Na Aa Bb Re Ef) H)) ([.ref a, .ref b] : List Value).toArray s 0 0 (blk a 7)) (F0 m 10 ls []) := by
    intro k
    induction k with
    | zero =>
      intro i mo1 na1 aa1 bb1 re1 ef1 H locs ls hi q0 q1 q2 q3 q4 q5 hl hP hS
      obtain rfl : mo1 = M := q0
      obtain rfl : na1 = Na := q1
      obtain rfl : aa1 = Aa := q2
      obtain rfl : bb1 = Bb := q3
      obtain rfl : re1 = Re := q4
      obtain rfl : ef1 = Ef := q5
      refine lv_iload_n hx hb d_Li_copyFrom_10 rfl (lv_at hl 0 rfl) ?_
      refine lv_aload_n hx hb d_Li_copyFrom_11 rfl (lv_at hl 1 rfl) ?_
      refine va_get (D := D) (ci := 1) (v := .int (nI n2)) (C := R_Li) (T := F_Li) (N := 7) hx hb hg in_Li hown hK hP 0 rfl rfl 0 (Nat.le_of_ble_eq_true rfl) (hg _ tw_43) (fun _ h9 => h9) rfl d_Li_copyFrom_12 ?_
      refine lv_icmp_ge (tgt := 31) hx hb d_Li_copyFrom_15 (by decide) (fun hc => ?_) (fun hc => absurd (nI_le (by omega) (by omega)) hc)
      exact W.vret hx hb hr (fun t9 ht hW => ⟨rfl, hS.F ht, by rw [ht]; exact hP⟩) hS.2.2 d_Li_copyFrom_31
    | succ k ih =>
      intro i mo1 na1 aa1 bb1 re1 ef1 H locs ls hi q0 q1 q2 q3 q4 q5 hl hP hS
      have hP2 := wo_kp hP20 hS (wLi_off hab)
      refine lv_iload_n hx hb d_Li_copyFrom_10 rfl (lv_at hl 0 rfl) ?_
      refine lv_aload_n hx hb d_Li_copyFrom_11 rfl (lv_at hl 1 rfl) ?_
      refine va_get (D := D) (ci := 1) (v := .int (nI n2)) (C := R_Li) (T := F_Li) (N := 7) hx hb hg in_Li hown hK hP 0 rfl rfl 0 (Nat.le_of_ble_eq_true rfl) (hg _ tw_43) (fun _ h9 => h9) rfl d_Li_copyFrom_12 ?_
      refine lv_icmp_ge (tgt := 31) hx hb d_Li_copyFrom_15 (by decide) (fun hc => absurd hc (nI_ge (by omega) (by omega))) (fun hc => ?_)
      refine lv_aload_n hx hb d_Li_copyFrom_18 rfl (lv_at hl 1 rfl) ?_
      refine lv_aload_n hx hb d_Li_copyFrom_19 rfl (lv_at hl 2 rfl) ?_
      refine lv_iload_n hx hb d_Li_copyFrom_20 rfl (lv_at hl 0 rfl) ?_
      refine lv_iload_n hx hb d_Li_copyFrom_21 rfl (lv_at hl 0 rfl) ?_
      refine ep_callH (W.runV (As := [.ref b, .int (nI i), .int (nI i)]) (rest := []) ⟨hx, hb, hml, hown, hg⟩ (m_Li_copyOperation_of l D cI cJ cZ cO a n2 mo1 na1 aa1 bb1 re1 ef1 b n2 mo2 na2 aa2 bb2 re2 ef2 hab i i (by omega) (by omega) (bz_n hz _)) (ep_cwV 3 hg tw_408 tw_410 ts_4 tw_3 tk_Li_copyOperation rfl rfl (by decide +kernel) ⟨(Nat.le_of_ble_eq_true rfl), (Nat.le_of_ble_eq_true rfl)⟩) ⟨ep_blind, va_recv (q0 := 0) (ci := 1) hK hP rfl rfl, ep_pre hKn (⟨hP, hP2⟩)⟩ rfl rfl hl.1 rfl (lv_room (Nat.le_of_ble_eq_true rfl)) d_Li_copyFrom_22 ⟨Nat.zero_le _, Nat.zero_le _⟩) hS (fun q h => h) (fun H locs hsz9 hk1 hP1 hS => ?_)
      refine W.eq (g2 := F0 m 25 ls []) rfl ?_
      have hP : va_P D cls (wLi cI cJ cZ a n2 (upd mo1 i (mo2 i)) (upd na1 i (na2 i)) (upd aa1 i (aa2 i)) (upd bb1 i (bb2 i)) (vp_updL re1 i (re2 i)) (upd ef1 i (ef2 i))) H := hP1
      refine lv_iinc (k := 0) (lv' := [(2, .int (nI (i + 1))), (0, .ref a), (1, .ref b)]) hx hb d_Li_copyFrom_25 hl rfl (inc1 _) (by decide) rfl (fun ls hl => ?_)
      refine lv_goto (tgt := 10) hx hb d_Li_copyFrom_28 (by decide) ?_
      exact ih (i + 1) _ _ _ _ _ _ H locs ls (by omega) q0 q1 q2 q3 q4 q5 (lv_sub hl [0, 1, 2] rfl) hP hS
  exact key n2 0 mo na aa bb re ef H locs ls (by omega) hf0 hf1 hf2 hf3 hf4 hf5 hl hP hS

set_option maxHeartbeats 4000000 in
set_option maxRecDepth 100000 in
theorem m_Li_countEffects (l : Launch) (D : va_G) (cI cJ cZ cO : ClassId) (a n : Nat) (mo na aa bb : Nat → Int32) (re : Nat → Int64) (ef : Nat → Int32) (t u : Int32) (hn : n ≤ 32) : Met l y_Li_countEffects (k_Li_countEffects :: gt) rm_Li_countEffects (Pc0 D cI cJ cZ cO [.ref a, .int t, .int u] (fun H => va_P D cls (wLi cI cJ cZ a n mo na aa bb re ef) H)) (Qp (some (.int (nI (cef mo ef u (n - pfr mo t n 0) (pfr mo t n 0)))))) 0 0 (fun _ => False) := by
  refine Met.ofW (cc := c_Li_countEffects) (maxL := 5) (ret := (Option.some FieldType.int)) (by decide) rfl ?_
  intro p e s m args below meth c s₁ B hml hv
  obtain ⟨rfl, hKn, hP⟩ := hv
  have hx := B.exec
  have hb := B.bytes
  have hr := B.returns
  have hts := atoms_spec (ws := k_Li_countEffects :: gt) B.pre
  have hg : ∀ w ∈ gt, w.before _ s = true := fun w h => hts w (List.mem_cons_of_mem _ h)
  have hown : s.vm.findClass R_Li = some m.cls := findClass_of_methodNamed B.named
  have hlocks := B.notSynchronized
  have hK := hKn.1
  have hl := lv_entry ([.ref a, .int t, .int u]) (n := 5) (Nat.le_of_ble_eq_true rfl)
  rw [lg_entry_eq]
  generalize (lg_sl ([.ref a, .int t, .int u]) ++ List.replicate (5 - (lg_sl ([.ref a, .int t, .int u])).length) Slot.unset).toArray = ls at hl ⊢
  have hl : lv_has ls 5 [(0, .ref a), (1, .int t), (2, .int u)] := hl
  refine lv_iconst (v := 0) hx hb d_Li_countEffects_0 (by decide) ?_
  refine lv_topi (fun z0 e_z0 => ?_)
  obtain rfl : z0 = nI 0 := by rw [e_z0]; exact nI_0.symm
  refine lv_istore_n (lv' := [(3, .int (nI 0)), (0, .ref a), (1, .int t), (2, .int u)]) hx hb d_Li_countEffects_1 rfl hl (by decide) rfl (fun ls hl => ?_)
  refine lv_aload_n hx hb d_Li_countEffects_2 rfl (lv_at hl 1 rfl) ?_
  refine lv_iload_n hx hb d_Li_countEffects_3 rfl (lv_at hl 2 rfl) ?_
  refine ep_callP (W.runV (As := [.int t]) (rest := []) ⟨hx, hb, hml, hown, hg⟩ (m_Li_placeFrom l D cI cJ cZ cO a n mo na aa bb re ef t hn) (ep_cwV 1 hg tw_352 tw_353 tw_354 tw_3 tk_Li_placeFrom rfl rfl (by decide +kernel) ⟨(Nat.le_of_ble_eq_true rfl), (Nat.le_of_ble_eq_true rfl)⟩) ⟨ep_blind, va_recv (q0 := 0) (ci := 1) hK hP rfl rfl, ep_pre hKn (hP)⟩ rfl rfl hl.1 rfl (lv_room (Nat.le_of_ble_eq_true rfl)) d_Li_countEffects_4 ⟨Nat.zero_le _, Nat.zero_le _⟩) ?_
  refine W.eq (g2 := F0 m 7 ls [.int (nI (pfr mo t n 0))]) rfl ?_
  have hp0 := pfr_le mo t n 0
  generalize hp1 : pfr mo t n 0 = r at hp0 ⊢
  refine lv_istore (lv' := [(4, .int (nI r)), (3, .int (nI 0)), (0, .ref a), (1, .int t), (2, .int u)]) hx hb d_Li_countEffects_7 hl (by decide) rfl (fun ls hl => ?_)
  generalize hT : cef mo ef u (n - r) r = T9
  have key : ∀ (k i f : Nat) (ls : Array Slot), i + k = n → f + cef mo ef u k i = T9 → lv_has ls 5 [(4, .int (nI i)), (3, .int (nI f)), (0, .ref a), (1, .int t), (2, .int u)] → W p l e (headSpec (k_Li_countEffects :: gt) rm_Li_countEffects).room s m ([.ref a, .int t, .int u] : List Value).toArray below meth c s.heap [] 0 0 (MQ below (Qp (some (.int (nI T9)))) ([.ref a, .int t, .int u] : List Value).toArray s 0 0 (fun _ => False)) (F0 m 9 ls []) := by
    intro k
    induction k with
    | zero =>
      intro i f ls hi hq hl
      refine lv_iload hx hb d_Li_countEffects_9 (lv_at hl 0 rfl) ?_
      refine lv_aload_n hx hb d_Li_countEffects_11 rfl (lv_at hl 2 rfl) ?_
      refine va_get (D := D) (ci := 1) (v := .int (nI n)) (C := R_Li) (T := F_Li) (N := 7) hx hb hg in_Li hown hK hP 0 rfl rfl 0 (Nat.le_of_ble_eq_true rfl) (hg _ tw_43) (fun _ h9 => h9) rfl d_Li_countEffects_12 ?_
      refine lv_icmp_ge (tgt := 48) hx hb d_Li_countEffects_15 (by decide) (fun hc => ?_) (fun hc => absurd (nI_le (by omega) (by omega)) hc)
      refine lv_iload_n hx hb d_Li_countEffects_48 rfl (lv_at hl 1 rfl) ?_
      exact W.iret (v := nI f) hx hb hr (fun t9 ht hW => ⟨by rw [← hq]; rfl, ht⟩) (fun q h => nomatch h) d_Li_countEffects_49
    | succ k ih =>
      intro i f ls hi hq hl
      unfold cef at hq
      refine lv_iload hx hb d_Li_countEffects_9 (lv_at hl 0 rfl) ?_
      refine lv_aload_n hx hb d_Li_countEffects_11 rfl (lv_at hl 2 rfl) ?_
      refine va_get (D := D) (ci := 1) (v := .int (nI n)) (C := R_Li) (T := F_Li) (N := 7) hx hb hg in_Li hown hK hP 0 rfl rfl 0 (Nat.le_of_ble_eq_true rfl) (hg _ tw_43) (fun _ h9 => h9) rfl d_Li_countEffects_12 ?_
      refine lv_icmp_ge (tgt := 48) hx hb d_Li_countEffects_15 (by decide) (fun hc => absurd hc (nI_ge (by omega) (by omega))) (fun hc => ?_)
      refine lv_aload_n hx hb d_Li_countEffects_18 rfl (lv_at hl 2 rfl) ?_
      refine va_get (D := D) (ci := 1) (v := .ref (a + 1)) (C := R_Li) (T := F_Li) (N := 7) hx hb hg in_Li hown hK hP 0 rfl rfl 1 (Nat.le_of_ble_eq_true rfl) (hg _ tw_45) (fun _ h9 => h9) rfl d_Li_countEffects_19 ?_
      refine lv_iload hx hb d_Li_countEffects_22 (lv_at hl 0 rfl) ?_
      refine ep_iald hx hb hK hP 1 0 rfl rfl (i := i) (by omega) (by decide) d_Li_countEffects_24 ?_
      refine lv_iload_n hx hb d_Li_countEffects_25 rfl (lv_at hl 4 rfl) ?_
      refine lv_icmp_gt (tgt := 48) hx hb d_Li_countEffects_26 (by decide) (fun hc => ?_) (fun hc => ?_)
      · rw [if_neg (k2_nle hc)] at hq
        refine lv_iload_n hx hb d_Li_countEffects_48 rfl (lv_at hl 1 rfl) ?_
        exact W.iret (v := nI f) hx hb hr (fun t9 ht hW => ⟨by rw [← hq]; rfl, ht⟩) (fun q h => nomatch h) d_Li_countEffects_49
      · rw [if_pos (Int32.not_lt.mp hc)] at hq
        refine lv_aload_n hx hb d_Li_countEffects_29 rfl (lv_at hl 2 rfl) ?_
        refine va_get (D := D) (ci := 1) (v := .ref (a + 6)) (C := R_Li) (T := F_Li) (N := 7) hx hb hg in_Li hown hK hP 0 rfl rfl 6 (Nat.le_of_ble_eq_true rfl) (hg _ tw_55) (fun _ h9 => h9) rfl d_Li_countEffects_30 ?_
        refine lv_iload hx hb d_Li_countEffects_33 (lv_at hl 0 rfl) ?_
        refine ep_zald hx hb hK hP 6 2 rfl rfl (i := i) (by omega) (by decide) d_Li_countEffects_35 ?_
        refine lv_if_eq (tgt := 42) hx hb d_Li_countEffects_36 (by decide) (fun hc => ?_) (fun hc => ?_)
        · rw [if_pos hc] at hq
          refine lv_iinc (k := 0) (lv' := [(4, .int (nI (i + 1))), (3, .int (nI f)), (0, .ref a), (1, .int t), (2, .int u)]) hx hb d_Li_countEffects_42 hl rfl (inc1 _) (by decide) rfl (fun ls hl => ?_)
          refine lv_goto (tgt := 9) hx hb d_Li_countEffects_45 (by decide) ?_
          exact ih (i + 1) f ls (by omega) (by omega) (lv_sub hl [0, 1, 2, 3, 4] rfl)
        · rw [if_neg hc] at hq
          refine lv_iinc (k := 1) (lv' := [(3, .int (nI (f + 1))), (4, .int (nI i)), (0, .ref a), (1, .int t), (2, .int u)]) hx hb d_Li_countEffects_39 hl rfl (inc1 _) (by decide) rfl (fun ls hl => ?_)
          refine lv_iinc (k := 1) (lv' := [(4, .int (nI (i + 1))), (3, .int (nI (f + 1))), (0, .ref a), (1, .int t), (2, .int u)]) hx hb d_Li_countEffects_42 hl rfl (inc1 _) (by decide) rfl (fun ls hl => ?_)
          refine lv_goto (tgt := 9) hx hb d_Li_countEffects_45 (by decide) ?_
          exact ih (i + 1) (f + 1) ls (by omega) (by omega) (lv_sub hl [0, 1, 2, 3, 4] rfl)
  exact key (n - r) r 0 ls (by omega) (by omega) hl
