/-! by wip/whole/gen/contents.py -/
set_option maxHeartbeats 4000000 in
set_option maxRecDepth 100000 in
theorem m_Re_clear (l : Launch) (D : va_G) (cI cJ cZ cO : ClassId) (b : Nat) (tot : Int64) (n : Nat) (r : Int64) (f : Int32) : Met l y_Re_clear (k_Re_clear :: gt) rm_Re_clear (Pc0 D cI cJ cZ cO [.ref b] (fun H => va_P D cls (wRe b tot n r f) H)) (Qd (blk b 1) none (fun H => va_P D cls (wRe b 0 n r f) H)) 0 0 (blk b 1) := by
  refine Met.ofW (cc := c_Re_clear) (maxL := 1) (ret := none) (by decide) rfl ?_
  intro p e s m args below meth c s₁ B hml hv
  obtain ⟨rfl, hKn, hP⟩ := hv
  have hx := B.exec
  have hb := B.bytes
  have hr := B.returns
  have hts := atoms_spec (ws := k_Re_clear :: gt) B.pre
  have hg : ∀ w ∈ gt, w.before _ s = true := fun w h => hts w (List.mem_cons_of_mem _ h)
  have hown : s.vm.findClass R_Re = some m.cls := findClass_of_methodNamed B.named
  have hlocks := B.notSynchronized
  have hK := hKn.1
  have hl := lv_entry ([.ref b]) (n := 1) (Nat.le_of_ble_eq_true rfl)
  rw [lg_entry_eq]
  generalize (lg_sl ([.ref b]) ++ List.replicate (1 - (lg_sl ([.ref b])).length) Slot.unset).toArray = ls at hl ⊢
  have hl : lv_has ls 1 [(0, .ref b)] := hl
  have hS : va_S (blk b 1) s.heap s.heap [] := va_S.rf
  have hD : va_D (blk b 1) (wRe b tot n r f) := blk_D wRe_in
  refine lv_aload_n hx hb d_Re_clear_0 rfl (lv_at hl 0 rfl) ?_
  refine lv_lconst (v := 0) hx hb d_Re_clear_1 (by decide) ?_
  refine va_put (D := D) (ci := 6) (v := .long 0) (ty := .long) (C := R_Re) (T := F_Re) (N := 4) hx hb hg in_Re t_Re t_Re_ok n_Re hown hK hP hD hS 0 rfl rfl 0 (Nat.le_of_ble_eq_true rfl) (hg _ tw_176) (fun _ h9 => h9) rfl (by decide +kernel) rfl rfl (Nat.le_of_ble_eq_true rfl) d_Re_clear_2 (fun H locs hP hD hS => ?_)
  have hP : va_P D cls (wRe b 0 n r f) H := hP
  have hD : va_D (blk b 1) (wRe b 0 n r f) := hD
  exact W.vret hx hb hr (fun t9 ht hW => ⟨rfl, hS.F ht, by rw [ht]; exact hP⟩) hS.2.2 d_Re_clear_5

set_option maxHeartbeats 4000000 in
set_option maxRecDepth 100000 in
theorem m_Re_perform (l : Launch) (D : va_G) (cI cJ cZ cO : ClassId) (b : Nat) (tot : Int64) (n : Nat) (r : Int64) (f : Int32) (nm x y : Int32) : Met l y_Re_perform (k_Re_perform :: gt) rm_Re_perform (Pc0 D cI cJ cZ cO [.ref b, .int nm, .int x, .int y] (fun H => va_P D cls (wRe b tot n r f) H)) (Qd (blk b 1) none (fun H => va_P D cls (wRe b (if (tot + x.toInt64) < 0 then 0 else tot + x.toInt64) n (if (tot + x.toInt64) < 0 then 0 else tot + x.toInt64) 1) H)) 0 0 (blk b 1) := by
  refine Met.ofW (cc := c_Re_perform) (maxL := 4) (ret := none) (by decide) rfl ?_
  intro p e s m args below meth c s₁ B hml hv
  obtain ⟨rfl, hKn, hP⟩ := hv
  have hx := B.exec
  have hb := B.bytes
  have hr := B.returns
  have hts := atoms_spec (ws := k_Re_perform :: gt) B.pre
  have hg : ∀ w ∈ gt, w.before _ s = true := fun w h => hts w (List.mem_cons_of_mem _ h)
  have hown : s.vm.findClass R_Re = some m.cls := findClass_of_methodNamed B.named
  have hlocks := B.notSynchronized
  have hK := hKn.1
  have hl := lv_entry ([.ref b, .int nm, .int x, .int y]) (n := 4) (Nat.le_of_ble_eq_true rfl)
  rw [lg_entry_eq]
  generalize (lg_sl ([.ref b, .int nm, .int x, .int y]) ++ List.replicate (4 - (lg_sl ([.ref b, .int nm, .int x, .int y])).length) Slot.unset).toArray = ls at hl ⊢
  have hl : lv_has ls 4 [(0, .ref b), (1, .int nm), (2, .int x), (3, .int y)] := hl
  have hS : va_S (blk b 1) s.heap s.heap [] := va_S.rf
  have hD : va_D (blk b 1) (wRe b tot n r f) := blk_D wRe_in
  refine lv_aload_n hx hb d_Re_perform_0 rfl (lv_at hl 0 rfl) ?_
  refine lv_lconst (v := 0) hx hb d_Re_perform_1 (by decide) ?_
  refine lv_aload_n hx hb d_Re_perform_2 rfl (lv_at hl 0 rfl) ?_
  refine va_get (D := D) (ci := 6) (v := .long tot) (C := R_Re) (T := F_Re) (N := 4) hx hb hg in_Re hown hK hP 0 rfl rfl 0 (Nat.le_of_ble_eq_true rfl) (hg _ tw_176) (fun _ h9 => h9) rfl d_Re_perform_3 ?_
  refine lv_iload_n hx hb d_Re_perform_6 rfl (lv_at hl 2 rfl) ?_
  refine lv_i2l hx hb d_Re_perform_7 rfl ?_
  refine lv_ladd hx hb d_Re_perform_8 ?_
  refine va_mmax_long hx hb (hml.trans hl.1.symm) hown (hg _ tw_483) (hg _ tw_484) (hg _ tw_19) (hg _ tk_Ma_max) (Nat.le_of_ble_eq_true rfl) (Nat.le_of_ble_eq_true rfl) (Nat.zero_le _) (Nat.zero_le _) d_Re_perform_9 ?_
  refine va_put (D := D) (ci := 6) (v := .long (if (tot + x.toInt64) < 0 then 0 else tot + x.toInt64)) (ty := .long) (C := R_Re) (T := F_Re) (N := 4) hx hb hg in_Re t_Re t_Re_ok n_Re hown hK hP hD hS 0 rfl rfl 0 (Nat.le_of_ble_eq_true rfl) (hg _ tw_176) (fun _ h9 => h9) rfl (by decide +kernel) rfl rfl (Nat.le_of_ble_eq_true rfl) d_Re_perform_12 (fun H locs hP hD hS => ?_)
  have hP : va_P D cls (wRe b (if (tot + x.toInt64) < 0 then 0 else tot + x.toInt64) n r f) H := hP
  have hD : va_D (blk b 1) (wRe b (if (tot + x.toInt64) < 0 then 0 else tot + x.toInt64) n r f) := hD
  refine lv_aload_n hx hb d_Re_perform_15 rfl (lv_at hl 0 rfl) ?_
  refine lv_aload_n hx hb d_Re_perform_16 rfl (lv_at hl 0 rfl) ?_
  refine va_get (D := D) (ci := 6) (v := .long (if (tot + x.toInt64) < 0 then 0 else tot + x.toInt64)) (C := R_Re) (T := F_Re) (N := 4) hx hb hg in_Re hown hK hP 0 rfl rfl 0 (Nat.le_of_ble_eq_true rfl) (hg _ tw_176) (fun _ h9 => h9) rfl d_Re_perform_17 ?_
  refine ep_callH (ep_toC (va_runU (As := [.long (if (tot + x.toInt64) < 0 then 0 else tot + x.toInt64)]) (rest := []) ⟨hx, hb, hml, hown, hg⟩ (m_Ct_noteEffect_Re l D cI cJ cZ cO b (if (tot + x.toInt64) < 0 then 0 else tot + x.toInt64) n r f (if (tot + x.toInt64) < 0 then 0 else tot + x.toInt64)) (ep_cwU (owner := "EditablePast$Contents") 1 hg tw_486 tw_487 tw_488 tw_465 tw_4 tk_Ct_noteEffect rfl rfl rfl (by decide +kernel) ⟨(Nat.le_of_ble_eq_true rfl), (Nat.le_of_ble_eq_true rfl)⟩) ⟨ep_blind, va_recv (q0 := 0) (ci := 6) hK hP rfl rfl, ep_pre hKn (hP)⟩ rfl rfl hl.1 rfl (lv_room (Nat.le_of_ble_eq_true rfl)) d_Re_perform_20 ⟨Nat.zero_le _, Nat.zero_le _⟩)) hS (fun q h => h) (fun H locs hsz9 hk1 hP1 hS => ?_)
  refine W.eq (g2 := F0 m 23 ls []) rfl ?_
  have hP : va_P D cls (wRe b (if (tot + x.toInt64) < 0 then 0 else tot + x.toInt64) n (if (tot + x.toInt64) < 0 then 0 else tot + x.toInt64) 1) H := hP1
  have hD : va_D (blk b 1) (wRe b (if (tot + x.toInt64) < 0 then 0 else tot + x.toInt64) n (if (tot + x.toInt64) < 0 then 0 else tot + x.toInt64) 1) := blk_D wRe_in
  exact W.vret hx hb hr (fun t9 ht hW => ⟨rfl, hS.F ht, by rw [ht]; exact hP⟩) hS.2.2 d_Re_perform_23

set_option maxHeartbeats 4000000 in
set_option maxRecDepth 100000 in
theorem m_Se_clear (l : Launch) (D : va_G) (cI cJ cZ cO : ClassId) (b : Nat) (cn : Int32) (ld : Nat → Int32) (r : Int64) (f : Int32) : Met l y_Se_clear (k_Se_clear :: gt) rm_Se_clear (Pc0 D cI cJ cZ cO [.ref b] (fun H => va_P D cls (wSe cI b cn ld r f) H)) (Qd (blk b 2) none (fun H => va_P D cls (wSe cI b 16 (sal 16 0 ld) r f) H)) 0 0 (blk b 2) := by
  refine Met.ofW (cc := c_Se_clear) (maxL := 2) (ret := none) (by decide) rfl ?_
  intro p e s m args below meth c s₁ B hml hv
  obtain ⟨rfl, hKn, hP⟩ := hv
  have hx := B.exec
  have hb := B.bytes
  have hr := B.returns
  have hts := atoms_spec (ws := k_Se_clear :: gt) B.pre
  have hg : ∀ w ∈ gt, w.before _ s = true := fun w h => hts w (List.mem_cons_of_mem _ h)
  have hown : s.vm.findClass R_Se = some m.cls := findClass_of_methodNamed B.named
  have hlocks := B.notSynchronized
  have hK := hKn.1
  have hl := lv_entry ([.ref b]) (n := 2) (Nat.le_of_ble_eq_true rfl)
  rw [lg_entry_eq]
  generalize (lg_sl ([.ref b]) ++ List.replicate (2 - (lg_sl ([.ref b])).length) Slot.unset).toArray = ls at hl ⊢
  have hl : lv_has ls 2 [(0, .ref b)] := hl
  have hS : va_S (blk b 2) s.heap s.heap [] := va_S.rf
  have hD : va_D (blk b 2) (wSe cI b cn ld r f) := blk_D wSe_in
  refine lv_aload_n hx hb d_Se_clear_0 rfl (lv_at hl 0 rfl) ?_
  refine lv_bipush (v := 16) hx hb d_Se_clear_1 (by decide) ?_
  refine va_put (D := D) (ci := 7) (v := .int 16) (ty := .int) (C := R_Se) (T := F_Se) (N := 4) hx hb hg in_Se t_Se t_Se_ok n_Se hown hK hP hD hS 0 rfl rfl 1 (Nat.le_of_ble_eq_true rfl) (hg _ tw_111) (fun x9 h9 => u_same (hg _ tw_112) x9 h9) rfl (by decide +kernel) rfl rfl (Nat.le_of_ble_eq_true rfl) d_Se_clear_3 (fun H locs hP hD hS => ?_)
  have hP : va_P D cls (wSe cI b 16 ld r f) H := hP
  have hD : va_D (blk b 2) (wSe cI b 16 ld r f) := hD
  refine lv_iconst (v := 0) hx hb d_Se_clear_6 (by decide) ?_
  refine lv_topi (fun z1 e_z1 => ?_)
  obtain rfl : z1 = nI 0 := by rw [e_z1]; exact nI_0.symm
  refine lv_istore_n (lv' := [(1, .int (nI 0)), (0, .ref b)]) hx hb d_Se_clear_7 rfl hl (by decide) rfl (fun ls hl => ?_)
  generalize hf0 : sal 16 0 ld = M
  have key : ∀ (k i : Nat) (ld1 : Nat → Int32) (H : Heap) (locs : List Loc) (ls : Array Slot), i + k = 16 → sal k i ld1 = M → lv_has ls 2 [(1, .int (nI i)), (0, .ref b)] → va_P D cls (wSe cI b 16 ld1 r f) H → va_S (blk b 2) s.heap H locs → W p l e (headSpec (k_Se_clear :: gt) rm_Se_clear).room s m ([.ref b] : List Value).toArray below meth c H locs 0 0 (MQ below (Qd (blk b 2) none (fun H => va_P D cls (wSe cI b 16 M r f) H)) ([.ref b] : List Value).toArray s 0 0 (blk b 2)) (F0 m 8 ls []) := by
    intro k
    induction k with
    | zero =>
      intro i ld1 H locs ls hi q0 hl hP hS
      obtain rfl : ld1 = M := q0
      refine lv_iload_n hx hb d_Se_clear_8 rfl (lv_at hl 0 rfl) ?_
      refine lv_bipush (v := 16) hx hb d_Se_clear_9 (by decide) ?_
      refine lv_icmp_ge (tgt := 27) hx hb d_Se_clear_11 (by decide) (fun hc => ?_) (fun hc => absurd (by rw [show i = 16 by omega]; decide) hc)
      exact W.vret hx hb hr (fun t9 ht hW => ⟨rfl, hS.F ht, by rw [ht]; exact hP⟩) hS.2.2 d_Se_clear_27
    | succ k ih =>
      intro i ld1 H locs ls hi q0 hl hP hS
      have hD : va_D (blk b 2) (wSe cI b 16 ld1 r f) := blk_D wSe_in
      refine lv_iload_n hx hb d_Se_clear_8 rfl (lv_at hl 0 rfl) ?_
      refine lv_bipush (v := 16) hx hb d_Se_clear_9 (by decide) ?_
      refine lv_icmp_ge (tgt := 27) hx hb d_Se_clear_11 (by decide) (fun hc => absurd hc (nI_ge (b := 16) (by omega) (by decide))) (fun hc => ?_)
      refine lv_aload_n hx hb d_Se_clear_14 rfl (lv_at hl 1 rfl) ?_
      refine va_get (D := D) (ci := 7) (v := .ref (b + 1)) (C := R_Se) (T := F_Se) (N := 4) hx hb hg in_Se hown hK hP 0 rfl rfl 0 (Nat.le_of_ble_eq_true rfl) (hg _ tw_190) (fun _ h9 => h9) rfl d_Se_clear_15 ?_
      refine lv_iload_n hx hb d_Se_clear_18 rfl (lv_at hl 0 rfl) ?_
      refine lv_iload_n hx hb d_Se_clear_19 rfl (lv_at hl 0 rfl) ?_
      refine ep_iast hx hb hK hP hD hS 1 0 rfl rfl (i := i) (x := (nI i)) (by omega) (by decide) d_Se_clear_20 (fun H locs hP hD hS => ?_)
      have hP : va_P D cls (wSe cI b 16 (upd ld1 i (nI i)) r f) H := hP
      have hD : va_D (blk b 2) (wSe cI b 16 (upd ld1 i (nI i)) r f) := hD
      refine lv_iinc (k := 0) (lv' := [(1, .int (nI (i + 1))), (0, .ref b)]) hx hb d_Se_clear_21 hl rfl (inc1 _) (by decide) rfl (fun ls hl => ?_)
      refine lv_goto (tgt := 8) hx hb d_Se_clear_24 (by decide) ?_
      exact ih (i + 1) _ H locs ls (by omega) q0 (lv_sub hl [0, 1] rfl) hP hS
  exact key 16 0 ld H locs ls rfl hf0 hl hP hS

set_option maxHeartbeats 4000000 in
set_option maxRecDepth 100000 in
theorem m_Se_perform_0 (l : Launch) (D : va_G) (cI cJ cZ cO : ClassId) (b : Nat) (cn : Int32) (ld : Nat → Int32) (r : Int64) (f : Int32) (nm : Int32) (x y : Nat) (hx9 : x < 16) (hy9 : y < 16) (h0 : ld x = ld y) : Met l y_Se_perform (k_Se_perform :: gt) rm_Se_perform (Pc0 D cI cJ cZ cO [.ref b, .int nm, .int (nI x), .int (nI y)] (fun H => va_P D cls (wSe cI b cn ld r f) H)) (Qd (blk b 2) none (fun H => va_P D cls (wSe cI b cn ld 0 0) H)) 0 0 (blk b 2) := by
  refine Met.ofW (cc := c_Se_perform) (maxL := 7) (ret := none) (by decide) rfl ?_
  intro p e s m args below meth c s₁ B hml hv
  obtain ⟨rfl, hKn, hP⟩ := hv
  have hx := B.exec
  have hb := B.bytes
  have hr := B.returns
  have hts := atoms_spec (ws := k_Se_perform :: gt) B.pre
  have hg : ∀ w ∈ gt, w.before _ s = true := fun w h => hts w (List.mem_cons_of_mem _ h)
  have hown : s.vm.findClass R_Se = some m.cls := findClass_of_methodNamed B.named
  have hlocks := B.notSynchronized
  have hK := hKn.1
  have hl := lv_entry ([.ref b, .int nm, .int (nI x), .int (nI y)]) (n := 7) (Nat.le_of_ble_eq_true rfl)
  rw [lg_entry_eq]
  generalize (lg_sl ([.ref b, .int nm, .int (nI x), .int (nI y)]) ++ List.replicate (7 - (lg_sl ([.ref b, .int nm, .int (nI x), .int (nI y)])).length) Slot.unset).toArray = ls at hl ⊢
  have hl : lv_has ls 7 [(0, .ref b), (1, .int nm), (2, .int (nI x)), (3, .int (nI y))] := hl
  have hS : va_S (blk b 2) s.heap s.heap [] := va_S.rf
  have hD : va_D (blk b 2) (wSe cI b cn ld r f) := blk_D wSe_in
  refine lv_aload_n hx hb d_Se_perform_0 rfl (lv_at hl 0 rfl) ?_
  refine va_get (D := D) (ci := 7) (v := .ref (b + 1)) (C := R_Se) (T := F_Se) (N := 4) hx hb hg in_Se hown hK hP 0 rfl rfl 0 (Nat.le_of_ble_eq_true rfl) (hg _ tw_190) (fun _ h9 => h9) rfl d_Se_perform_1 ?_
  refine lv_iload_n hx hb d_Se_perform_4 rfl (lv_at hl 2 rfl) ?_
  refine ep_iald hx hb hK hP 1 0 rfl rfl (i := x) (by omega) (by decide) d_Se_perform_5 ?_
  refine lv_istore (lv' := [(4, .int (ld x)), (0, .ref b), (1, .int nm), (2, .int (nI x)), (3, .int (nI y))]) hx hb d_Se_perform_6 hl (by decide) rfl (fun ls hl => ?_)
  refine lv_aload_n hx hb d_Se_perform_8 rfl (lv_at hl 1 rfl) ?_
  refine va_get (D := D) (ci := 7) (v := .ref (b + 1)) (C := R_Se) (T := F_Se) (N := 4) hx hb hg in_Se hown hK hP 0 rfl rfl 0 (Nat.le_of_ble_eq_true rfl) (hg _ tw_190) (fun _ h9 => h9) rfl d_Se_perform_9 ?_
  refine lv_iload_n hx hb d_Se_perform_12 rfl (lv_at hl 4 rfl) ?_
  refine ep_iald hx hb hK hP 1 0 rfl rfl (i := y) (by omega) (by decide) d_Se_perform_13 ?_
  refine lv_istore (lv' := [(5, .int (ld y)), (4, .int (ld x)), (0, .ref b), (1, .int nm), (2, .int (nI x)), (3, .int (nI y))]) hx hb d_Se_perform_14 hl (by decide) rfl (fun ls hl => ?_)
  refine lv_iload hx hb d_Se_perform_16 (lv_at hl 1 rfl) ?_
  refine lv_iload hx hb d_Se_perform_18 (lv_at hl 0 rfl) ?_
  refine lv_icmp_ne (tgt := 28) hx hb d_Se_perform_20 (by decide) (fun hc => absurd (h0) hc) (fun hc => ?_)
  refine lv_aload_n hx hb d_Se_perform_23 rfl (lv_at hl 2 rfl) ?_
  refine ep_callH (ep_toC (va_runU (As := []) (rest := []) ⟨hx, hb, hml, hown, hg⟩ (m_Ct_noteNoEffect_Se l D cI cJ cZ cO b cn ld r f) (ep_cwU (owner := "EditablePast$Contents") 0 hg tw_492 tw_493 tw_494 tw_477 tw_4 tk_Ct_noteNoEffect rfl rfl rfl (by decide +kernel) ⟨(Nat.le_of_ble_eq_true rfl), (Nat.le_of_ble_eq_true rfl)⟩) ⟨ep_blind, va_recv (q0 := 0) (ci := 7) hK hP rfl rfl, ep_pre hKn (hP)⟩ rfl rfl hl.1 rfl (lv_room (Nat.le_of_ble_eq_true rfl)) d_Se_perform_24 ⟨Nat.zero_le _, Nat.zero_le _⟩)) hS (fun q h => h) (fun H locs hsz9 hk1 hP1 hS => ?_)
  refine W.eq (g2 := F0 m 27 ls []) rfl ?_
  have hP : va_P D cls (wSe cI b cn ld 0 0) H := hP1
  have hD : va_D (blk b 2) (wSe cI b cn ld 0 0) := blk_D wSe_in
  exact W.vret hx hb hr (fun t9 ht hW => ⟨rfl, hS.F ht, by rw [ht]; exact hP⟩) hS.2.2 d_Se_perform_27

set_option maxHeartbeats 4000000 in
set_option maxRecDepth 100000 in
theorem m_Se_perform_1 (l : Launch) (D : va_G) (cI cJ cZ cO : ClassId) (b : Nat) (cn : Int32) (ld : Nat → Int32) (r : Int64) (f : Int32) (nm : Int32) (x y : Nat) (hx9 : x < 16) (hy9 : y < 16) (h0 : ¬ ld x = ld y) : Met l y_Se_perform (k_Se_perform :: gt) rm_Se_perform (Pc0 D cI cJ cZ cO [.ref b, .int nm, .int (nI x), .int (nI y)] (fun H => va_P D cls (wSe cI b cn ld r f) H)) (Qd (blk b 2) none (fun H => va_P D cls (wSe cI b (cn - 1) (sld (ld x) (ld y) 16 0 ld) 0 1) H)) 0 0 (blk b 2) := by
  refine Met.ofW (cc := c_Se_perform) (maxL := 7) (ret := none) (by decide) rfl ?_
  intro p e s m args below meth c s₁ B hml hv
  obtain ⟨rfl, hKn, hP⟩ := hv
  have hx := B.exec
  have hb := B.bytes
  have hr := B.returns
  have hts := atoms_spec (ws := k_Se_perform :: gt) B.pre
  have hg : ∀ w ∈ gt, w.before _ s = true := fun w h => hts w (List.mem_cons_of_mem _ h)
  have hown : s.vm.findClass R_Se = some m.cls := findClass_of_methodNamed B.named
  have hlocks := B.notSynchronized
  have hK := hKn.1
  have hl := lv_entry ([.ref b, .int nm, .int (nI x), .int (nI y)]) (n := 7) (Nat.le_of_ble_eq_true rfl)
  rw [lg_entry_eq]
  generalize (lg_sl ([.ref b, .int nm, .int (nI x), .int (nI y)]) ++ List.replicate (7 - (lg_sl ([.ref b, .int nm, .int (nI x), .int (nI y)])).length) Slot.unset).toArray = ls at hl ⊢
  have hl : lv_has ls 7 [(0, .ref b), (1, .int nm), (2, .int (nI x)), (3, .int (nI y))] := hl
  have hS : va_S (blk b 2) s.heap s.heap [] := va_S.rf
  have hD : va_D (blk b 2) (wSe cI b cn ld r f) := blk_D wSe_in
  refine lv_aload_n hx hb d_Se_perform_0 rfl (lv_at hl 0 rfl) ?_
  refine va_get (D := D) (ci := 7) (v := .ref (b + 1)) (C := R_Se) (T := F_Se) (N := 4) hx hb hg in_Se hown hK hP 0 rfl rfl 0 (Nat.le_of_ble_eq_true rfl) (hg _ tw_190) (fun _ h9 => h9) rfl d_Se_perform_1 ?_
  refine lv_iload_n hx hb d_Se_perform_4 rfl (lv_at hl 2 rfl) ?_
  refine ep_iald hx hb hK hP 1 0 rfl rfl (i := x) (by omega) (by decide) d_Se_perform_5 ?_
  refine lv_istore (lv' := [(4, .int (ld x)), (0, .ref b), (1, .int nm), (2, .int (nI x)), (3, .int (nI y))]) hx hb d_Se_perform_6 hl (by decide) rfl (fun ls hl => ?_)
  refine lv_aload_n hx hb d_Se_perform_8 rfl (lv_at hl 1 rfl) ?_
  refine va_get (D := D) (ci := 7) (v := .ref (b + 1)) (C := R_Se) (T := F_Se) (N := 4) hx hb hg in_Se hown hK hP 0 rfl rfl 0 (Nat.le_of_ble_eq_true rfl) (hg _ tw_190) (fun _ h9 => h9) rfl d_Se_perform_9 ?_
  refine lv_iload_n hx hb d_Se_perform_12 rfl (lv_at hl 4 rfl) ?_
  refine ep_iald hx hb hK hP 1 0 rfl rfl (i := y) (by omega) (by decide) d_Se_perform_13 ?_
  refine lv_istore (lv' := [(5, .int (ld y)), (4, .int (ld x)), (0, .ref b), (1, .int nm), (2, .int (nI x)), (3, .int (nI y))]) hx hb d_Se_perform_14 hl (by decide) rfl (fun ls hl => ?_)
  refine lv_iload hx hb d_Se_perform_16 (lv_at hl 1 rfl) ?_
  refine lv_iload hx hb d_Se_perform_18 (lv_at hl 0 rfl) ?_
  refine lv_icmp_ne (tgt := 28) hx hb d_Se_perform_20 (by decide) (fun hc => ?_) (fun hc => absurd hc (h0))
  refine lv_iconst (v := 0) hx hb d_Se_perform_28 (by decide) ?_
  refine lv_topi (fun z0 e_z0 => ?_)
  obtain rfl : z0 = nI 0 := by rw [e_z0]; exact nI_0.symm
  refine lv_istore (lv' := [(6, .int (nI 0)), (5, .int (ld y)), (4, .int (ld x)), (0, .ref b), (1, .int nm), (2, .int (nI x)), (3, .int (nI y))]) hx hb d_Se_perform_29 hl (by decide) rfl (fun ls hl => ?_)
  generalize hf0 : sld (ld x) (ld y) 16 0 ld = M
  generalize ld x = p0 at hl hf0
  generalize ld y = p1 at hl hf0
  have key : ∀ (k i : Nat) (ld1 : Nat → Int32) (H : Heap) (locs : List Loc) (ls : Array Slot), i + k = 16 → sld p0 p1 k i ld1 = M → lv_has ls 7 [(6, .int (nI i)), (5, .int p1), (4, .int p0), (0, .ref b), (1, .int nm), (2, .int (nI x)), (3, .int (nI y))] → va_P D cls (wSe cI b cn ld1 r f) H → va_S (blk b 2) s.heap H locs → W p l e (headSpec (k_Se_perform :: gt) rm_Se_perform).room s m ([.ref b, .int nm, .int (nI x), .int (nI y)] : List Value).toArray below meth c H locs 0 0 (MQ below (Qd (blk b 2) none (fun H => va_P D cls (wSe cI b (cn - 1) M 0 1) H)) ([.ref b, .int nm, .int (nI x), .int (nI y)] : List Value).toArray s 0 0 (blk b 2)) (F0 m 31 ls []) := by
    intro k
    induction k with
    | zero =>
      intro i ld1 H locs ls hi q0 hl hP hS
      obtain rfl : ld1 = M := q0
      have hD : va_D (blk b 2) (wSe cI b cn ld1 r f) := blk_D wSe_in
      refine lv_iload hx hb d_Se_perform_31 (lv_at hl 0 rfl) ?_
      refine lv_bipush (v := 16) hx hb d_Se_perform_33 (by decide) ?_
      refine lv_icmp_ge (tgt := 65) hx hb d_Se_perform_35 (by decide) (fun hc => ?_) (fun hc => absurd (by rw [show i = 16 by omega]; decide) hc)
      refine lv_aload_n hx hb d_Se_perform_65 rfl (lv_at hl 3 rfl) ?_
      refine lv_dup hx hb d_Se_perform_66 rfl ?_
      refine va_get (D := D) (ci := 7) (v := .int cn) (C := R_Se) (T := F_Se) (N := 4) hx hb hg in_Se hown hK hP 0 rfl rfl 1 (Nat.le_of_ble_eq_true rfl) (hg _ tw_111) (fun x9 h9 => u_same (hg _ tw_112) x9 h9) rfl d_Se_perform_67 ?_
      refine lv_iconst (v := 1) hx hb d_Se_perform_70 (by decide) ?_
      refine lv_isub hx hb d_Se_perform_71 ?_
      refine va_put (D := D) (ci := 7) (v := .int (cn - 1)) (ty := .int) (C := R_Se) (T := F_Se) (N := 4) hx hb hg in_Se t_Se t_Se_ok n_Se hown hK hP hD hS 0 rfl rfl 1 (Nat.le_of_ble_eq_true rfl) (hg _ tw_111) (fun x9 h9 => u_same (hg _ tw_112) x9 h9) rfl (by decide +kernel) rfl rfl (Nat.le_of_ble_eq_true rfl) d_Se_perform_72 (fun H locs hP hD hS => ?_)
      have hP : va_P D cls (wSe cI b (cn - 1) ld1 r f) H := hP
      have hD : va_D (blk b 2) (wSe cI b (cn - 1) ld1 r f) := hD
      refine lv_aload_n hx hb d_Se_perform_75 rfl (lv_at hl 3 rfl) ?_
      refine lv_lconst (v := 0) hx hb d_Se_perform_76 (by decide) ?_
      refine ep_callH (ep_toC (va_runU (As := [.long 0]) (rest := []) ⟨hx, hb, hml, hown, hg⟩ (m_Ct_noteEffect_Se l D cI cJ cZ cO b (cn - 1) ld1 r f 0) (ep_cwU (owner := "EditablePast$Contents") 1 hg tw_495 tw_496 tw_497 tw_465 tw_4 tk_Ct_noteEffect rfl rfl rfl (by decide +kernel) ⟨(Nat.le_of_ble_eq_true rfl), (Nat.le_of_ble_eq_true rfl)⟩) ⟨ep_blind, va_recv (q0 := 0) (ci := 7) hK hP rfl rfl, ep_pre hKn (hP)⟩ rfl rfl hl.1 rfl (lv_room (Nat.le_of_ble_eq_true rfl)) d_Se_perform_77 ⟨Nat.zero_le _, Nat.zero_le _⟩)) hS (fun q h => h) (fun H locs hsz9 hk1 hP1 hS => ?_)
      refine W.eq (g2 := F0 m 80 ls []) rfl ?_
      have hP : va_P D cls (wSe cI b (cn - 1) ld1 0 1) H := hP1
      have hD : va_D (blk b 2) (wSe cI b (cn - 1) ld1 0 1) := blk_D wSe_in
      exact W.vret hx hb hr (fun t9 ht hW => ⟨rfl, hS.F ht, by rw [ht]; exact hP⟩) hS.2.2 d_Se_perform_80
    | succ k ih =>
      intro i ld1 H locs ls hi q0 hl hP hS
      unfold sld at q0
      have hD : va_D (blk b 2) (wSe cI b cn ld1 r f) := blk_D wSe_in
      refine lv_iload hx hb d_Se_perform_31 (lv_at hl 0 rfl) ?_
      refine lv_bipush (v := 16) hx hb d_Se_perform_33 (by decide) ?_
      refine lv_icmp_ge (tgt := 65) hx hb d_Se_perform_35 (by decide) (fun hc => absurd hc (nI_ge (b := 16) (by omega) (by decide))) (fun hc => ?_)
      refine lv_aload_n hx hb d_Se_perform_38 rfl (lv_at hl 3 rfl) ?_
      refine va_get (D := D) (ci := 7) (v := .ref (b + 1)) (C := R_Se) (T := F_Se) (N := 4) hx hb hg in_Se hown hK hP 0 rfl rfl 0 (Nat.le_of_ble_eq_true rfl) (hg _ tw_190) (fun _ h9 => h9) rfl d_Se_perform_39 ?_
      refine lv_iload hx hb d_Se_perform_42 (lv_at hl 0 rfl) ?_
      refine ep_iald hx hb hK hP 1 0 rfl rfl (i := i) (by omega) (by decide) d_Se_perform_44 ?_
      refine lv_iload hx hb d_Se_perform_45 (lv_at hl 1 rfl) ?_
      refine lv_icmp_ne (tgt := 59) hx hb d_Se_perform_47 (by decide) (fun hc => ?_) (fun hc => ?_)
      · rw [if_neg hc] at q0
        refine lv_iinc (k := 0) (lv' := [(6, .int (nI (i + 1))), (5, .int p1), (4, .int p0), (0, .ref b), (1, .int nm), (2, .int (nI x)), (3, .int (nI y))]) hx hb d_Se_perform_59 hl rfl (inc1 _) (by decide) rfl (fun ls hl => ?_)
        refine lv_goto (tgt := 31) hx hb d_Se_perform_62 (by decide) ?_
        exact ih (i + 1) _ H locs ls (by omega) q0 (lv_sub hl [0, 1, 2, 3, 4, 5, 6] rfl) hP hS
      · rw [if_pos (hc)] at q0
        refine lv_aload_n hx hb d_Se_perform_50 rfl (lv_at hl 3 rfl) ?_
        refine va_get (D := D) (ci := 7) (v := .ref (b + 1)) (C := R_Se) (T := F_Se) (N := 4) hx hb hg in_Se hown hK hP 0 rfl rfl 0 (Nat.le_of_ble_eq_true rfl) (hg _ tw_190) (fun _ h9 => h9) rfl d_Se_perform_51 ?_
        refine lv_iload hx hb d_Se_perform_54 (lv_at hl 0 rfl) ?_
        refine lv_iload hx hb d_Se_perform_56 (lv_at hl 2 rfl) ?_
        refine ep_iast hx hb hK hP hD hS 1 0 rfl rfl (i := i) (x := p0) (by omega) (by decide) d_Se_perform_58 (fun H locs hP hD hS => ?_)
        have hP : va_P D cls (wSe cI b cn (upd ld1 i p0) r f) H := hP
        have hD : va_D (blk b 2) (wSe cI b cn (upd ld1 i p0) r f) := hD
        refine lv_iinc (k := 0) (lv' := [(6, .int (nI (i + 1))), (5, .int p1), (4, .int p0), (0, .ref b), (1, .int nm), (2, .int (nI x)), (3, .int (nI y))]) hx hb d_Se_perform_59 hl rfl (inc1 _) (by decide) rfl (fun ls hl => ?_)
        refine lv_goto (tgt := 31) hx hb d_Se_perform_62 (by decide) ?_
        exact ih (i + 1) _ H locs ls (by omega) q0 (lv_sub hl [0, 1, 2, 3, 4, 5, 6] rfl) hP hS
  exact key 16 0 ld s.heap [] ls rfl hf0 hl hP hS
