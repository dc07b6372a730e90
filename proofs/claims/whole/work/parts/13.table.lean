/-! by wip/whole/gen/contents.py -/
set_option maxHeartbeats 4000000 in
set_option maxRecDepth 100000 in
theorem m_Ta_clear (l : Launch) (D : va_G) (cI cJ cZ cO : ClassId) (b n : Nat) (ks vs : Nat → Int32) (r : Int64) (f : Int32) : Met l y_Ta_clear (k_Ta_clear :: gt) rm_Ta_clear (Pc0 D cI cJ cZ cO [.ref b] (fun H => va_P D cls (wTa cI b n ks vs r f) H)) (Qd (blk b 3) none (fun H => va_P D cls (wTa cI b 0 ks vs r f) H)) 0 0 (blk b 3) := by
  refine Met.ofW (cc := c_Ta_clear) (maxL := 1) (ret := none) (by decide) rfl ?_
  intro p e s m args below meth c s₁ B hml hv
  obtain ⟨rfl, hKn, hP⟩ := hv
  have hx := B.exec
  have hb := B.bytes
  have hr := B.returns
  have hts := atoms_spec (ws := k_Ta_clear :: gt) B.pre
  have hg : ∀ w ∈ gt, w.before _ s = true := fun w h => hts w (List.mem_cons_of_mem _ h)
  have hown : s.vm.findClass R_Ta = some m.cls := findClass_of_methodNamed B.named
  have hlocks := B.notSynchronized
  have hK := hKn.1
  have hl := lv_entry ([.ref b]) (n := 1) (Nat.le_of_ble_eq_true rfl)
  rw [lg_entry_eq]
  generalize (lg_sl ([.ref b]) ++ List.replicate (1 - (lg_sl ([.ref b])).length) Slot.unset).toArray = ls at hl ⊢
  have hl : lv_has ls 1 [(0, .ref b)] := hl
  have hS : va_S (blk b 3) s.heap s.heap [] := va_S.rf
  have hD : va_D (blk b 3) (wTa cI b n ks vs r f) := blk_D wTa_in
  refine lv_aload_n hx hb d_Ta_clear_0 rfl (lv_at hl 0 rfl) ?_
  refine lv_iconst (v := 0) hx hb d_Ta_clear_1 (by decide) ?_
  refine lv_topi (fun z0 e_z0 => ?_)
  obtain rfl : z0 = nI 0 := by rw [e_z0]; exact nI_0.symm
  refine va_put (D := D) (ci := 5) (v := .int (nI 0)) (ty := .int) (C := R_Ta) (T := F_Ta) (N := 5) hx hb hg in_Ta t_Ta t_Ta_ok n_Ta hown hK hP hD hS 0 rfl rfl 2 (Nat.le_of_ble_eq_true rfl) (hg _ tw_109) (fun x9 h9 => u_same (hg _ tw_110) x9 h9) rfl (by decide +kernel) rfl rfl (Nat.le_of_ble_eq_true rfl) d_Ta_clear_2 (fun H locs hP hD hS => ?_)
  have hP : va_P D cls (wTa cI b 0 ks vs r f) H := hP
  have hD : va_D (blk b 3) (wTa cI b 0 ks vs r f) := hD
  exact W.vret hx hb hr (fun t9 ht hW => ⟨rfl, hS.F ht, by rw [ht]; exact hP⟩) hS.2.2 d_Ta_clear_5

set_option maxHeartbeats 4000000 in
set_option maxRecDepth 100000 in
theorem m_Ta_placeOf (l : Launch) (D : va_G) (cI cJ cZ cO : ClassId) (b n : Nat) (ks vs : Nat → Int32) (r : Int64) (f : Int32) (x : Int32) (hn : n ≤ 32) : Met l y_Ta_placeOf (k_Ta_placeOf :: gt) rm_Ta_placeOf (Pc0 D cI cJ cZ cO [.ref b, .int x] (fun H => va_P D cls (wTa cI b n ks vs r f) H)) (Qp (some (.int (tpo ks x n 0)))) 0 0 (fun _ => False) := by
  refine Met.ofW (cc := c_Ta_placeOf) (maxL := 3) (ret := (Option.some FieldType.int)) (by decide) rfl ?_
  intro p e s m args below meth c s₁ B hml hv
  obtain ⟨rfl, hKn, hP⟩ := hv
  have hx := B.exec
  have hb := B.bytes
  have hr := B.returns
  have hts := atoms_spec (ws := k_Ta_placeOf :: gt) B.pre
  have hg : ∀ w ∈ gt, w.before _ s = true := fun w h => hts w (List.mem_cons_of_mem _ h)
  have hown : s.vm.findClass R_Ta = some m.cls := findClass_of_methodNamed B.named
  have hlocks := B.notSynchronized
  have hK := hKn.1
  have hl := lv_entry ([.ref b, .int x]) (n := 3) (Nat.le_of_ble_eq_true rfl)
  rw [lg_entry_eq]
  generalize (lg_sl ([.ref b, .int x]) ++ List.replicate (3 - (lg_sl ([.ref b, .int x])).length) Slot.unset).toArray = ls at hl ⊢
  have hl : lv_has ls 3 [(0, .ref b), (1, .int x)] := hl
  refine lv_iconst (v := 0) hx hb d_Ta_placeOf_0 (by decide) ?_
  refine lv_topi (fun z0 e_z0 => ?_)
  obtain rfl : z0 = nI 0 := by rw [e_z0]; exact nI_0.symm
  refine lv_istore_n (lv' := [(2, .int (nI 0)), (0, .ref b), (1, .int x)]) hx hb d_Ta_placeOf_1 rfl hl (by decide) rfl (fun ls hl => ?_)
  have key : ∀ (k i : Nat) (ls : Array Slot), i + k = n → tpo ks x k i = tpo ks x n 0 → lv_has ls 3 [(2, .int (nI i)), (0, .ref b), (1, .int x)] → W p l e (headSpec (k_Ta_placeOf :: gt) rm_Ta_placeOf).room s m ([.ref b, .int x] : List Value).toArray below meth c s.heap [] 0 0 (MQ below (Qp (some (.int (tpo ks x n 0)))) ([.ref b, .int x] : List Value).toArray s 0 0 (fun _ => False)) (F0 m 2 ls []) := by
    intro k
    induction k with
    | zero =>
      intro i ls hi hq hl
      refine lv_iload_n hx hb d_Ta_placeOf_2 rfl (lv_at hl 0 rfl) ?_
      refine lv_aload_n hx hb d_Ta_placeOf_3 rfl (lv_at hl 1 rfl) ?_
      refine va_get (D := D) (ci := 5) (v := .int (nI n)) (C := R_Ta) (T := F_Ta) (N := 5) hx hb hg in_Ta hown hK hP 0 rfl rfl 2 (Nat.le_of_ble_eq_true rfl) (hg _ tw_109) (fun x9 h9 => u_same (hg _ tw_110) x9 h9) rfl d_Ta_placeOf_4 ?_
      refine lv_icmp_ge (tgt := 28) hx hb d_Ta_placeOf_7 (by decide) (fun hc => ?_) (fun hc => absurd (nI_le (by omega) (by omega)) hc)
      refine lv_iconst (v := (-1)) hx hb d_Ta_placeOf_28 (by decide) ?_
      exact W.iret (v := -1) hx hb hr (fun t9 ht hW => ⟨by rw [← hq]; rfl, ht⟩) (fun q h => nomatch h) d_Ta_placeOf_29
    | succ k ih =>
      intro i ls hi hq hl
      have hq : (if ks i = x then nI i else tpo ks x k (i + 1)) = tpo ks x n 0 := hq
      refine lv_iload_n hx hb d_Ta_placeOf_2 rfl (lv_at hl 0 rfl) ?_
      refine lv_aload_n hx hb d_Ta_placeOf_3 rfl (lv_at hl 1 rfl) ?_
      refine va_get (D := D) (ci := 5) (v := .int (nI n)) (C := R_Ta) (T := F_Ta) (N := 5) hx hb hg in_Ta hown hK hP 0 rfl rfl 2 (Nat.le_of_ble_eq_true rfl) (hg _ tw_109) (fun x9 h9 => u_same (hg _ tw_110) x9 h9) rfl d_Ta_placeOf_4 ?_
      refine lv_icmp_ge (tgt := 28) hx hb d_Ta_placeOf_7 (by decide) (fun hc => absurd hc (nI_ge (by omega) (by omega))) (fun hc => ?_)
      refine lv_aload_n hx hb d_Ta_placeOf_10 rfl (lv_at hl 1 rfl) ?_
      refine va_get (D := D) (ci := 5) (v := .ref (b + 1)) (C := R_Ta) (T := F_Ta) (N := 5) hx hb hg in_Ta hown hK hP 0 rfl rfl 0 (Nat.le_of_ble_eq_true rfl) (hg _ tw_148) (fun _ h9 => h9) rfl d_Ta_placeOf_11 ?_
      refine lv_iload_n hx hb d_Ta_placeOf_14 rfl (lv_at hl 0 rfl) ?_
      refine ep_iald hx hb hK hP 1 0 rfl rfl (i := i) (by omega) (by decide) d_Ta_placeOf_15 ?_
      refine lv_iload_n hx hb d_Ta_placeOf_16 rfl (lv_at hl 2 rfl) ?_
      refine lv_icmp_ne (tgt := 22) hx hb d_Ta_placeOf_17 (by decide) (fun hc => ?_) (fun hc => ?_)
      · rw [if_neg hc] at hq
        refine lv_iinc (k := 0) (lv' := [(2, .int (nI (i + 1))), (0, .ref b), (1, .int x)]) hx hb d_Ta_placeOf_22 hl rfl (inc1 _) (by decide) rfl (fun ls hl => ?_)
        refine lv_goto (tgt := 2) hx hb d_Ta_placeOf_25 (by decide) ?_
        exact ih (i + 1) ls (by omega) hq hl
      · rw [if_pos (hc)] at hq
        refine lv_iload_n hx hb d_Ta_placeOf_20 rfl (lv_at hl 0 rfl) ?_
        exact W.iret (v := nI i) hx hb hr (fun t9 ht hW => ⟨by rw [← hq], ht⟩) (fun q h => nomatch h) d_Ta_placeOf_21
  exact key n 0 ls (by omega) rfl hl

set_option maxHeartbeats 4000000 in
set_option maxRecDepth 100000 in
theorem m_Ta_add (l : Launch) (D : va_G) (cI cJ cZ cO : ClassId) (b n : Nat) (ks vs : Nat → Int32) (r : Int64) (f : Int32) (x y : Int32) (hn : n < 32) : Met l y_Ta_add (k_Ta_add :: gt) rm_Ta_add (Pc0 D cI cJ cZ cO [.ref b, .int x, .int y] (fun H => va_P D cls (wTa cI b n ks vs r f) H)) (Qd (blk b 3) none (fun H => va_P D cls (wTa cI b (n + 1) (upd ks n x) (upd vs n y) r f) H)) 0 0 (blk b 3) := by
  refine Met.ofW (cc := c_Ta_add) (maxL := 3) (ret := none) (by decide) rfl ?_
  intro p e s m args below meth c s₁ B hml hv
  obtain ⟨rfl, hKn, hP⟩ := hv
  have hx := B.exec
  have hb := B.bytes
  have hr := B.returns
  have hts := atoms_spec (ws := k_Ta_add :: gt) B.pre
  have hg : ∀ w ∈ gt, w.before _ s = true := fun w h => hts w (List.mem_cons_of_mem _ h)
  have hown : s.vm.findClass R_Ta = some m.cls := findClass_of_methodNamed B.named
  have hlocks := B.notSynchronized
  have hK := hKn.1
  have hl := lv_entry ([.ref b, .int x, .int y]) (n := 3) (Nat.le_of_ble_eq_true rfl)
  rw [lg_entry_eq]
  generalize (lg_sl ([.ref b, .int x, .int y]) ++ List.replicate (3 - (lg_sl ([.ref b, .int x, .int y])).length) Slot.unset).toArray = ls at hl ⊢
  have hl : lv_has ls 3 [(0, .ref b), (1, .int x), (2, .int y)] := hl
  have hS : va_S (blk b 3) s.heap s.heap [] := va_S.rf
  have hD : va_D (blk b 3) (wTa cI b n ks vs r f) := blk_D wTa_in
  refine lv_aload_n hx hb d_Ta_add_0 rfl (lv_at hl 0 rfl) ?_
  refine va_get (D := D) (ci := 5) (v := .ref (b + 1)) (C := R_Ta) (T := F_Ta) (N := 5) hx hb hg in_Ta hown hK hP 0 rfl rfl 0 (Nat.le_of_ble_eq_true rfl) (hg _ tw_148) (fun _ h9 => h9) rfl d_Ta_add_1 ?_
  refine lv_aload_n hx hb d_Ta_add_4 rfl (lv_at hl 0 rfl) ?_
  refine va_get (D := D) (ci := 5) (v := .int (nI n)) (C := R_Ta) (T := F_Ta) (N := 5) hx hb hg in_Ta hown hK hP 0 rfl rfl 2 (Nat.le_of_ble_eq_true rfl) (hg _ tw_109) (fun x9 h9 => u_same (hg _ tw_110) x9 h9) rfl d_Ta_add_5 ?_
  refine lv_iload_n hx hb d_Ta_add_8 rfl (lv_at hl 1 rfl) ?_
  refine ep_iast hx hb hK hP hD hS 1 0 rfl rfl (i := n) (x := x) (by omega) (by decide) d_Ta_add_9 (fun H locs hP hD hS => ?_)
  have hP : va_P D cls (wTa cI b n (upd ks n x) vs r f) H := hP
  have hD : va_D (blk b 3) (wTa cI b n (upd ks n x) vs r f) := hD
  refine lv_aload_n hx hb d_Ta_add_10 rfl (lv_at hl 0 rfl) ?_
  refine va_get (D := D) (ci := 5) (v := .ref (b + 2)) (C := R_Ta) (T := F_Ta) (N := 5) hx hb hg in_Ta hown hK hP 0 rfl rfl 1 (Nat.le_of_ble_eq_true rfl) (hg _ tw_149) (fun _ h9 => h9) rfl d_Ta_add_11 ?_
  refine lv_aload_n hx hb d_Ta_add_14 rfl (lv_at hl 0 rfl) ?_
  refine va_get (D := D) (ci := 5) (v := .int (nI n)) (C := R_Ta) (T := F_Ta) (N := 5) hx hb hg in_Ta hown hK hP 0 rfl rfl 2 (Nat.le_of_ble_eq_true rfl) (hg _ tw_109) (fun x9 h9 => u_same (hg _ tw_110) x9 h9) rfl d_Ta_add_15 ?_
  refine lv_iload_n hx hb d_Ta_add_18 rfl (lv_at hl 2 rfl) ?_
  refine ep_iast hx hb hK hP hD hS 2 0 rfl rfl (i := n) (x := y) (by omega) (by decide) d_Ta_add_19 (fun H locs hP hD hS => ?_)
  have hP : va_P D cls (wTa cI b n (upd ks n x) (upd vs n y) r f) H := hP
  have hD : va_D (blk b 3) (wTa cI b n (upd ks n x) (upd vs n y) r f) := hD
  refine lv_aload_n hx hb d_Ta_add_20 rfl (lv_at hl 0 rfl) ?_
  refine lv_dup hx hb d_Ta_add_21 rfl ?_
  refine va_get (D := D) (ci := 5) (v := .int (nI n)) (C := R_Ta) (T := F_Ta) (N := 5) hx hb hg in_Ta hown hK hP 0 rfl rfl 2 (Nat.le_of_ble_eq_true rfl) (hg _ tw_109) (fun x9 h9 => u_same (hg _ tw_110) x9 h9) rfl d_Ta_add_22 ?_
  refine lv_iconst (v := 1) hx hb d_Ta_add_25 (by decide) ?_
  refine lv_iadd hx hb d_Ta_add_26 ?_
  refine lv_topi (fun z0 e_z0 => ?_)
  obtain rfl : z0 = nI (n + 1) := by rw [e_z0]; exact (nI_1 n)
  refine va_put (D := D) (ci := 5) (v := .int (nI (n + 1))) (ty := .int) (C := R_Ta) (T := F_Ta) (N := 5) hx hb hg in_Ta t_Ta t_Ta_ok n_Ta hown hK hP hD hS 0 rfl rfl 2 (Nat.le_of_ble_eq_true rfl) (hg _ tw_109) (fun x9 h9 => u_same (hg _ tw_110) x9 h9) rfl (by decide +kernel) rfl rfl (Nat.le_of_ble_eq_true rfl) d_Ta_add_27 (fun H locs hP hD hS => ?_)
  have hP : va_P D cls (wTa cI b (n + 1) (upd ks n x) (upd vs n y) r f) H := hP
  have hD : va_D (blk b 3) (wTa cI b (n + 1) (upd ks n x) (upd vs n y) r f) := hD
  exact W.vret hx hb hr (fun t9 ht hW => ⟨rfl, hS.F ht, by rw [ht]; exact hP⟩) hS.2.2 d_Ta_add_30

set_option maxHeartbeats 4000000 in
set_option maxRecDepth 100000 in
theorem m_Ta_remove (l : Launch) (D : va_G) (cI cJ cZ cO : ClassId) (b n : Nat) (ks vs : Nat → Int32) (r : Int64) (f : Int32) (i : Nat) (hn : n ≤ 32) (hi : i < n) : Met l y_Ta_remove (k_Ta_remove :: gt) rm_Ta_remove (Pc0 D cI cJ cZ cO [.ref b, .int (nI i)] (fun H => va_P D cls (wTa cI b n ks vs r f) H)) (Qd (blk b 3) none (fun H => va_P D cls (wTa cI b (n - 1) (upd ks i (ks (n - 1))) (upd vs i (vs (n - 1))) r f) H)) 0 0 (blk b 3) := by
  refine Met.ofW (cc := c_Ta_remove) (maxL := 2) (ret := none) (by decide) rfl ?_
  intro p e s m args below meth c s₁ B hml hv
  obtain ⟨rfl, hKn, hP⟩ := hv
  have hx := B.exec
  have hb := B.bytes
  have hr := B.returns
  have hts := atoms_spec (ws := k_Ta_remove :: gt) B.pre
  have hg : ∀ w ∈ gt, w.before _ s = true := fun w h => hts w (List.mem_cons_of_mem _ h)
  have hown : s.vm.findClass R_Ta = some m.cls := findClass_of_methodNamed B.named
  have hlocks := B.notSynchronized
  have hK := hKn.1
  have hl := lv_entry ([.ref b, .int (nI i)]) (n := 2) (Nat.le_of_ble_eq_true rfl)
  rw [lg_entry_eq]
  generalize (lg_sl ([.ref b, .int (nI i)]) ++ List.replicate (2 - (lg_sl ([.ref b, .int (nI i)])).length) Slot.unset).toArray = ls at hl ⊢
  have hl : lv_has ls 2 [(0, .ref b), (1, .int (nI i))] := hl
  have hS : va_S (blk b 3) s.heap s.heap [] := va_S.rf
  have hD : va_D (blk b 3) (wTa cI b n ks vs r f) := blk_D wTa_in
  refine lv_aload_n hx hb d_Ta_remove_0 rfl (lv_at hl 0 rfl) ?_
  refine lv_dup hx hb d_Ta_remove_1 rfl ?_
  refine va_get (D := D) (ci := 5) (v := .int (nI n)) (C := R_Ta) (T := F_Ta) (N := 5) hx hb hg in_Ta hown hK hP 0 rfl rfl 2 (Nat.le_of_ble_eq_true rfl) (hg _ tw_109) (fun x9 h9 => u_same (hg _ tw_110) x9 h9) rfl d_Ta_remove_2 ?_
  refine lv_iconst (v := 1) hx hb d_Ta_remove_5 (by decide) ?_
  refine lv_isub hx hb d_Ta_remove_6 ?_
  refine lv_topi (fun z0 e_z0 => ?_)
  obtain rfl : z0 = nI (n - 1) := by rw [e_z0]; exact (sub1 (by omega))
  refine va_put (D := D) (ci := 5) (v := .int (nI (n - 1))) (ty := .int) (C := R_Ta) (T := F_Ta) (N := 5) hx hb hg in_Ta t_Ta t_Ta_ok n_Ta hown hK hP hD hS 0 rfl rfl 2 (Nat.le_of_ble_eq_true rfl) (hg _ tw_109) (fun x9 h9 => u_same (hg _ tw_110) x9 h9) rfl (by decide +kernel) rfl rfl (Nat.le_of_ble_eq_true rfl) d_Ta_remove_7 (fun H locs hP hD hS => ?_)
  have hP : va_P D cls (wTa cI b (n - 1) ks vs r f) H := hP
  have hD : va_D (blk b 3) (wTa cI b (n - 1) ks vs r f) := hD
  refine lv_aload_n hx hb d_Ta_remove_10 rfl (lv_at hl 0 rfl) ?_
  refine va_get (D := D) (ci := 5) (v := .ref (b + 1)) (C := R_Ta) (T := F_Ta) (N := 5) hx hb hg in_Ta hown hK hP 0 rfl rfl 0 (Nat.le_of_ble_eq_true rfl) (hg _ tw_148) (fun _ h9 => h9) rfl d_Ta_remove_11 ?_
  refine lv_iload_n hx hb d_Ta_remove_14 rfl (lv_at hl 1 rfl) ?_
  refine lv_aload_n hx hb d_Ta_remove_15 rfl (lv_at hl 0 rfl) ?_
  refine va_get (D := D) (ci := 5) (v := .ref (b + 1)) (C := R_Ta) (T := F_Ta) (N := 5) hx hb hg in_Ta hown hK hP 0 rfl rfl 0 (Nat.le_of_ble_eq_true rfl) (hg _ tw_148) (fun _ h9 => h9) rfl d_Ta_remove_16 ?_
  refine lv_aload_n hx hb d_Ta_remove_19 rfl (lv_at hl 0 rfl) ?_
  refine va_get (D := D) (ci := 5) (v := .int (nI (n - 1))) (C := R_Ta) (T := F_Ta) (N := 5) hx hb hg in_Ta hown hK hP 0 rfl rfl 2 (Nat.le_of_ble_eq_true rfl) (hg _ tw_109) (fun x9 h9 => u_same (hg _ tw_110) x9 h9) rfl d_Ta_remove_20 ?_
  refine ep_iald hx hb hK hP 1 0 rfl rfl (i := (n - 1)) (by omega) (by decide) d_Ta_remove_23 ?_
  refine ep_iast hx hb hK hP hD hS 1 0 rfl rfl (i := i) (x := (ks (n - 1))) (by omega) (by decide) d_Ta_remove_24 (fun H locs hP hD hS => ?_)
  have hP : va_P D cls (wTa cI b (n - 1) (upd ks i (ks (n - 1))) vs r f) H := hP
  have hD : va_D (blk b 3) (wTa cI b (n - 1) (upd ks i (ks (n - 1))) vs r f) := hD
  refine lv_aload_n hx hb d_Ta_remove_25 rfl (lv_at hl 0 rfl) ?_
  refine va_get (D := D) (ci := 5) (v := .ref (b + 2)) (C := R_Ta) (T := F_Ta) (N := 5) hx hb hg in_Ta hown hK hP 0 rfl rfl 1 (Nat.le_of_ble_eq_true rfl) (hg _ tw_149) (fun _ h9 => h9) rfl d_Ta_remove_26 ?_
  refine lv_iload_n hx hb d_Ta_remove_29 rfl (lv_at hl 1 rfl) ?_
  refine lv_aload_n hx hb d_Ta_remove_30 rfl (lv_at hl 0 rfl) ?_
  refine va_get (D := D) (ci := 5) (v := .ref (b + 2)) (C := R_Ta) (T := F_Ta) (N := 5) hx hb hg in_Ta hown hK hP 0 rfl rfl 1 (Nat.le_of_ble_eq_true rfl) (hg _ tw_149) (fun _ h9 => h9) rfl d_Ta_remove_31 ?_
  refine lv_aload_n hx hb d_Ta_remove_34 rfl (lv_at hl 0 rfl) ?_
  refine va_get (D := D) (ci := 5) (v := .int (nI (n - 1))) (C := R_Ta) (T := F_Ta) (N := 5) hx hb hg in_Ta hown hK hP 0 rfl rfl 2 (Nat.le_of_ble_eq_true rfl) (hg _ tw_109) (fun x9 h9 => u_same (hg _ tw_110) x9 h9) rfl d_Ta_remove_35 ?_
  refine ep_iald hx hb hK hP 2 0 rfl rfl (i := (n - 1)) (by omega) (by decide) d_Ta_remove_38 ?_
  refine ep_iast hx hb hK hP hD hS 2 0 rfl rfl (i := i) (x := (vs (n - 1))) (by omega) (by decide) d_Ta_remove_39 (fun H locs hP hD hS => ?_)
  have hP : va_P D cls (wTa cI b (n - 1) (upd ks i (ks (n - 1))) (upd vs i (vs (n - 1))) r f) H := hP
  have hD : va_D (blk b 3) (wTa cI b (n - 1) (upd ks i (ks (n - 1))) (upd vs i (vs (n - 1))) r f) := hD
  exact W.vret hx hb hr (fun t9 ht hW => ⟨rfl, hS.F ht, by rw [ht]; exact hP⟩) hS.2.2 d_Ta_remove_40

set_option maxHeartbeats 4000000 in
set_option maxRecDepth 100000 in
theorem m_Ta_perform_1 (l : Launch) (D : va_G) (cI cJ cZ cO : ClassId) (b n : Nat) (ks vs : Nat → Int32) (r : Int64) (f : Int32) (x y : Int32) (hn : n < 32) (h0 : tpo ks x n 0 = -1) : Met l y_Ta_perform (k_Ta_perform :: gt) rm_Ta_perform (Pc0 D cI cJ cZ cO [.ref b, .int 1, .int x, .int y] (fun H => va_P D cls (wTa cI b n ks vs r f) H)) (Qd (blk b 3) none (fun H => va_P D cls (wTa cI b (n + 1) (upd ks n x) (upd vs n y) 0 1) H)) 0 0 (blk b 3) := by
  refine Met.ofW (cc := c_Ta_perform) (maxL := 5) (ret := none) (by decide) rfl ?_
  intro p e s m args below meth c s₁ B hml hv
  obtain ⟨rfl, hKn, hP⟩ := hv
  have hx := B.exec
  have hb := B.bytes
  have hr := B.returns
  have hts := atoms_spec (ws := k_Ta_perform :: gt) B.pre
  have hg : ∀ w ∈ gt, w.before _ s = true := fun w h => hts w (List.mem_cons_of_mem _ h)
  have hown : s.vm.findClass R_Ta = some m.cls := findClass_of_methodNamed B.named
  have hlocks := B.notSynchronized
  have hK := hKn.1
  have hl := lv_entry ([.ref b, .int 1, .int x, .int y]) (n := 5) (Nat.le_of_ble_eq_true rfl)
  rw [lg_entry_eq]
  generalize (lg_sl ([.ref b, .int 1, .int x, .int y]) ++ List.replicate (5 - (lg_sl ([.ref b, .int 1, .int x, .int y])).length) Slot.unset).toArray = ls at hl ⊢
  have hl : lv_has ls 5 [(0, .ref b), (1, .int 1), (2, .int x), (3, .int y)] := hl
  have hS : va_S (blk b 3) s.heap s.heap [] := va_S.rf
  have hD : va_D (blk b 3) (wTa cI b n ks vs r f) := blk_D wTa_in
  refine lv_aload_n hx hb d_Ta_perform_0 rfl (lv_at hl 0 rfl) ?_
  refine lv_iload_n hx hb d_Ta_perform_1 rfl (lv_at hl 2 rfl) ?_
  refine ep_callP (W.runV (As := [.int x]) (rest := []) ⟨hx, hb, hml, hown, hg⟩ (m_Ta_placeOf l D cI cJ cZ cO b n ks vs r f x (by omega)) (ep_cwV 1 hg tw_502 tw_503 tw_504 tw_8 tk_Ta_placeOf rfl rfl (by decide +kernel) ⟨(Nat.le_of_ble_eq_true rfl), (Nat.le_of_ble_eq_true rfl)⟩) ⟨ep_blind, va_recv (q0 := 0) (ci := 5) hK hP rfl rfl, ep_pre hKn (hP)⟩ rfl rfl hl.1 rfl (lv_room (Nat.le_of_ble_eq_true rfl)) d_Ta_perform_2 ⟨Nat.zero_le _, Nat.zero_le _⟩) ?_
  refine W.eq (g2 := F0 m 5 ls [.int (tpo ks x n 0)]) rfl ?_
  rw [h0]
  refine lv_istore (lv' := [(4, .int (-1)), (0, .ref b), (1, .int 1), (2, .int x), (3, .int y)]) hx hb d_Ta_perform_5 hl (by decide) rfl (fun ls hl => ?_)
  refine lv_iload_n hx hb d_Ta_perform_7 rfl (lv_at hl 2 rfl) ?_
  refine lv_iconst (v := 1) hx hb d_Ta_perform_8 (by decide) ?_
  refine lv_icmp_ne (tgt := 32) hx hb d_Ta_perform_9 (by decide) (fun hc => absurd (rfl) hc) (fun hc => ?_)
  refine lv_iload hx hb d_Ta_perform_12 (lv_at hl 0 rfl) ?_
  refine lv_iconst (v := (-1)) hx hb d_Ta_perform_14 (by decide) ?_
  refine lv_icmp_ne (tgt := 32) hx hb d_Ta_perform_15 (by decide) (fun hc => absurd (rfl) hc) (fun hc => ?_)
  refine lv_aload_n hx hb d_Ta_perform_18 rfl (lv_at hl 1 rfl) ?_
  refine lv_iload_n hx hb d_Ta_perform_19 rfl (lv_at hl 3 rfl) ?_
  refine lv_iload_n hx hb d_Ta_perform_20 rfl (lv_at hl 4 rfl) ?_
  refine ep_callH (W.runV (As := [.int x, .int y]) (rest := []) ⟨hx, hb, hml, hown, hg⟩ (m_Ta_add l D cI cJ cZ cO b n ks vs r f x y hn) (ep_cwV 2 hg tw_506 tw_508 ts_5 tw_8 tk_Ta_add rfl rfl (by decide +kernel) ⟨(Nat.le_of_ble_eq_true rfl), (Nat.le_of_ble_eq_true rfl)⟩) ⟨ep_blind, va_recv (q0 := 0) (ci := 5) hK hP rfl rfl, ep_pre hKn (hP)⟩ rfl rfl hl.1 rfl (lv_room (Nat.le_of_ble_eq_true rfl)) d_Ta_perform_21 ⟨Nat.zero_le _, Nat.zero_le _⟩) hS (fun q h => h) (fun H locs hsz9 hk1 hP1 hS => ?_)
  refine W.eq (g2 := F0 m 24 ls []) rfl ?_
  have hP : va_P D cls (wTa cI b (n + 1) (upd ks n x) (upd vs n y) r f) H := hP1
  have hD : va_D (blk b 3) (wTa cI b (n + 1) (upd ks n x) (upd vs n y) r f) := blk_D wTa_in
  refine lv_aload_n hx hb d_Ta_perform_24 rfl (lv_at hl 1 rfl) ?_
  refine lv_lconst (v := 0) hx hb d_Ta_perform_25 (by decide) ?_
  refine ep_callH (ep_toC (va_runU (As := [.long 0]) (rest := []) ⟨hx, hb, hml, hown, hg⟩ (m_Ct_noteEffect_Ta l D cI cJ cZ cO b (n + 1) (upd ks n x) (upd vs n y) r f 0) (ep_cwU (owner := "EditablePast$Contents") 1 hg tw_510 tw_511 tw_512 tw_465 tw_4 tk_Ct_noteEffect rfl rfl rfl (by decide +kernel) ⟨(Nat.le_of_ble_eq_true rfl), (Nat.le_of_ble_eq_true rfl)⟩) ⟨ep_blind, va_recv (q0 := 0) (ci := 5) hK hP rfl rfl, ep_pre hKn (hP)⟩ rfl rfl hl.1 rfl (lv_room (Nat.le_of_ble_eq_true rfl)) d_Ta_perform_26 ⟨Nat.zero_le _, Nat.zero_le _⟩)) hS (fun q h => h) (fun H locs hsz9 hk1 hP1 hS => ?_)
  refine W.eq (g2 := F0 m 29 ls []) rfl ?_
  have hP : va_P D cls (wTa cI b (n + 1) (upd ks n x) (upd vs n y) 0 1) H := hP1
  have hD : va_D (blk b 3) (wTa cI b (n + 1) (upd ks n x) (upd vs n y) 0 1) := blk_D wTa_in
  refine lv_goto (tgt := 68) hx hb d_Ta_perform_29 (by decide) ?_
  exact W.vret hx hb hr (fun t9 ht hW => ⟨rfl, hS.F ht, by rw [ht]; exact hP⟩) hS.2.2 d_Ta_perform_68

set_option maxHeartbeats 4000000 in
set_option maxRecDepth 100000 in
theorem m_Ta_perform_2 (l : Launch) (D : va_G) (cI cJ cZ cO : ClassId) (b n : Nat) (ks vs : Nat → Int32) (r : Int64) (f : Int32) (x y : Int32) (i : Nat) (hn : n ≤ 32) (hi : i < n) (h0 : tpo ks x n 0 = nI i) : Met l y_Ta_perform (k_Ta_perform :: gt) rm_Ta_perform (Pc0 D cI cJ cZ cO [.ref b, .int 2, .int x, .int y] (fun H => va_P D cls (wTa cI b n ks vs r f) H)) (Qd (blk b 3) none (fun H => va_P D cls (wTa cI b (n - 1) (upd ks i (ks (n - 1))) (upd vs i (vs (n - 1))) ((vs i).toInt64) 1) H)) 0 0 (blk b 3) := by
  refine Met.ofW (cc := c_Ta_perform) (maxL := 5) (ret := none) (by decide) rfl ?_
  intro p e s m args below meth c s₁ B hml hv
  obtain ⟨rfl, hKn, hP⟩ := hv
  have hx := B.exec
  have hb := B.bytes
  have hr := B.returns
  have hts := atoms_spec (ws := k_Ta_perform :: gt) B.pre
  have hg : ∀ w ∈ gt, w.before _ s = true := fun w h => hts w (List.mem_cons_of_mem _ h)
  have hown : s.vm.findClass R_Ta = some m.cls := findClass_of_methodNamed B.named
  have hlocks := B.notSynchronized
  have hK := hKn.1
  have hl := lv_entry ([.ref b, .int 2, .int x, .int y]) (n := 5) (Nat.le_of_ble_eq_true rfl)
  rw [lg_entry_eq]
  generalize (lg_sl ([.ref b, .int 2, .int x, .int y]) ++ List.replicate (5 - (lg_sl ([.ref b, .int 2, .int x, .int y])).length) Slot.unset).toArray = ls at hl ⊢
  have hl : lv_has ls 5 [(0, .ref b), (1, .int 2), (2, .int x), (3, .int y)] := hl
  have hS : va_S (blk b 3) s.heap s.heap [] := va_S.rf
  have hD : va_D (blk b 3) (wTa cI b n ks vs r f) := blk_D wTa_in
  refine lv_aload_n hx hb d_Ta_perform_0 rfl (lv_at hl 0 rfl) ?_
  refine lv_iload_n hx hb d_Ta_perform_1 rfl (lv_at hl 2 rfl) ?_
  refine ep_callP (W.runV (As := [.int x]) (rest := []) ⟨hx, hb, hml, hown, hg⟩ (m_Ta_placeOf l D cI cJ cZ cO b n ks vs r f x (by omega)) (ep_cwV 1 hg tw_502 tw_503 tw_504 tw_8 tk_Ta_placeOf rfl rfl (by decide +kernel) ⟨(Nat.le_of_ble_eq_true rfl), (Nat.le_of_ble_eq_true rfl)⟩) ⟨ep_blind, va_recv (q0 := 0) (ci := 5) hK hP rfl rfl, ep_pre hKn (hP)⟩ rfl rfl hl.1 rfl (lv_room (Nat.le_of_ble_eq_true rfl)) d_Ta_perform_2 ⟨Nat.zero_le _, Nat.zero_le _⟩) ?_
  refine W.eq (g2 := F0 m 5 ls [.int (tpo ks x n 0)]) rfl ?_
  rw [h0]
  refine lv_istore (lv' := [(4, .int (nI i)), (0, .ref b), (1, .int 2), (2, .int x), (3, .int y)]) hx hb d_Ta_perform_5 hl (by decide) rfl (fun ls hl => ?_)
  refine lv_iload_n hx hb d_Ta_perform_7 rfl (lv_at hl 2 rfl) ?_
  refine lv_iconst (v := 1) hx hb d_Ta_perform_8 (by decide) ?_
  refine lv_icmp_ne (tgt := 32) hx hb d_Ta_perform_9 (by decide) (fun hc => ?_) (fun hc => absurd hc (by decide))
  refine lv_iload_n hx hb d_Ta_perform_32 rfl (lv_at hl 2 rfl) ?_
  refine lv_iconst (v := 2) hx hb d_Ta_perform_33 (by decide) ?_
  refine lv_icmp_ne (tgt := 64) hx hb d_Ta_perform_34 (by decide) (fun hc => absurd (rfl) hc) (fun hc => ?_)
  refine lv_iload hx hb d_Ta_perform_37 (lv_at hl 0 rfl) ?_
  refine lv_iconst (v := (-1)) hx hb d_Ta_perform_39 (by decide) ?_
  refine lv_icmp_eq (tgt := 64) hx hb d_Ta_perform_40 (by decide) (fun hc => absurd hc (nI_ne_m1 (by omega))) (fun hc => ?_)
  refine lv_aload_n hx hb d_Ta_perform_43 rfl (lv_at hl 1 rfl) ?_
  refine lv_aload_n hx hb d_Ta_perform_44 rfl (lv_at hl 1 rfl) ?_
  refine va_get (D := D) (ci := 5) (v := .ref (b + 2)) (C := R_Ta) (T := F_Ta) (N := 5) hx hb hg in_Ta hown hK hP 0 rfl rfl 1 (Nat.le_of_ble_eq_true rfl) (hg _ tw_149) (fun _ h9 => h9) rfl d_Ta_perform_45 ?_
  refine lv_iload hx hb d_Ta_perform_48 (lv_at hl 0 rfl) ?_
  refine ep_iald hx hb hK hP 2 0 rfl rfl (i := i) (by omega) (by decide) d_Ta_perform_50 ?_
  refine lv_i2l hx hb d_Ta_perform_51 rfl ?_
  refine ep_callH (ep_toC (va_runU (As := [.long ((vs i).toInt64)]) (rest := []) ⟨hx, hb, hml, hown, hg⟩ (m_Ct_noteEffect_Ta l D cI cJ cZ cO b n ks vs r f (vs i).toInt64) (ep_cwU (owner := "EditablePast$Contents") 1 hg tw_510 tw_511 tw_512 tw_465 tw_4 tk_Ct_noteEffect rfl rfl rfl (by decide +kernel) ⟨(Nat.le_of_ble_eq_true rfl), (Nat.le_of_ble_eq_true rfl)⟩) ⟨ep_blind, va_recv (q0 := 0) (ci := 5) hK hP rfl rfl, ep_pre hKn (hP)⟩ rfl rfl hl.1 rfl (lv_room (Nat.le_of_ble_eq_true rfl)) d_Ta_perform_52 ⟨Nat.zero_le _, Nat.zero_le _⟩)) hS (fun q h => h) (fun H locs hsz9 hk1 hP1 hS => ?_)
  refine W.eq (g2 := F0 m 55 ls []) rfl ?_
  have hP : va_P D cls (wTa cI b n ks vs ((vs i).toInt64) 1) H := hP1
  have hD : va_D (blk b 3) (wTa cI b n ks vs ((vs i).toInt64) 1) := blk_D wTa_in
  refine lv_aload_n hx hb d_Ta_perform_55 rfl (lv_at hl 1 rfl) ?_
  refine lv_iload hx hb d_Ta_perform_56 (lv_at hl 0 rfl) ?_
  refine ep_callH (W.runV (As := [.int (nI i)]) (rest := []) ⟨hx, hb, hml, hown, hg⟩ (m_Ta_remove l D cI cJ cZ cO b n ks vs (vs i).toInt64 1 i hn hi) (ep_cwV 1 hg tw_513 tw_515 ts_6 tw_8 tk_Ta_remove rfl rfl (by decide +kernel) ⟨(Nat.le_of_ble_eq_true rfl), (Nat.le_of_ble_eq_true rfl)⟩) ⟨ep_blind, va_recv (q0 := 0) (ci := 5) hK hP rfl rfl, ep_pre hKn (hP)⟩ rfl rfl hl.1 rfl (lv_room (Nat.le_of_ble_eq_true rfl)) d_Ta_perform_58 ⟨Nat.zero_le _, Nat.zero_le _⟩) hS (fun q h => h) (fun H locs hsz9 hk1 hP1 hS => ?_)
  refine W.eq (g2 := F0 m 61 ls []) rfl ?_
  have hP : va_P D cls (wTa cI b (n - 1) (upd ks i (ks (n - 1))) (upd vs i (vs (n - 1))) ((vs i).toInt64) 1) H := hP1
  have hD : va_D (blk b 3) (wTa cI b (n - 1) (upd ks i (ks (n - 1))) (upd vs i (vs (n - 1))) ((vs i).toInt64) 1) := blk_D wTa_in
  refine lv_goto (tgt := 68) hx hb d_Ta_perform_61 (by decide) ?_
  exact W.vret hx hb hr (fun t9 ht hW => ⟨rfl, hS.F ht, by rw [ht]; exact hP⟩) hS.2.2 d_Ta_perform_68

set_option maxHeartbeats 4000000 in
set_option maxRecDepth 100000 in
theorem m_Ta_perform_0 (l : Launch) (D : va_G) (cI cJ cZ cO : ClassId) (b n : Nat) (ks vs : Nat → Int32) (r : Int64) (f : Int32) (nm x y : Int32) (hn : n ≤ 32) (h1 : nm = 1 → ¬ tpo ks x n 0 = -1) (h2 : nm = 2 → tpo ks x n 0 = -1) : Met l y_Ta_perform (k_Ta_perform :: gt) rm_Ta_perform (Pc0 D cI cJ cZ cO [.ref b, .int nm, .int x, .int y] (fun H => va_P D cls (wTa cI b n ks vs r f) H)) (Qd (blk b 3) none (fun H => va_P D cls (wTa cI b n ks vs 0 0) H)) 0 0 (blk b 3) := by
  refine Met.ofW (cc := c_Ta_perform) (maxL := 5) (ret := none) (by decide) rfl ?_
  intro p e s m args below meth c s₁ B hml hv
  obtain ⟨rfl, hKn, hP⟩ := hv
  have hx := B.exec
  have hb := B.bytes
  have hr := B.returns
  have hts := atoms_spec (ws := k_Ta_perform :: gt) B.pre
  have hg : ∀ w ∈ gt, w.before _ s = true := fun w h => hts w (List.mem_cons_of_mem _ h)
  have hown : s.vm.findClass R_Ta = some m.cls := findClass_of_methodNamed B.named
  have hlocks := B.notSynchronized
  have hK := hKn.1
  have hl := lv_entry ([.ref b, .int nm, .int x, .int y]) (n := 5) (Nat.le_of_ble_eq_true rfl)
  rw [lg_entry_eq]
  generalize (lg_sl ([.ref b, .int nm, .int x, .int y]) ++ List.replicate (5 - (lg_sl ([.ref b, .int nm, .int x, .int y])).length) Slot.unset).toArray = ls at hl ⊢
  have hl : lv_has ls 5 [(0, .ref b), (1, .int nm), (2, .int x), (3, .int y)] := hl
  have hS : va_S (blk b 3) s.heap s.heap [] := va_S.rf
  have hD : va_D (blk b 3) (wTa cI b n ks vs r f) := blk_D wTa_in
  refine lv_aload_n hx hb d_Ta_perform_0 rfl (lv_at hl 0 rfl) ?_
  refine lv_iload_n hx hb d_Ta_perform_1 rfl (lv_at hl 2 rfl) ?_
  refine ep_callP (W.runV (As := [.int x]) (rest := []) ⟨hx, hb, hml, hown, hg⟩ (m_Ta_placeOf l D cI cJ cZ cO b n ks vs r f x (by omega)) (ep_cwV 1 hg tw_502 tw_503 tw_504 tw_8 tk_Ta_placeOf rfl rfl (by decide +kernel) ⟨(Nat.le_of_ble_eq_true rfl), (Nat.le_of_ble_eq_true rfl)⟩) ⟨ep_blind, va_recv (q0 := 0) (ci := 5) hK hP rfl rfl, ep_pre hKn (hP)⟩ rfl rfl hl.1 rfl (lv_room (Nat.le_of_ble_eq_true rfl)) d_Ta_perform_2 ⟨Nat.zero_le _, Nat.zero_le _⟩) ?_
  refine W.eq (g2 := F0 m 5 ls [.int (tpo ks x n 0)]) rfl ?_
  refine lv_istore (lv' := [(4, .int (tpo ks x n 0)), (0, .ref b), (1, .int nm), (2, .int x), (3, .int y)]) hx hb d_Ta_perform_5 hl (by decide) rfl (fun ls hl => ?_)
  refine lv_iload_n hx hb d_Ta_perform_7 rfl (lv_at hl 2 rfl) ?_
  refine lv_iconst (v := 1) hx hb d_Ta_perform_8 (by decide) ?_
  refine lv_icmp_ne (tgt := 32) hx hb d_Ta_perform_9 (by decide) (fun hc => ?_) (fun hc => ?_)
  · have hn1 := hc
    refine lv_iload_n hx hb d_Ta_perform_32 rfl (lv_at hl 2 rfl) ?_
    refine lv_iconst (v := 2) hx hb d_Ta_perform_33 (by decide) ?_
    refine lv_icmp_ne (tgt := 64) hx hb d_Ta_perform_34 (by decide) (fun hc => ?_) (fun hc => ?_)
    · refine lv_aload_n hx hb d_Ta_perform_64 rfl (lv_at hl 1 rfl) ?_
      refine ep_callH (ep_toC (va_runU (As := []) (rest := []) ⟨hx, hb, hml, hown, hg⟩ (m_Ct_noteNoEffect_Ta l D cI cJ cZ cO b n ks vs r f) (ep_cwU (owner := "EditablePast$Contents") 0 hg tw_517 tw_518 tw_519 tw_477 tw_4 tk_Ct_noteNoEffect rfl rfl rfl (by decide +kernel) ⟨(Nat.le_of_ble_eq_true rfl), (Nat.le_of_ble_eq_true rfl)⟩) ⟨ep_blind, va_recv (q0 := 0) (ci := 5) hK hP rfl rfl, ep_pre hKn (hP)⟩ rfl rfl hl.1 rfl (lv_room (Nat.le_of_ble_eq_true rfl)) d_Ta_perform_65 ⟨Nat.zero_le _, Nat.zero_le _⟩)) hS (fun q h => h) (fun H locs hsz9 hk1 hP1 hS => ?_)
      refine W.eq (g2 := F0 m 68 ls []) rfl ?_
      have hP : va_P D cls (wTa cI b n ks vs 0 0) H := hP1
      have hD : va_D (blk b 3) (wTa cI b n ks vs 0 0) := blk_D wTa_in
      exact W.vret hx hb hr (fun t9 ht hW => ⟨rfl, hS.F ht, by rw [ht]; exact hP⟩) hS.2.2 d_Ta_perform_68
    · have hn2 := hc
      refine lv_iload hx hb d_Ta_perform_37 (lv_at hl 0 rfl) ?_
      refine lv_iconst (v := (-1)) hx hb d_Ta_perform_39 (by decide) ?_
      refine lv_icmp_eq (tgt := 64) hx hb d_Ta_perform_40 (by decide) (fun hc => ?_) (fun hc => absurd (h2 hn2) hc)
      refine lv_aload_n hx hb d_Ta_perform_64 rfl (lv_at hl 1 rfl) ?_
      refine ep_callH (ep_toC (va_runU (As := []) (rest := []) ⟨hx, hb, hml, hown, hg⟩ (m_Ct_noteNoEffect_Ta l D cI cJ cZ cO b n ks vs r f) (ep_cwU (owner := "EditablePast$Contents") 0 hg tw_517 tw_518 tw_519 tw_477 tw_4 tk_Ct_noteNoEffect rfl rfl rfl (by decide +kernel) ⟨(Nat.le_of_ble_eq_true rfl), (Nat.le_of_ble_eq_true rfl)⟩) ⟨ep_blind, va_recv (q0 := 0) (ci := 5) hK hP rfl rfl, ep_pre hKn (hP)⟩ rfl rfl hl.1 rfl (lv_room (Nat.le_of_ble_eq_true rfl)) d_Ta_perform_65 ⟨Nat.zero_le _, Nat.zero_le _⟩)) hS (fun q h => h) (fun H locs hsz9 hk1 hP1 hS => ?_)
      refine W.eq (g2 := F0 m 68 ls []) rfl ?_
      have hP : va_P D cls (wTa cI b n ks vs 0 0) H := hP1
      have hD : va_D (blk b 3) (wTa cI b n ks vs 0 0) := blk_D wTa_in
      exact W.vret hx hb hr (fun t9 ht hW => ⟨rfl, hS.F ht, by rw [ht]; exact hP⟩) hS.2.2 d_Ta_perform_68
  · have hn1 := hc
    refine lv_iload hx hb d_Ta_perform_12 (lv_at hl 0 rfl) ?_
    refine lv_iconst (v := (-1)) hx hb d_Ta_perform_14 (by decide) ?_
    refine lv_icmp_ne (tgt := 32) hx hb d_Ta_perform_15 (by decide) (fun hc => ?_) (fun hc => absurd hc (h1 hn1))
    refine lv_iload_n hx hb d_Ta_perform_32 rfl (lv_at hl 2 rfl) ?_
    refine lv_iconst (v := 2) hx hb d_Ta_perform_33 (by decide) ?_
    refine lv_icmp_ne (tgt := 64) hx hb d_Ta_perform_34 (by decide) (fun hc => ?_) (fun hc => ?_)
    · refine lv_aload_n hx hb d_Ta_perform_64 rfl (lv_at hl 1 rfl) ?_
      refine ep_callH (ep_toC (va_runU (As := []) (rest := []) ⟨hx, hb, hml, hown, hg⟩ (m_Ct_noteNoEffect_Ta l D cI cJ cZ cO b n ks vs r f) (ep_cwU (owner := "EditablePast$Contents") 0 hg tw_517 tw_518 tw_519 tw_477 tw_4 tk_Ct_noteNoEffect rfl rfl rfl (by decide +kernel) ⟨(Nat.le_of_ble_eq_true rfl), (Nat.le_of_ble_eq_true rfl)⟩) ⟨ep_blind, va_recv (q0 := 0) (ci := 5) hK hP rfl rfl, ep_pre hKn (hP)⟩ rfl rfl hl.1 rfl (lv_room (Nat.le_of_ble_eq_true rfl)) d_Ta_perform_65 ⟨Nat.zero_le _, Nat.zero_le _⟩)) hS (fun q h => h) (fun H locs hsz9 hk1 hP1 hS => ?_)
      refine W.eq (g2 := F0 m 68 ls []) rfl ?_
      have hP : va_P D cls (wTa cI b n ks vs 0 0) H := hP1
      have hD : va_D (blk b 3) (wTa cI b n ks vs 0 0) := blk_D wTa_in
      exact W.vret hx hb hr (fun t9 ht hW => ⟨rfl, hS.F ht, by rw [ht]; exact hP⟩) hS.2.2 d_Ta_perform_68
    · have hn2 := hc
      refine lv_iload hx hb d_Ta_perform_37 (lv_at hl 0 rfl) ?_
      refine lv_iconst (v := (-1)) hx hb d_Ta_perform_39 (by decide) ?_
      refine lv_icmp_eq (tgt := 64) hx hb d_Ta_perform_40 (by decide) (fun hc => ?_) (fun hc => absurd (h2 hn2) hc)
      refine lv_aload_n hx hb d_Ta_perform_64 rfl (lv_at hl 1 rfl) ?_
      refine ep_callH (ep_toC (va_runU (As := []) (rest := []) ⟨hx, hb, hml, hown, hg⟩ (m_Ct_noteNoEffect_Ta l D cI cJ cZ cO b n ks vs r f) (ep_cwU (owner := "EditablePast$Contents") 0 hg tw_517 tw_518 tw_519 tw_477 tw_4 tk_Ct_noteNoEffect rfl rfl rfl (by decide +kernel) ⟨(Nat.le_of_ble_eq_true rfl), (Nat.le_of_ble_eq_true rfl)⟩) ⟨ep_blind, va_recv (q0 := 0) (ci := 5) hK hP rfl rfl, ep_pre hKn (hP)⟩ rfl rfl hl.1 rfl (lv_room (Nat.le_of_ble_eq_true rfl)) d_Ta_perform_65 ⟨Nat.zero_le _, Nat.zero_le _⟩)) hS (fun q h => h) (fun H locs hsz9 hk1 hP1 hS => ?_)
      refine W.eq (g2 := F0 m 68 ls []) rfl ?_
      have hP : va_P D cls (wTa cI b n ks vs 0 0) H := hP1
      have hD : va_D (blk b 3) (wTa cI b n ks vs 0 0) := blk_D wTa_in
      exact W.vret hx hb hr (fun t9 ht hW => ⟨rfl, hS.F ht, by rw [ht]; exact hP⟩) hS.2.2 d_Ta_perform_68
