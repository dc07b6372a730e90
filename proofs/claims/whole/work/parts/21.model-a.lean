/-! contracts of EditablePastModel (by wip/whole/gen/model.py) -/
def f_Mo_thrown (code : Int32) : Int32 := code
set_option maxHeartbeats 4000000 in
set_option maxRecDepth 100000 in
theorem m_Mo_thrown (l : Launch) (D : va_G) (cI cJ cZ cO : ClassId) (a : Nat) (code : Int32) (kn : Nat → Int32) (ed : Nat → Int32) (ct : Nat → Int32) (ti : Nat → Int32) (nm : Nat → Int32) (xa : Nat → Int32) (xb : Nat → Int32) (ma : Int32) (it : Nat → Int32) (vs : Nat → Int32) (se : Nat → Int32) (sm : Int64) (rs : Nat → Int64) (wk : Nat → Int32) (ors : Nat → Int64) (owk : Nat → Int32) (R : Int32) (hR : f_Mo_thrown code = R) : Met l y_Md_thrown (k_Md_thrown :: gt) rm_Md_thrown (Pc0 D cI cJ cZ cO [.ref a] (fun H => va_P D cls (wMo cI cJ cZ a code kn ed ct ti nm xa xb ma it vs se sm rs wk ors owk) H)) (Qp (some (.int R))) 0 0 (fun _ => False) := by
  refine Met.ofW (cc := c_Md_thrown) (maxL := 1) (ret := (Option.some FieldType.int)) (by decide) rfl ?_
  intro p e s m args below meth c s₁ B hml hv
  obtain ⟨rfl, hKn, hP⟩ := hv
  have hx := B.exec
  have hb := B.bytes
  have hr := B.returns
  have hts := atoms_spec (ws := k_Md_thrown :: gt) B.pre
  have hg : ∀ w ∈ gt, w.before _ s = true := fun w h => hts w (List.mem_cons_of_mem _ h)
  have hown : s.vm.findClass R_Md = some m.cls := findClass_of_methodNamed B.named
  have hlocks := B.notSynchronized
  have hK := hKn.1
  have hl := lv_entry ([.ref a]) (n := 1) (Nat.le_of_ble_eq_true rfl)
  rw [lg_entry_eq]
  generalize (lg_sl ([.ref a]) ++ List.replicate (1 - (lg_sl ([.ref a])).length) Slot.unset).toArray = ls at hl ⊢
  have hl : lv_has ls 1 [(0, .ref a)] := hl
  have hR : (code) = R := hR
  refine lv_aload_n hx hb d_Md_thrown_0 rfl (lv_at hl 0 rfl) ?_
  refine va_get (D := D) (ci := 9) (v := .int code) (C := R_Md) (T := F_Md) (N := 17) hx hb hg in_Md hown hK hP 0 rfl rfl 0 (Nat.le_of_ble_eq_true rfl) (hg _ tw_706) (fun _ h9 => h9) rfl d_Md_thrown_1 ?_
  subst hR
  exact W.iret (v := code) hx hb hr (fun t9 ht hW => ⟨rfl, ht⟩) (fun q h => nomatch h) d_Md_thrown_4

set_option maxHeartbeats 4000000 in
set_option maxRecDepth 100000 in
theorem m_Mo_isId (l : Launch) (D : va_G) (cI cJ cZ cO : ClassId) (x : Int32) : Met l y_Md_isId (k_Md_isId :: gt) rm_Md_isId (Pc0 D cI cJ cZ cO [.int x] (fun H => True)) (Qp (some (.int (bI (okI x))))) 0 0 (fun _ => False) := by
  refine Met.ofW (cc := c_Md_isId) (maxL := 1) (ret := (Option.some FieldType.boolean)) (by decide) rfl ?_
  intro p e s m args below meth c s₁ B hml hv
  obtain ⟨rfl, hKn, -⟩ := hv
  have hx := B.exec
  have hb := B.bytes
  have hr := B.returns
  have hts := atoms_spec (ws := k_Md_isId :: gt) B.pre
  have hg : ∀ w ∈ gt, w.before _ s = true := fun w h => hts w (List.mem_cons_of_mem _ h)
  have hown : s.vm.findClass R_Md = some m.cls := findClass_of_methodNamed B.named
  have hlocks := B.notSynchronized
  have hK := hKn.1
  have hl := lv_entry ([.int x]) (n := 1) (Nat.le_of_ble_eq_true rfl)
  rw [lg_entry_eq]
  generalize (lg_sl ([.int x]) ++ List.replicate (1 - (lg_sl ([.int x])).length) Slot.unset).toArray = ls at hl ⊢
  have hl : lv_has ls 1 [(0, .int x)] := hl
  refine lv_iload_n hx hb d_Md_isId_0 rfl (lv_at hl 0 rfl) ?_
  refine lv_if_lt (tgt := 13) hx hb d_Md_isId_1 (by decide) (fun hc1 => ?_) (fun hc1 => ?_)
  · have hc1 : x < 0 := hc1
    refine lv_iconst (v := 0) hx hb d_Md_isId_13 (by decide) ?_
    exact W.zret (v := 0) hx hb hr (by decide) (fun t9 ht hW => ⟨by rw [show bI (okI x) = 0 from if_neg (by simp [okI, hc1])], ht⟩) (fun q h => nomatch h) d_Md_isId_14
  · have hc1 : ¬ (x < 0) := hc1
    refine lv_iload_n hx hb d_Md_isId_4 rfl (lv_at hl 0 rfl) ?_
    refine lv_iconst (v := 4) hx hb d_Md_isId_5 (by decide) ?_
    refine lv_icmp_ge (tgt := 13) hx hb d_Md_isId_6 (by decide) (fun hc2 => ?_) (fun hc2 => ?_)
    · have hc2 : 4 ≤ x := hc2
      refine lv_iconst (v := 0) hx hb d_Md_isId_13 (by decide) ?_
      exact W.zret (v := 0) hx hb hr (by decide) (fun t9 ht hW => ⟨by rw [show bI (okI x) = 0 from if_neg (by simp [okI, hc1, hc2])], ht⟩) (fun q h => nomatch h) d_Md_isId_14
    · have hc2 : ¬ (4 ≤ x) := hc2
      refine lv_iconst (v := 1) hx hb d_Md_isId_9 (by decide) ?_
      refine lv_goto (tgt := 14) hx hb d_Md_isId_10 (by decide) ?_
      exact W.zret (v := 1) hx hb hr (by decide) (fun t9 ht hW => ⟨by rw [show bI (okI x) = 1 from if_pos (by simp [okI, hc1, hc2])], ht⟩) (fun q h => nomatch h) d_Md_isId_14

set_option maxHeartbeats 4000000 in
set_option maxRecDepth 100000 in
theorem m_Mo_isMoment (l : Launch) (D : va_G) (cI cJ cZ cO : ClassId) (x : Int32) : Met l y_Md_isMoment (k_Md_isMoment :: gt) rm_Md_isMoment (Pc0 D cI cJ cZ cO [.int x] (fun H => True)) (Qp (some (.int (bI (okM x))))) 0 0 (fun _ => False) := by
  refine Met.ofW (cc := c_Md_isMoment) (maxL := 1) (ret := (Option.some FieldType.boolean)) (by decide) rfl ?_
  intro p e s m args below meth c s₁ B hml hv
  obtain ⟨rfl, hKn, -⟩ := hv
  have hx := B.exec
  have hb := B.bytes
  have hr := B.returns
  have hts := atoms_spec (ws := k_Md_isMoment :: gt) B.pre
  have hg : ∀ w ∈ gt, w.before _ s = true := fun w h => hts w (List.mem_cons_of_mem _ h)
  have hown : s.vm.findClass R_Md = some m.cls := findClass_of_methodNamed B.named
  have hlocks := B.notSynchronized
  have hK := hKn.1
  have hl := lv_entry ([.int x]) (n := 1) (Nat.le_of_ble_eq_true rfl)
  rw [lg_entry_eq]
  generalize (lg_sl ([.int x]) ++ List.replicate (1 - (lg_sl ([.int x])).length) Slot.unset).toArray = ls at hl ⊢
  have hl : lv_has ls 1 [(0, .int x)] := hl
  refine lv_iload_n hx hb d_Md_isMoment_0 rfl (lv_at hl 0 rfl) ?_
  refine lv_iconst (v := 1) hx hb d_Md_isMoment_1 (by decide) ?_
  refine lv_icmp_lt (tgt := 15) hx hb d_Md_isMoment_2 (by decide) (fun hc1 => ?_) (fun hc1 => ?_)
  · have hc1 : x < 1 := hc1
    refine lv_iconst (v := 0) hx hb d_Md_isMoment_15 (by decide) ?_
    exact W.zret (v := 0) hx hb hr (by decide) (fun t9 ht hW => ⟨by rw [show bI (okM x) = 0 from if_neg (by simp [okM, hc1])], ht⟩) (fun q h => nomatch h) d_Md_isMoment_16
  · have hc1 : ¬ (x < 1) := hc1
    refine lv_iload_n hx hb d_Md_isMoment_5 rfl (lv_at hl 0 rfl) ?_
    refine lv_ldc (v := 1000000000) hx hb hown (hg _ tw_780) d_Md_isMoment_6 ?_
    refine lv_icmp_gt (tgt := 15) hx hb d_Md_isMoment_8 (by decide) (fun hc2 => ?_) (fun hc2 => ?_)
    · have hc2 : 1000000000 < x := hc2
      refine lv_iconst (v := 0) hx hb d_Md_isMoment_15 (by decide) ?_
      exact W.zret (v := 0) hx hb hr (by decide) (fun t9 ht hW => ⟨by rw [show bI (okM x) = 0 from if_neg (by simp [okM, hc1, hc2])], ht⟩) (fun q h => nomatch h) d_Md_isMoment_16
    · have hc2 : ¬ (1000000000 < x) := hc2
      refine lv_iconst (v := 1) hx hb d_Md_isMoment_11 (by decide) ?_
      refine lv_goto (tgt := 16) hx hb d_Md_isMoment_12 (by decide) ?_
      exact W.zret (v := 1) hx hb hr (by decide) (fun t9 ht hW => ⟨by rw [show bI (okM x) = 1 from if_pos (by simp [okM, hc1, hc2])], ht⟩) (fun q h => nomatch h) d_Md_isMoment_16

set_option maxHeartbeats 4000000 in
set_option maxRecDepth 100000 in
theorem m_Mo_isValue (l : Launch) (D : va_G) (cI cJ cZ cO : ClassId) (x : Int32) : Met l y_Md_isValue (k_Md_isValue :: gt) rm_Md_isValue (Pc0 D cI cJ cZ cO [.int x] (fun H => True)) (Qp (some (.int (bI (okV x))))) 0 0 (fun _ => False) := by
  refine Met.ofW (cc := c_Md_isValue) (maxL := 1) (ret := (Option.some FieldType.boolean)) (by decide) rfl ?_
  intro p e s m args below meth c s₁ B hml hv
  obtain ⟨rfl, hKn, -⟩ := hv
  have hx := B.exec
  have hb := B.bytes
  have hr := B.returns
  have hts := atoms_spec (ws := k_Md_isValue :: gt) B.pre
  have hg : ∀ w ∈ gt, w.before _ s = true := fun w h => hts w (List.mem_cons_of_mem _ h)
  have hown : s.vm.findClass R_Md = some m.cls := findClass_of_methodNamed B.named
  have hlocks := B.notSynchronized
  have hK := hKn.1
  have hl := lv_entry ([.int x]) (n := 1) (Nat.le_of_ble_eq_true rfl)
  rw [lg_entry_eq]
  generalize (lg_sl ([.int x]) ++ List.replicate (1 - (lg_sl ([.int x])).length) Slot.unset).toArray = ls at hl ⊢
  have hl : lv_has ls 1 [(0, .int x)] := hl
  refine lv_iload_n hx hb d_Md_isValue_0 rfl (lv_at hl 0 rfl) ?_
  refine lv_if_lt (tgt := 14) hx hb d_Md_isValue_1 (by decide) (fun hc1 => ?_) (fun hc1 => ?_)
  · have hc1 : x < 0 := hc1
    refine lv_iconst (v := 0) hx hb d_Md_isValue_14 (by decide) ?_
    exact W.zret (v := 0) hx hb hr (by decide) (fun t9 ht hW => ⟨by rw [show bI (okV x) = 0 from if_neg (by simp [okV, hc1])], ht⟩) (fun q h => nomatch h) d_Md_isValue_15
  · have hc1 : ¬ (x < 0) := hc1
    refine lv_iload_n hx hb d_Md_isValue_4 rfl (lv_at hl 0 rfl) ?_
    refine lv_ldc (v := 1000000000) hx hb hown (hg _ tw_780) d_Md_isValue_5 ?_
    refine lv_icmp_gt (tgt := 14) hx hb d_Md_isValue_7 (by decide) (fun hc2 => ?_) (fun hc2 => ?_)
    · have hc2 : 1000000000 < x := hc2
      refine lv_iconst (v := 0) hx hb d_Md_isValue_14 (by decide) ?_
      exact W.zret (v := 0) hx hb hr (by decide) (fun t9 ht hW => ⟨by rw [show bI (okV x) = 0 from if_neg (by simp [okV, hc1, hc2])], ht⟩) (fun q h => nomatch h) d_Md_isValue_15
    · have hc2 : ¬ (1000000000 < x) := hc2
      refine lv_iconst (v := 1) hx hb d_Md_isValue_10 (by decide) ?_
      refine lv_goto (tgt := 15) hx hb d_Md_isValue_11 (by decide) ?_
      exact W.zret (v := 1) hx hb hr (by decide) (fun t9 ht hW => ⟨by rw [show bI (okV x) = 1 from if_pos (by simp [okV, hc1, hc2])], ht⟩) (fun q h => nomatch h) d_Md_isValue_15

def f_Mo_kindOf (kn : Nat → Int32) (j : Nat) : Int32 := ((kn j) - 1)
set_option maxHeartbeats 4000000 in
set_option maxRecDepth 100000 in
theorem m_Mo_kindOf (l : Launch) (D : va_G) (cI cJ cZ cO : ClassId) (a : Nat) (code : Int32) (kn : Nat → Int32) (ed : Nat → Int32) (ct : Nat → Int32) (ti : Nat → Int32) (nm : Nat → Int32) (xa : Nat → Int32) (xb : Nat → Int32) (ma : Int32) (it : Nat → Int32) (vs : Nat → Int32) (se : Nat → Int32) (sm : Int64) (rs : Nat → Int64) (wk : Nat → Int32) (ors : Nat → Int64) (owk : Nat → Int32) (j : Nat) (hj : j < 4) (R : Int32) (hR : f_Mo_kindOf kn j = R) : Met l y_Md_kindOf (k_Md_kindOf :: gt) rm_Md_kindOf (Pc0 D cI cJ cZ cO [.ref a, .int (nI j)] (fun H => va_P D cls (wMo cI cJ cZ a code kn ed ct ti nm xa xb ma it vs se sm rs wk ors owk) H)) (Qp (some (.int R))) 0 0 (fun _ => False) := by
  refine Met.ofW (cc := c_Md_kindOf) (maxL := 2) (ret := (Option.some FieldType.int)) (by decide) rfl ?_
  intro p e s m args below meth c s₁ B hml hv
  obtain ⟨rfl, hKn, hP⟩ := hv
  have hx := B.exec
  have hb := B.bytes
  have hr := B.returns
  have hts := atoms_spec (ws := k_Md_kindOf :: gt) B.pre
  have hg : ∀ w ∈ gt, w.before _ s = true := fun w h => hts w (List.mem_cons_of_mem _ h)
  have hown : s.vm.findClass R_Md = some m.cls := findClass_of_methodNamed B.named
  have hlocks := B.notSynchronized
  have hK := hKn.1
  have hl := lv_entry ([.ref a, .int (nI j)]) (n := 2) (Nat.le_of_ble_eq_true rfl)
  rw [lg_entry_eq]
  generalize (lg_sl ([.ref a, .int (nI j)]) ++ List.replicate (2 - (lg_sl ([.ref a, .int (nI j)])).length) Slot.unset).toArray = ls at hl ⊢
  have hl : lv_has ls 2 [(0, .ref a), (1, .int (nI j))] := hl
  have hR : (((kn j) - 1)) = R := hR
  refine lv_aload_n hx hb d_Md_kindOf_0 rfl (lv_at hl 0 rfl) ?_
  refine va_get (D := D) (ci := 9) (v := .ref (a + 1)) (C := R_Md) (T := F_Md) (N := 17) hx hb hg in_Md hown hK hP 0 rfl rfl 1 (Nat.le_of_ble_eq_true rfl) (hg _ tw_707) (fun _ h9 => h9) rfl d_Md_kindOf_1 ?_
  refine lv_iload_n hx hb d_Md_kindOf_4 rfl (lv_at hl 1 rfl) ?_
  refine ep_iald hx hb hK hP 1 0 rfl rfl (i := j) (by omega) (by decide) d_Md_kindOf_5 ?_
  refine lv_iconst (v := 1) hx hb d_Md_kindOf_6 (by decide) ?_
  refine lv_isub hx hb d_Md_kindOf_7 ?_
  subst hR
  exact W.iret (v := ((kn j) - 1)) hx hb hr (fun t9 ht hW => ⟨rfl, ht⟩) (fun q h => nomatch h) d_Md_kindOf_8

def f_Mo_open (kn : Nat → Int32) (ed : Nat → Int32) (ct : Nat → Int32) (j : Nat) (k : Int32) : Int32 × (Nat → Int32) × (Nat → Int32) × (Nat → Int32) := if k < 0 then ((1, kn, ed, ct)) else (if k ≤ 5 then (if (kn j) ≤ 0 then ((0, upd kn j (k + 1), upd ed j 0, upd (upd ct j 0) (j + 4) 0)) else ((2, kn, ed, ct))) else ((1, kn, ed, ct)))
set_option maxHeartbeats 4000000 in
set_option maxRecDepth 100000 in
theorem m_Mo_open (l : Launch) (D : va_G) (cI cJ cZ cO : ClassId) (a : Nat) (code : Int32) (kn : Nat → Int32) (ed : Nat → Int32) (ct : Nat → Int32) (ti : Nat → Int32) (nm : Nat → Int32) (xa : Nat → Int32) (xb : Nat → Int32) (ma : Int32) (it : Nat → Int32) (vs : Nat → Int32) (se : Nat → Int32) (sm : Int64) (rs : Nat → Int64) (wk : Nat → Int32) (ors : Nat → Int64) (owk : Nat → Int32) (j : Nat) (k : Int32) (hj : j < 4) (R : Int32 × (Nat → Int32) × (Nat → Int32) × (Nat → Int32)) (hR : f_Mo_open kn ed ct j k = R) : Met l y_Md_open (k_Md_open :: gt) rm_Md_open (Pc0 D cI cJ cZ cO [.ref a, .int (nI j), .int k] (fun H => va_P D cls (wMo cI cJ cZ a code kn ed ct ti nm xa xb ma it vs se sm rs wk ors owk) H)) (Qd (blk a 15) none (fun H => va_P D cls (wMo cI cJ cZ a R.1 R.2.1 R.2.2.1 R.2.2.2 ti nm xa xb ma it vs se sm rs wk ors owk) H)) 0 0 (blk a 15) := by
  refine Met.ofW (cc := c_Md_open) (maxL := 3) (ret := none) (by decide) rfl ?_
  intro p e s m args below meth c s₁ B hml hv
  obtain ⟨rfl, hKn, hP⟩ := hv
  have hx := B.exec
  have hb := B.bytes
  have hr := B.returns
  have hts := atoms_spec (ws := k_Md_open :: gt) B.pre
  have hg : ∀ w ∈ gt, w.before _ s = true := fun w h => hts w (List.mem_cons_of_mem _ h)
  have hown : s.vm.findClass R_Md = some m.cls := findClass_of_methodNamed B.named
  have hlocks := B.notSynchronized
  have hK := hKn.1
  have hl := lv_entry ([.ref a, .int (nI j), .int k]) (n := 3) (Nat.le_of_ble_eq_true rfl)
  rw [lg_entry_eq]
  generalize (lg_sl ([.ref a, .int (nI j), .int k]) ++ List.replicate (3 - (lg_sl ([.ref a, .int (nI j), .int k])).length) Slot.unset).toArray = ls at hl ⊢
  have hl : lv_has ls 3 [(0, .ref a), (1, .int (nI j)), (2, .int k)] := hl
  have hS : va_S (blk a 15) s.heap s.heap [] := va_S.rf
  have hD : va_D (blk a 15) (wMo cI cJ cZ a code kn ed ct ti nm xa xb ma it vs se sm rs wk ors owk) := (blk_D (wMo_in))
  have hR : (if k < 0 then ((1, kn, ed, ct)) else (if k ≤ 5 then (if (kn j) ≤ 0 then ((0, upd kn j (k + 1), upd ed j 0, upd (upd ct j 0) (j + 4) 0)) else ((2, kn, ed, ct))) else ((1, kn, ed, ct)))) = R := hR
  refine lv_aload_n hx hb d_Md_open_0 rfl (lv_at hl 0 rfl) ?_
  refine lv_iload_n hx hb d_Md_open_1 rfl (lv_at hl 1 rfl) ?_
  refine ep_callP (W.runS (As := [.int (nI j)]) (rest := [.ref a]) ⟨hx, hb, hml, hown, hg⟩ (m_Mo_isId l D cI cJ cZ cO (nI j)) (ep_cwS 1 hg tw_766 tw_767 tw_12 tk_Md_isId rfl rfl (by decide +kernel) ⟨(Nat.le_of_ble_eq_true rfl), (Nat.le_of_ble_eq_true rfl)⟩) ⟨ep_blind, ep_pre hKn (trivial)⟩ rfl rfl hl.1 rfl (lv_room (Nat.le_of_ble_eq_true rfl)) d_Md_open_2 ⟨Nat.zero_le _, Nat.zero_le _⟩) ?_
  refine W.eq (g2 := F0 m 5 ls [.int (bI (okI (nI j))), .ref a]) rfl ?_
  refine lv_topi (fun z8 e_z8 => ?_)
  obtain rfl : z8 = 1 := by rw [e_z8]; exact (if_pos (okI_n (by omega)))
  refine lv_if_eq (tgt := 17) hx hb d_Md_open_5 (by decide) (fun hc => False.elim (by revert hc; decide)) (fun hc => ?_)
  refine lv_iload_n hx hb d_Md_open_8 rfl (lv_at hl 2 rfl) ?_
  refine lv_if_lt (tgt := 17) hx hb d_Md_open_9 (by decide) (fun hc1 => ?_) (fun hc1 => ?_)
  · have hc1 : k < 0 := hc1
    refine lv_iconst (v := 1) hx hb d_Md_open_17 (by decide) ?_
    refine lv_goto (tgt := 35) hx hb d_Md_open_18 (by decide) ?_
    refine va_put (D := D) (ci := 9) (v := .int 1) (ty := .int) (C := R_Md) (T := F_Md) (N := 17) hx hb hg in_Md t_Md t_Md_ok n_Md hown hK hP hD hS 0 rfl rfl 0 (Nat.le_of_ble_eq_true rfl) (hg _ tw_706) (fun _ h9 => h9) rfl (by decide +kernel) rfl rfl (Nat.le_of_ble_eq_true rfl) d_Md_open_35 (fun H locs hP hD hS => ?_)
    have hP : va_P D cls (wMo cI cJ cZ a 1 kn ed ct ti nm xa xb ma it vs se sm rs wk ors owk) H := hP
    have hD : va_D (blk a 15) (wMo cI cJ cZ a 1 kn ed ct ti nm xa xb ma it vs se sm rs wk ors owk) := hD
    refine lv_aload_n hx hb d_Md_open_38 rfl (lv_at hl 0 rfl) ?_
    refine va_get (D := D) (ci := 9) (v := .int 1) (C := R_Md) (T := F_Md) (N := 17) hx hb hg in_Md hown hK hP 0 rfl rfl 0 (Nat.le_of_ble_eq_true rfl) (hg _ tw_706) (fun _ h9 => h9) rfl d_Md_open_39 ?_
    refine lv_if_ne (tgt := 77) hx hb d_Md_open_42 (by decide) (fun hc => ?_) (fun hc => False.elim (by revert hc; decide))
    rw [if_pos hc1] at hR
    subst hR
    exact W.vret hx hb hr (fun t9 ht hW => ⟨rfl, hS.F ht, by rw [ht]; exact hP⟩) hS.2.2 d_Md_open_77
  · have hc1 : ¬ (k < 0) := hc1
    refine lv_iload_n hx hb d_Md_open_12 rfl (lv_at hl 2 rfl) ?_
    refine lv_iconst (v := 5) hx hb d_Md_open_13 (by decide) ?_
    refine lv_icmp_le (tgt := 21) hx hb d_Md_open_14 (by decide) (fun hc2 => ?_) (fun hc2 => ?_)
    · have hc2 : k ≤ 5 := hc2
      refine lv_aload_n hx hb d_Md_open_21 rfl (lv_at hl 0 rfl) ?_
      refine va_get (D := D) (ci := 9) (v := .ref (a + 1)) (C := R_Md) (T := F_Md) (N := 17) hx hb hg in_Md hown hK hP 0 rfl rfl 1 (Nat.le_of_ble_eq_true rfl) (hg _ tw_707) (fun _ h9 => h9) rfl d_Md_open_22 ?_
      refine lv_iload_n hx hb d_Md_open_25 rfl (lv_at hl 1 rfl) ?_
      refine ep_iald hx hb hK hP 1 0 rfl rfl (i := j) (by omega) (by decide) d_Md_open_26 ?_
      refine lv_if_le (tgt := 34) hx hb d_Md_open_27 (by decide) (fun hc3 => ?_) (fun hc3 => ?_)
      · have hc3 : (kn j) ≤ 0 := hc3
        refine lv_iconst (v := 0) hx hb d_Md_open_34 (by decide) ?_
        refine va_put (D := D) (ci := 9) (v := .int 0) (ty := .int) (C := R_Md) (T := F_Md) (N := 17) hx hb hg in_Md t_Md t_Md_ok n_Md hown hK hP hD hS 0 rfl rfl 0 (Nat.le_of_ble_eq_true rfl) (hg _ tw_706) (fun _ h9 => h9) rfl (by decide +kernel) rfl rfl (Nat.le_of_ble_eq_true rfl) d_Md_open_35 (fun H locs hP hD hS => ?_)
        have hP : va_P D cls (wMo cI cJ cZ a 0 kn ed ct ti nm xa xb ma it vs se sm rs wk ors owk) H := hP
        have hD : va_D (blk a 15) (wMo cI cJ cZ a 0 kn ed ct ti nm xa xb ma it vs se sm rs wk ors owk) := hD
        refine lv_aload_n hx hb d_Md_open_38 rfl (lv_at hl 0 rfl) ?_
        refine va_get (D := D) (ci := 9) (v := .int 0) (C := R_Md) (T := F_Md) (N := 17) hx hb hg in_Md hown hK hP 0 rfl rfl 0 (Nat.le_of_ble_eq_true rfl) (hg _ tw_706) (fun _ h9 => h9) rfl d_Md_open_39 ?_
        refine lv_if_ne (tgt := 77) hx hb d_Md_open_42 (by decide) (fun hc => False.elim (by revert hc; decide)) (fun hc => ?_)
        refine lv_aload_n hx hb d_Md_open_45 rfl (lv_at hl 0 rfl) ?_
        refine va_get (D := D) (ci := 9) (v := .ref (a + 1)) (C := R_Md) (T := F_Md) (N := 17) hx hb hg in_Md hown hK hP 0 rfl rfl 1 (Nat.le_of_ble_eq_true rfl) (hg _ tw_707) (fun _ h9 => h9) rfl d_Md_open_46 ?_
        refine lv_iload_n hx hb d_Md_open_49 rfl (lv_at hl 1 rfl) ?_
        refine lv_iload_n hx hb d_Md_open_50 rfl (lv_at hl 2 rfl) ?_
        refine lv_iconst (v := 1) hx hb d_Md_open_51 (by decide) ?_
        refine lv_iadd hx hb d_Md_open_52 ?_
        refine ep_iast hx hb hK hP hD hS 1 0 rfl rfl (i := j) (x := (k + 1)) (by omega) (by decide) d_Md_open_53 (fun H locs hP hD hS => ?_)
        have hP : va_P D cls (wMo cI cJ cZ a 0 (upd kn j (k + 1)) ed ct ti nm xa xb ma it vs se sm rs wk ors owk) H := hP
        have hD : va_D (blk a 15) (wMo cI cJ cZ a 0 (upd kn j (k + 1)) ed ct ti nm xa xb ma it vs se sm rs wk ors owk) := hD
        refine lv_aload_n hx hb d_Md_open_54 rfl (lv_at hl 0 rfl) ?_
        refine va_get (D := D) (ci := 9) (v := .ref (a + 2)) (C := R_Md) (T := F_Md) (N := 17) hx hb hg in_Md hown hK hP 0 rfl rfl 2 (Nat.le_of_ble_eq_true rfl) (hg _ tw_708) (fun _ h9 => h9) rfl d_Md_open_55 ?_
        refine lv_iload_n hx hb d_Md_open_58 rfl (lv_at hl 1 rfl) ?_
        refine lv_iconst (v := 0) hx hb d_Md_open_59 (by decide) ?_
        refine ep_zast hx hb hK hP hD hS 2 2 rfl rfl (i := j) (x := 0) (by decide) (by omega) (by decide) d_Md_open_60 (fun H locs hP hD hS => ?_)
        have hP : va_P D cls (wMo cI cJ cZ a 0 (upd kn j (k + 1)) (upd ed j 0) ct ti nm xa xb ma it vs se sm rs wk ors owk) H := hP
        have hD : va_D (blk a 15) (wMo cI cJ cZ a 0 (upd kn j (k + 1)) (upd ed j 0) ct ti nm xa xb ma it vs se sm rs wk ors owk) := hD
        refine lv_aload_n hx hb d_Md_open_61 rfl (lv_at hl 0 rfl) ?_
        refine va_get (D := D) (ci := 9) (v := .ref (a + 3)) (C := R_Md) (T := F_Md) (N := 17) hx hb hg in_Md hown hK hP 0 rfl rfl 3 (Nat.le_of_ble_eq_true rfl) (hg _ tw_709) (fun _ h9 => h9) rfl d_Md_open_62 ?_
        refine lv_iload_n hx hb d_Md_open_65 rfl (lv_at hl 1 rfl) ?_
        refine lv_iconst (v := 0) hx hb d_Md_open_66 (by decide) ?_
        refine ep_iast hx hb hK hP hD hS 3 0 rfl rfl (i := j) (x := 0) (by omega) (by decide) d_Md_open_67 (fun H locs hP hD hS => ?_)
        have hP : va_P D cls (wMo cI cJ cZ a 0 (upd kn j (k + 1)) (upd ed j 0) (upd ct j 0) ti nm xa xb ma it vs se sm rs wk ors owk) H := hP
        have hD : va_D (blk a 15) (wMo cI cJ cZ a 0 (upd kn j (k + 1)) (upd ed j 0) (upd ct j 0) ti nm xa xb ma it vs se sm rs wk ors owk) := hD
        refine lv_aload_n hx hb d_Md_open_68 rfl (lv_at hl 0 rfl) ?_
        refine va_get (D := D) (ci := 9) (v := .ref (a + 3)) (C := R_Md) (T := F_Md) (N := 17) hx hb hg in_Md hown hK hP 0 rfl rfl 3 (Nat.le_of_ble_eq_true rfl) (hg _ tw_709) (fun _ h9 => h9) rfl d_Md_open_69 ?_
        refine lv_iload_n hx hb d_Md_open_72 rfl (lv_at hl 1 rfl) ?_
        refine lv_iconst (v := 4) hx hb d_Md_open_73 (by decide) ?_
        refine lv_iadd hx hb d_Md_open_74 ?_
        refine lv_topi (fun z9 e_z9 => ?_)
        obtain rfl : z9 = nI (j + 4) := by rw [e_z9]; exact (nI_add j 4)
        refine lv_iconst (v := 0) hx hb d_Md_open_75 (by decide) ?_
        refine ep_iast hx hb hK hP hD hS 3 0 rfl rfl (i := (j + 4)) (x := 0) (by omega) (by decide) d_Md_open_76 (fun H locs hP hD hS => ?_)
        have hP : va_P D cls (wMo cI cJ cZ a 0 (upd kn j (k + 1)) (upd ed j 0) (upd (upd ct j 0) (j + 4) 0) ti nm xa xb ma it vs se sm rs wk ors owk) H := hP
        have hD : va_D (blk a 15) (wMo cI cJ cZ a 0 (upd kn j (k + 1)) (upd ed j 0) (upd (upd ct j 0) (j + 4) 0) ti nm xa xb ma it vs se sm rs wk ors owk) := hD
        rw [if_neg hc1, if_pos hc2, if_pos hc3] at hR
        subst hR
        exact W.vret hx hb hr (fun t9 ht hW => ⟨rfl, hS.F ht, by rw [ht]; exact hP⟩) hS.2.2 d_Md_open_77
      · have hc3 : ¬ ((kn j) ≤ 0) := hc3
        refine lv_iconst (v := 2) hx hb d_Md_open_30 (by decide) ?_
        refine lv_goto (tgt := 35) hx hb d_Md_open_31 (by decide) ?_
        refine va_put (D := D) (ci := 9) (v := .int 2) (ty := .int) (C := R_Md) (T := F_Md) (N := 17) hx hb hg in_Md t_Md t_Md_ok n_Md hown hK hP hD hS 0 rfl rfl 0 (Nat.le_of_ble_eq_true rfl) (hg _ tw_706) (fun _ h9 => h9) rfl (by decide +kernel) rfl rfl (Nat.le_of_ble_eq_true rfl) d_Md_open_35 (fun H locs hP hD hS => ?_)
        have hP : va_P D cls (wMo cI cJ cZ a 2 kn ed ct ti nm xa xb ma it vs se sm rs wk ors owk) H := hP
        have hD : va_D (blk a 15) (wMo cI cJ cZ a 2 kn ed ct ti nm xa xb ma it vs se sm rs wk ors owk) := hD
        refine lv_aload_n hx hb d_Md_open_38 rfl (lv_at hl 0 rfl) ?_
        refine va_get (D := D) (ci := 9) (v := .int 2) (C := R_Md) (T := F_Md) (N := 17) hx hb hg in_Md hown hK hP 0 rfl rfl 0 (Nat.le_of_ble_eq_true rfl) (hg _ tw_706) (fun _ h9 => h9) rfl d_Md_open_39 ?_
        refine lv_if_ne (tgt := 77) hx hb d_Md_open_42 (by decide) (fun hc => ?_) (fun hc => False.elim (by revert hc; decide))
        rw [if_neg hc1, if_pos hc2, if_neg hc3] at hR
        subst hR
        exact W.vret hx hb hr (fun t9 ht hW => ⟨rfl, hS.F ht, by rw [ht]; exact hP⟩) hS.2.2 d_Md_open_77
    · have hc2 : ¬ (k ≤ 5) := hc2
      refine lv_iconst (v := 1) hx hb d_Md_open_17 (by decide) ?_
      refine lv_goto (tgt := 35) hx hb d_Md_open_18 (by decide) ?_
      refine va_put (D := D) (ci := 9) (v := .int 1) (ty := .int) (C := R_Md) (T := F_Md) (N := 17) hx hb hg in_Md t_Md t_Md_ok n_Md hown hK hP hD hS 0 rfl rfl 0 (Nat.le_of_ble_eq_true rfl) (hg _ tw_706) (fun _ h9 => h9) rfl (by decide +kernel) rfl rfl (Nat.le_of_ble_eq_true rfl) d_Md_open_35 (fun H locs hP hD hS => ?_)
      have hP : va_P D cls (wMo cI cJ cZ a 1 kn ed ct ti nm xa xb ma it vs se sm rs wk ors owk) H := hP
      have hD : va_D (blk a 15) (wMo cI cJ cZ a 1 kn ed ct ti nm xa xb ma it vs se sm rs wk ors owk) := hD
      refine lv_aload_n hx hb d_Md_open_38 rfl (lv_at hl 0 rfl) ?_
      refine va_get (D := D) (ci := 9) (v := .int 1) (C := R_Md) (T := F_Md) (N := 17) hx hb hg in_Md hown hK hP 0 rfl rfl 0 (Nat.le_of_ble_eq_true rfl) (hg _ tw_706) (fun _ h9 => h9) rfl d_Md_open_39 ?_
      refine lv_if_ne (tgt := 77) hx hb d_Md_open_42 (by decide) (fun hc => ?_) (fun hc => False.elim (by revert hc; decide))
      rw [if_neg hc1, if_neg hc2] at hR
      subst hR
      exact W.vret hx hb hr (fun t9 ht hW => ⟨rfl, hS.F ht, by rw [ht]; exact hP⟩) hS.2.2 d_Md_open_77

def f_Mo_open_b  : Int32 := 1
set_option maxHeartbeats 4000000 in
set_option maxRecDepth 100000 in
theorem m_Mo_open_b (l : Launch) (D : va_G) (cI cJ cZ cO : ClassId) (a : Nat) (code : Int32) (kn : Nat → Int32) (ed : Nat → Int32) (ct : Nat → Int32) (ti : Nat → Int32) (nm : Nat → Int32) (xa : Nat → Int32) (xb : Nat → Int32) (ma : Int32) (it : Nat → Int32) (vs : Nat → Int32) (se : Nat → Int32) (sm : Int64) (rs : Nat → Int64) (wk : Nat → Int32) (ors : Nat → Int64) (owk : Nat → Int32) (id : Int32) (k : Int32) (hid : ¬ okI id) (R : Int32) (hR : f_Mo_open_b = R) : Met l y_Md_open (k_Md_open :: gt) rm_Md_open (Pc0 D cI cJ cZ cO [.ref a, .int id, .int k] (fun H => va_P D cls (wMo cI cJ cZ a code kn ed ct ti nm xa xb ma it vs se sm rs wk ors owk) H)) (Qd (blk a 15) none (fun H => va_P D cls (wMo cI cJ cZ a R kn ed ct ti nm xa xb ma it vs se sm rs wk ors owk) H)) 0 0 (blk a 15) := by
  refine Met.ofW (cc := c_Md_open) (maxL := 3) (ret := none) (by decide) rfl ?_
  intro p e s m args below meth c s₁ B hml hv
  obtain ⟨rfl, hKn, hP⟩ := hv
  have hx := B.exec
  have hb := B.bytes
  have hr := B.returns
  have hts := atoms_spec (ws := k_Md_open :: gt) B.pre
  have hg : ∀ w ∈ gt, w.before _ s = true := fun w h => hts w (List.mem_cons_of_mem _ h)
  have hown : s.vm.findClass R_Md = some m.cls := findClass_of_methodNamed B.named
  have hlocks := B.notSynchronized
  have hK := hKn.1
  have hl := lv_entry ([.ref a, .int id, .int k]) (n := 3) (Nat.le_of_ble_eq_true rfl)
  rw [lg_entry_eq]
  generalize (lg_sl ([.ref a, .int id, .int k]) ++ List.replicate (3 - (lg_sl ([.ref a, .int id, .int k])).length) Slot.unset).toArray = ls at hl ⊢
  have hl : lv_has ls 3 [(0, .ref a), (1, .int id), (2, .int k)] := hl
  have hS : va_S (blk a 15) s.heap s.heap [] := va_S.rf
  have hD : va_D (blk a 15) (wMo cI cJ cZ a code kn ed ct ti nm xa xb ma it vs se sm rs wk ors owk) := (blk_D (wMo_in))
  have hR : (1) = R := hR
  refine lv_aload_n hx hb d_Md_open_0 rfl (lv_at hl 0 rfl) ?_
  refine lv_iload_n hx hb d_Md_open_1 rfl (lv_at hl 1 rfl) ?_
  refine ep_callP (W.runS (As := [.int id]) (rest := [.ref a]) ⟨hx, hb, hml, hown, hg⟩ (m_Mo_isId l D cI cJ cZ cO id) (ep_cwS 1 hg tw_766 tw_767 tw_12 tk_Md_isId rfl rfl (by decide +kernel) ⟨(Nat.le_of_ble_eq_true rfl), (Nat.le_of_ble_eq_true rfl)⟩) ⟨ep_blind, ep_pre hKn (trivial)⟩ rfl rfl hl.1 rfl (lv_room (Nat.le_of_ble_eq_true rfl)) d_Md_open_2 ⟨Nat.zero_le _, Nat.zero_le _⟩) ?_
  refine W.eq (g2 := F0 m 5 ls [.int (bI (okI id)), .ref a]) rfl ?_
  refine lv_topi (fun z8 e_z8 => ?_)
  obtain rfl : z8 = 0 := by rw [e_z8]; exact (if_neg hid)
  refine lv_if_eq (tgt := 17) hx hb d_Md_open_5 (by decide) (fun hc => ?_) (fun hc => False.elim (by revert hc; decide))
  refine lv_iconst (v := 1) hx hb d_Md_open_17 (by decide) ?_
  refine lv_goto (tgt := 35) hx hb d_Md_open_18 (by decide) ?_
  refine va_put (D := D) (ci := 9) (v := .int 1) (ty := .int) (C := R_Md) (T := F_Md) (N := 17) hx hb hg in_Md t_Md t_Md_ok n_Md hown hK hP hD hS 0 rfl rfl 0 (Nat.le_of_ble_eq_true rfl) (hg _ tw_706) (fun _ h9 => h9) rfl (by decide +kernel) rfl rfl (Nat.le_of_ble_eq_true rfl) d_Md_open_35 (fun H locs hP hD hS => ?_)
  have hP : va_P D cls (wMo cI cJ cZ a 1 kn ed ct ti nm xa xb ma it vs se sm rs wk ors owk) H := hP
  have hD : va_D (blk a 15) (wMo cI cJ cZ a 1 kn ed ct ti nm xa xb ma it vs se sm rs wk ors owk) := hD
  refine lv_aload_n hx hb d_Md_open_38 rfl (lv_at hl 0 rfl) ?_
  refine va_get (D := D) (ci := 9) (v := .int 1) (C := R_Md) (T := F_Md) (N := 17) hx hb hg in_Md hown hK hP 0 rfl rfl 0 (Nat.le_of_ble_eq_true rfl) (hg _ tw_706) (fun _ h9 => h9) rfl d_Md_open_39 ?_
  refine lv_if_ne (tgt := 77) hx hb d_Md_open_42 (by decide) (fun hc => ?_) (fun hc => False.elim (by revert hc; decide))
  subst hR
  exact W.vret hx hb hr (fun t9 ht hW => ⟨rfl, hS.F ht, by rw [ht]; exact hP⟩) hS.2.2 d_Md_open_77

def f_Mo_lacks (kn : Nat → Int32) (j : Nat) (t : Int32) : Int32 × Int32 := if okM t then (if (kn j) = 0 then ((1, 2)) else ((0, 0))) else ((1, 1))
set_option maxHeartbeats 4000000 in
set_option maxRecDepth 100000 in
theorem m_Mo_lacks (l : Launch) (D : va_G) (cI cJ cZ cO : ClassId) (a : Nat) (code : Int32) (kn : Nat → Int32) (ed : Nat → Int32) (ct : Nat → Int32) (ti : Nat → Int32) (nm : Nat → Int32) (xa : Nat → Int32) (xb : Nat → Int32) (ma : Int32) (it : Nat → Int32) (vs : Nat → Int32) (se : Nat → Int32) (sm : Int64) (rs : Nat → Int64) (wk : Nat → Int32) (ors : Nat → Int64) (owk : Nat → Int32) (j : Nat) (t : Int32) (hj : j < 4) (R : Int32 × Int32) (hR : f_Mo_lacks kn j t = R) : Met l y_Md_lacks (k_Md_lacks :: gt) rm_Md_lacks (Pc0 D cI cJ cZ cO [.ref a, .int (nI j), .int t] (fun H => va_P D cls (wMo cI cJ cZ a code kn ed ct ti nm xa xb ma it vs se sm rs wk ors owk) H)) (Qd (blk a 15) (some (.int R.1)) (fun H => va_P D cls (wMo cI cJ cZ a R.2 kn ed ct ti nm xa xb ma it vs se sm rs wk ors owk) H)) 0 0 (blk a 15) := by
  refine Met.ofW (cc := c_Md_lacks) (maxL := 3) (ret := (Option.some FieldType.boolean)) (by decide) rfl ?_
  intro p e s m args below meth c s₁ B hml hv
  obtain ⟨rfl, hKn, hP⟩ := hv
  have hx := B.exec
  have hb := B.bytes
  have hr := B.returns
  have hts := atoms_spec (ws := k_Md_lacks :: gt) B.pre
  have hg : ∀ w ∈ gt, w.before _ s = true := fun w h => hts w (List.mem_cons_of_mem _ h)
  have hown : s.vm.findClass R_Md = some m.cls := findClass_of_methodNamed B.named
  have hlocks := B.notSynchronized
  have hK := hKn.1
  have hl := lv_entry ([.ref a, .int (nI j), .int t]) (n := 3) (Nat.le_of_ble_eq_true rfl)
  rw [lg_entry_eq]
  generalize (lg_sl ([.ref a, .int (nI j), .int t]) ++ List.replicate (3 - (lg_sl ([.ref a, .int (nI j), .int t])).length) Slot.unset).toArray = ls at hl ⊢
  have hl : lv_has ls 3 [(0, .ref a), (1, .int (nI j)), (2, .int t)] := hl
  have hS : va_S (blk a 15) s.heap s.heap [] := va_S.rf
  have hD : va_D (blk a 15) (wMo cI cJ cZ a code kn ed ct ti nm xa xb ma it vs se sm rs wk ors owk) := (blk_D (wMo_in))
  have hR : (if okM t then (if (kn j) = 0 then ((1, 2)) else ((0, 0))) else ((1, 1))) = R := hR
  refine lv_aload_n hx hb d_Md_lacks_0 rfl (lv_at hl 0 rfl) ?_
  refine lv_iload_n hx hb d_Md_lacks_1 rfl (lv_at hl 1 rfl) ?_
  refine ep_callP (W.runS (As := [.int (nI j)]) (rest := [.ref a]) ⟨hx, hb, hml, hown, hg⟩ (m_Mo_isId l D cI cJ cZ cO (nI j)) (ep_cwS 1 hg tw_766 tw_767 tw_12 tk_Md_isId rfl rfl (by decide +kernel) ⟨(Nat.le_of_ble_eq_true rfl), (Nat.le_of_ble_eq_true rfl)⟩) ⟨ep_blind, ep_pre hKn (trivial)⟩ rfl rfl hl.1 rfl (lv_room (Nat.le_of_ble_eq_true rfl)) d_Md_lacks_2 ⟨Nat.zero_le _, Nat.zero_le _⟩) ?_
  refine W.eq (g2 := F0 m 5 ls [.int (bI (okI (nI j))), .ref a]) rfl ?_
  refine lv_topi (fun z8 e_z8 => ?_)
  obtain rfl : z8 = 1 := by rw [e_z8]; exact (if_pos (okI_n (by omega)))
  refine lv_if_eq (tgt := 15) hx hb d_Md_lacks_5 (by decide) (fun hc => False.elim (by revert hc; decide)) (fun hc => ?_)
  refine lv_iload_n hx hb d_Md_lacks_8 rfl (lv_at hl 2 rfl) ?_
  refine ep_callP (W.runS (As := [.int t]) (rest := [.ref a]) ⟨hx, hb, hml, hown, hg⟩ (m_Mo_isMoment l D cI cJ cZ cO t) (ep_cwS 1 hg tw_777 tw_778 tw_12 tk_Md_isMoment rfl rfl (by decide +kernel) ⟨(Nat.le_of_ble_eq_true rfl), (Nat.le_of_ble_eq_true rfl)⟩) ⟨ep_blind, ep_pre hKn (trivial)⟩ rfl rfl hl.1 rfl (lv_room (Nat.le_of_ble_eq_true rfl)) d_Md_lacks_9 ⟨Nat.zero_le _, Nat.zero_le _⟩) ?_
  refine W.eq (g2 := F0 m 12 ls [.int (bI (okM t)), .ref a]) rfl ?_
  by_cases hc1 : okM t
  · rw [show bI (okM t) = 1 from if_pos hc1]
    refine lv_if_ne (tgt := 19) hx hb d_Md_lacks_12 (by decide) (fun hc => ?_) (fun hc => False.elim (by revert hc; decide))
    refine lv_aload_n hx hb d_Md_lacks_19 rfl (lv_at hl 0 rfl) ?_
    refine va_get (D := D) (ci := 9) (v := .ref (a + 1)) (C := R_Md) (T := F_Md) (N := 17) hx hb hg in_Md hown hK hP 0 rfl rfl 1 (Nat.le_of_ble_eq_true rfl) (hg _ tw_707) (fun _ h9 => h9) rfl d_Md_lacks_20 ?_
    refine lv_iload_n hx hb d_Md_lacks_23 rfl (lv_at hl 1 rfl) ?_
    refine ep_iald hx hb hK hP 1 0 rfl rfl (i := j) (by omega) (by decide) d_Md_lacks_24 ?_
    refine lv_if_ne (tgt := 32) hx hb d_Md_lacks_25 (by decide) (fun hc2 => ?_) (fun hc2 => ?_)
    · have hc2 : ¬ ((kn j) = 0) := hc2
      refine lv_iconst (v := 0) hx hb d_Md_lacks_32 (by decide) ?_
      refine va_put (D := D) (ci := 9) (v := .int 0) (ty := .int) (C := R_Md) (T := F_Md) (N := 17) hx hb hg in_Md t_Md t_Md_ok n_Md hown hK hP hD hS 0 rfl rfl 0 (Nat.le_of_ble_eq_true rfl) (hg _ tw_706) (fun _ h9 => h9) rfl (by decide +kernel) rfl rfl (Nat.le_of_ble_eq_true rfl) d_Md_lacks_33 (fun H locs hP hD hS => ?_)
      have hP : va_P D cls (wMo cI cJ cZ a 0 kn ed ct ti nm xa xb ma it vs se sm rs wk ors owk) H := hP
      have hD : va_D (blk a 15) (wMo cI cJ cZ a 0 kn ed ct ti nm xa xb ma it vs se sm rs wk ors owk) := hD
      refine lv_aload_n hx hb d_Md_lacks_36 rfl (lv_at hl 0 rfl) ?_
      refine va_get (D := D) (ci := 9) (v := .int 0) (C := R_Md) (T := F_Md) (N := 17) hx hb hg in_Md hown hK hP 0 rfl rfl 0 (Nat.le_of_ble_eq_true rfl) (hg _ tw_706) (fun _ h9 => h9) rfl d_Md_lacks_37 ?_
      refine lv_if_le (tgt := 47) hx hb d_Md_lacks_40 (by decide) (fun hc => ?_) (fun hc => False.elim (by revert hc; decide))
      refine lv_iconst (v := 0) hx hb d_Md_lacks_47 (by decide) ?_
      rw [if_pos hc1, if_neg hc2] at hR
      subst hR
      exact W.zret (v := 0) hx hb hr (by decide) (fun t9 ht hW => ⟨rfl, hS.F ht, by rw [ht]; exact hP⟩) hS.2.2 d_Md_lacks_48
    · have hc2 : (kn j) = 0 := hc2
      refine lv_iconst (v := 2) hx hb d_Md_lacks_28 (by decide) ?_
      refine lv_goto (tgt := 33) hx hb d_Md_lacks_29 (by decide) ?_
      refine va_put (D := D) (ci := 9) (v := .int 2) (ty := .int) (C := R_Md) (T := F_Md) (N := 17) hx hb hg in_Md t_Md t_Md_ok n_Md hown hK hP hD hS 0 rfl rfl 0 (Nat.le_of_ble_eq_true rfl) (hg _ tw_706) (fun _ h9 => h9) rfl (by decide +kernel) rfl rfl (Nat.le_of_ble_eq_true rfl) d_Md_lacks_33 (fun H locs hP hD hS => ?_)
      have hP : va_P D cls (wMo cI cJ cZ a 2 kn ed ct ti nm xa xb ma it vs se sm rs wk ors owk) H := hP
      have hD : va_D (blk a 15) (wMo cI cJ cZ a 2 kn ed ct ti nm xa xb ma it vs se sm rs wk ors owk) := hD
      refine lv_aload_n hx hb d_Md_lacks_36 rfl (lv_at hl 0 rfl) ?_
      refine va_get (D := D) (ci := 9) (v := .int 2) (C := R_Md) (T := F_Md) (N := 17) hx hb hg in_Md hown hK hP 0 rfl rfl 0 (Nat.le_of_ble_eq_true rfl) (hg _ tw_706) (fun _ h9 => h9) rfl d_Md_lacks_37 ?_
      refine lv_if_le (tgt := 47) hx hb d_Md_lacks_40 (by decide) (fun hc => False.elim (by revert hc; decide)) (fun hc => ?_)
      refine lv_iconst (v := 1) hx hb d_Md_lacks_43 (by decide) ?_
      refine lv_goto (tgt := 48) hx hb d_Md_lacks_44 (by decide) ?_
      rw [if_pos hc1, if_pos hc2] at hR
      subst hR
      exact W.zret (v := 1) hx hb hr (by decide) (fun t9 ht hW => ⟨rfl, hS.F ht, by rw [ht]; exact hP⟩) hS.2.2 d_Md_lacks_48
  · rw [show bI (okM t) = 0 from if_neg hc1]
    refine lv_if_ne (tgt := 19) hx hb d_Md_lacks_12 (by decide) (fun hc => False.elim (by revert hc; decide)) (fun hc => ?_)
    refine lv_iconst (v := 1) hx hb d_Md_lacks_15 (by decide) ?_
    refine lv_goto (tgt := 33) hx hb d_Md_lacks_16 (by decide) ?_
    refine va_put (D := D) (ci := 9) (v := .int 1) (ty := .int) (C := R_Md) (T := F_Md) (N := 17) hx hb hg in_Md t_Md t_Md_ok n_Md hown hK hP hD hS 0 rfl rfl 0 (Nat.le_of_ble_eq_true rfl) (hg _ tw_706) (fun _ h9 => h9) rfl (by decide +kernel) rfl rfl (Nat.le_of_ble_eq_true rfl) d_Md_lacks_33 (fun H locs hP hD hS => ?_)
    have hP : va_P D cls (wMo cI cJ cZ a 1 kn ed ct ti nm xa xb ma it vs se sm rs wk ors owk) H := hP
    have hD : va_D (blk a 15) (wMo cI cJ cZ a 1 kn ed ct ti nm xa xb ma it vs se sm rs wk ors owk) := hD
    refine lv_aload_n hx hb d_Md_lacks_36 rfl (lv_at hl 0 rfl) ?_
    refine va_get (D := D) (ci := 9) (v := .int 1) (C := R_Md) (T := F_Md) (N := 17) hx hb hg in_Md hown hK hP 0 rfl rfl 0 (Nat.le_of_ble_eq_true rfl) (hg _ tw_706) (fun _ h9 => h9) rfl d_Md_lacks_37 ?_
    refine lv_if_le (tgt := 47) hx hb d_Md_lacks_40 (by decide) (fun hc => False.elim (by revert hc; decide)) (fun hc => ?_)
    refine lv_iconst (v := 1) hx hb d_Md_lacks_43 (by decide) ?_
    refine lv_goto (tgt := 48) hx hb d_Md_lacks_44 (by decide) ?_
    rw [if_neg hc1] at hR
    subst hR
    exact W.zret (v := 1) hx hb hr (by decide) (fun t9 ht hW => ⟨rfl, hS.F ht, by rw [ht]; exact hP⟩) hS.2.2 d_Md_lacks_48

def f_Mo_lacks_b  : Int32 × Int32 := (1, 1)
set_option maxHeartbeats 4000000 in
set_option maxRecDepth 100000 in
theorem m_Mo_lacks_b (l : Launch) (D : va_G) (cI cJ cZ cO : ClassId) (a : Nat) (code : Int32) (kn : Nat → Int32) (ed : Nat → Int32) (ct : Nat → Int32) (ti : Nat → Int32) (nm : Nat → Int32) (xa : Nat → Int32) (xb : Nat → Int32) (ma : Int32) (it : Nat → Int32) (vs : Nat → Int32) (se : Nat → Int32) (sm : Int64) (rs : Nat → Int64) (wk : Nat → Int32) (ors : Nat → Int64) (owk : Nat → Int32) (id : Int32) (t : Int32) (hid : ¬ okI id) (R : Int32 × Int32) (hR : f_Mo_lacks_b = R) : Met l y_Md_lacks (k_Md_lacks :: gt) rm_Md_lacks (Pc0 D cI cJ cZ cO [.ref a, .int id, .int t] (fun H => va_P D cls (wMo cI cJ cZ a code kn ed ct ti nm xa xb ma it vs se sm rs wk ors owk) H)) (Qd (blk a 15) (some (.int R.1)) (fun H => va_P D cls (wMo cI cJ cZ a R.2 kn ed ct ti nm xa xb ma it vs se sm rs wk ors owk) H)) 0 0 (blk a 15) := by
  refine Met.ofW (cc := c_Md_lacks) (maxL := 3) (ret := (Option.some FieldType.boolean)) (by decide) rfl ?_
  intro p e s m args below meth c s₁ B hml hv
  obtain ⟨rfl, hKn, hP⟩ := hv
  have hx := B.exec
  have hb := B.bytes
  have hr := B.returns
  have hts := atoms_spec (ws := k_Md_lacks :: gt) B.pre
  have hg : ∀ w ∈ gt, w.before _ s = true := fun w h => hts w (List.mem_cons_of_mem _ h)
  have hown : s.vm.findClass R_Md = some m.cls := findClass_of_methodNamed B.named
  have hlocks := B.notSynchronized
  have hK := hKn.1
  have hl := lv_entry ([.ref a, .int id, .int t]) (n := 3) (Nat.le_of_ble_eq_true rfl)
  rw [lg_entry_eq]
  generalize (lg_sl ([.ref a, .int id, .int t]) ++ List.replicate (3 - (lg_sl ([.ref a, .int id, .int t])).length) Slot.unset).toArray = ls at hl ⊢
  have hl : lv_has ls 3 [(0, .ref a), (1, .int id), (2, .int t)] := hl
  have hS : va_S (blk a 15) s.heap s.heap [] := va_S.rf
  have hD : va_D (blk a 15) (wMo cI cJ cZ a code kn ed ct ti nm xa xb ma it vs se sm rs wk ors owk) := (blk_D (wMo_in))
  have hR : ((1, 1)) = R := hR
  refine lv_aload_n hx hb d_Md_lacks_0 rfl (lv_at hl 0 rfl) ?_
  refine lv_iload_n hx hb d_Md_lacks_1 rfl (lv_at hl 1 rfl) ?_
  refine ep_callP (W.runS (As := [.int id]) (rest := [.ref a]) ⟨hx, hb, hml, hown, hg⟩ (m_Mo_isId l D cI cJ cZ cO id) (ep_cwS 1 hg tw_766 tw_767 tw_12 tk_Md_isId rfl rfl (by decide +kernel) ⟨(Nat.le_of_ble_eq_true rfl), (Nat.le_of_ble_eq_true rfl)⟩) ⟨ep_blind, ep_pre hKn (trivial)⟩ rfl rfl hl.1 rfl (lv_room (Nat.le_of_ble_eq_true rfl)) d_Md_lacks_2 ⟨Nat.zero_le _, Nat.zero_le _⟩) ?_
  refine W.eq (g2 := F0 m 5 ls [.int (bI (okI id)), .ref a]) rfl ?_
  refine lv_topi (fun z8 e_z8 => ?_)
  obtain rfl : z8 = 0 := by rw [e_z8]; exact (if_neg hid)
  refine lv_if_eq (tgt := 15) hx hb d_Md_lacks_5 (by decide) (fun hc => ?_) (fun hc => False.elim (by revert hc; decide))
  refine lv_iconst (v := 1) hx hb d_Md_lacks_15 (by decide) ?_
  refine lv_goto (tgt := 33) hx hb d_Md_lacks_16 (by decide) ?_
  refine va_put (D := D) (ci := 9) (v := .int 1) (ty := .int) (C := R_Md) (T := F_Md) (N := 17) hx hb hg in_Md t_Md t_Md_ok n_Md hown hK hP hD hS 0 rfl rfl 0 (Nat.le_of_ble_eq_true rfl) (hg _ tw_706) (fun _ h9 => h9) rfl (by decide +kernel) rfl rfl (Nat.le_of_ble_eq_true rfl) d_Md_lacks_33 (fun H locs hP hD hS => ?_)
  have hP : va_P D cls (wMo cI cJ cZ a 1 kn ed ct ti nm xa xb ma it vs se sm rs wk ors owk) H := hP
  have hD : va_D (blk a 15) (wMo cI cJ cZ a 1 kn ed ct ti nm xa xb ma it vs se sm rs wk ors owk) := hD
  refine lv_aload_n hx hb d_Md_lacks_36 rfl (lv_at hl 0 rfl) ?_
  refine va_get (D := D) (ci := 9) (v := .int 1) (C := R_Md) (T := F_Md) (N := 17) hx hb hg in_Md hown hK hP 0 rfl rfl 0 (Nat.le_of_ble_eq_true rfl) (hg _ tw_706) (fun _ h9 => h9) rfl d_Md_lacks_37 ?_
  refine lv_if_le (tgt := 47) hx hb d_Md_lacks_40 (by decide) (fun hc => False.elim (by revert hc; decide)) (fun hc => ?_)
  refine lv_iconst (v := 1) hx hb d_Md_lacks_43 (by decide) ?_
  refine lv_goto (tgt := 48) hx hb d_Md_lacks_44 (by decide) ?_
  subst hR
  exact W.zret (v := 1) hx hb hr (by decide) (fun t9 ht hW => ⟨rfl, hS.F ht, by rw [ht]; exact hP⟩) hS.2.2 d_Md_lacks_48

def f_Mo_copy (ti : Nat → Int32) (nm : Nat → Int32) (xa : Nat → Int32) (xb : Nat → Int32) (x : Nat) (y : Nat) : (Nat → Int32) × (Nat → Int32) × (Nat → Int32) × (Nat → Int32) := (upd ti y (ti x), upd nm y (nm x), upd xa y (xa x), upd xb y (xb x))
set_option maxHeartbeats 4000000 in
set_option maxRecDepth 100000 in
theorem m_Mo_copy (l : Launch) (D : va_G) (cI cJ cZ cO : ClassId) (a : Nat) (code : Int32) (kn : Nat → Int32) (ed : Nat → Int32) (ct : Nat → Int32) (ti : Nat → Int32) (nm : Nat → Int32) (xa : Nat → Int32) (xb : Nat → Int32) (ma : Int32) (it : Nat → Int32) (vs : Nat → Int32) (se : Nat → Int32) (sm : Int64) (rs : Nat → Int64) (wk : Nat → Int32) (ors : Nat → Int64) (owk : Nat → Int32) (x : Nat) (y : Nat) (hx9 : x < 256) (hy9 : y < 256) (R : (Nat → Int32) × (Nat → Int32) × (Nat → Int32) × (Nat → Int32)) (hR : f_Mo_copy ti nm xa xb x y = R) : Met l y_Md_copy (k_Md_copy :: gt) rm_Md_copy (Pc0 D cI cJ cZ cO [.ref a, .int (nI x), .int (nI y)] (fun H => va_P D cls (wMo cI cJ cZ a code kn ed ct ti nm xa xb ma it vs se sm rs wk ors owk) H)) (Qd (blk a 15) none (fun H => va_P D cls (wMo cI cJ cZ a code kn ed ct R.1 R.2.1 R.2.2.1 R.2.2.2 ma it vs se sm rs wk ors owk) H)) 0 0 (blk a 15) := by
  refine Met.ofW (cc := c_Md_copy) (maxL := 3) (ret := none) (by decide) rfl ?_
  intro p e s m args below meth c s₁ B hml hv
  obtain ⟨rfl, hKn, hP⟩ := hv
  have hx := B.exec
  have hb := B.bytes
  have hr := B.returns
  have hts := atoms_spec (ws := k_Md_copy :: gt) B.pre
  have hg : ∀ w ∈ gt, w.before _ s = true := fun w h => hts w (List.mem_cons_of_mem _ h)
  have hown : s.vm.findClass R_Md = some m.cls := findClass_of_methodNamed B.named
  have hlocks := B.notSynchronized
  have hK := hKn.1
  have hl := lv_entry ([.ref a, .int (nI x), .int (nI y)]) (n := 3) (Nat.le_of_ble_eq_true rfl)
  rw [lg_entry_eq]
  generalize (lg_sl ([.ref a, .int (nI x), .int (nI y)]) ++ List.replicate (3 - (lg_sl ([.ref a, .int (nI x), .int (nI y)])).length) Slot.unset).toArray = ls at hl ⊢
  have hl : lv_has ls 3 [(0, .ref a), (1, .int (nI x)), (2, .int (nI y))] := hl
  have hS : va_S (blk a 15) s.heap s.heap [] := va_S.rf
  have hD : va_D (blk a 15) (wMo cI cJ cZ a code kn ed ct ti nm xa xb ma it vs se sm rs wk ors owk) := (blk_D (wMo_in))
  have hR : ((upd ti y (ti x), upd nm y (nm x), upd xa y (xa x), upd xb y (xb x))) = R := hR
  refine lv_aload_n hx hb d_Md_copy_0 rfl (lv_at hl 0 rfl) ?_
  refine va_get (D := D) (ci := 9) (v := .ref (a + 4)) (C := R_Md) (T := F_Md) (N := 17) hx hb hg in_Md hown hK hP 0 rfl rfl 4 (Nat.le_of_ble_eq_true rfl) (hg _ tw_710) (fun _ h9 => h9) rfl d_Md_copy_1 ?_
  refine lv_iload_n hx hb d_Md_copy_4 rfl (lv_at hl 2 rfl) ?_
  refine lv_aload_n hx hb d_Md_copy_5 rfl (lv_at hl 0 rfl) ?_
  refine va_get (D := D) (ci := 9) (v := .ref (a + 4)) (C := R_Md) (T := F_Md) (N := 17) hx hb hg in_Md hown hK hP 0 rfl rfl 4 (Nat.le_of_ble_eq_true rfl) (hg _ tw_710) (fun _ h9 => h9) rfl d_Md_copy_6 ?_
  refine lv_iload_n hx hb d_Md_copy_9 rfl (lv_at hl 1 rfl) ?_
  refine ep_iald hx hb hK hP 4 0 rfl rfl (i := x) (by omega) (by decide) d_Md_copy_10 ?_
  refine ep_iast hx hb hK hP hD hS 4 0 rfl rfl (i := y) (x := (ti x)) (by omega) (by decide) d_Md_copy_11 (fun H locs hP hD hS => ?_)
  have hP : va_P D cls (wMo cI cJ cZ a code kn ed ct (upd ti y (ti x)) nm xa xb ma it vs se sm rs wk ors owk) H := hP
  have hD : va_D (blk a 15) (wMo cI cJ cZ a code kn ed ct (upd ti y (ti x)) nm xa xb ma it vs se sm rs wk ors owk) := hD
  refine lv_aload_n hx hb d_Md_copy_12 rfl (lv_at hl 0 rfl) ?_
  refine va_get (D := D) (ci := 9) (v := .ref (a + 5)) (C := R_Md) (T := F_Md) (N := 17) hx hb hg in_Md hown hK hP 0 rfl rfl 5 (Nat.le_of_ble_eq_true rfl) (hg _ tw_711) (fun _ h9 => h9) rfl d_Md_copy_13 ?_
  refine lv_iload_n hx hb d_Md_copy_16 rfl (lv_at hl 2 rfl) ?_
  refine lv_aload_n hx hb d_Md_copy_17 rfl (lv_at hl 0 rfl) ?_
  refine va_get (D := D) (ci := 9) (v := .ref (a + 5)) (C := R_Md) (T := F_Md) (N := 17) hx hb hg in_Md hown hK hP 0 rfl rfl 5 (Nat.le_of_ble_eq_true rfl) (hg _ tw_711) (fun _ h9 => h9) rfl d_Md_copy_18 ?_
  refine lv_iload_n hx hb d_Md_copy_21 rfl (lv_at hl 1 rfl) ?_
  refine ep_iald hx hb hK hP 5 0 rfl rfl (i := x) (by omega) (by decide) d_Md_copy_22 ?_
  refine ep_iast hx hb hK hP hD hS 5 0 rfl rfl (i := y) (x := (nm x)) (by omega) (by decide) d_Md_copy_23 (fun H locs hP hD hS => ?_)
  have hP : va_P D cls (wMo cI cJ cZ a code kn ed ct (upd ti y (ti x)) (upd nm y (nm x)) xa xb ma it vs se sm rs wk ors owk) H := hP
  have hD : va_D (blk a 15) (wMo cI cJ cZ a code kn ed ct (upd ti y (ti x)) (upd nm y (nm x)) xa xb ma it vs se sm rs wk ors owk) := hD
  refine lv_aload_n hx hb d_Md_copy_24 rfl (lv_at hl 0 rfl) ?_
  refine va_get (D := D) (ci := 9) (v := .ref (a + 6)) (C := R_Md) (T := F_Md) (N := 17) hx hb hg in_Md hown hK hP 0 rfl rfl 6 (Nat.le_of_ble_eq_true rfl) (hg _ tw_712) (fun _ h9 => h9) rfl d_Md_copy_25 ?_
  refine lv_iload_n hx hb d_Md_copy_28 rfl (lv_at hl 2 rfl) ?_
  refine lv_aload_n hx hb d_Md_copy_29 rfl (lv_at hl 0 rfl) ?_
  refine va_get (D := D) (ci := 9) (v := .ref (a + 6)) (C := R_Md) (T := F_Md) (N := 17) hx hb hg in_Md hown hK hP 0 rfl rfl 6 (Nat.le_of_ble_eq_true rfl) (hg _ tw_712) (fun _ h9 => h9) rfl d_Md_copy_30 ?_
  refine lv_iload_n hx hb d_Md_copy_33 rfl (lv_at hl 1 rfl) ?_
  refine ep_iald hx hb hK hP 6 0 rfl rfl (i := x) (by omega) (by decide) d_Md_copy_34 ?_
  refine ep_iast hx hb hK hP hD hS 6 0 rfl rfl (i := y) (x := (xa x)) (by omega) (by decide) d_Md_copy_35 (fun H locs hP hD hS => ?_)
  have hP : va_P D cls (wMo cI cJ cZ a code kn ed ct (upd ti y (ti x)) (upd nm y (nm x)) (upd xa y (xa x)) xb ma it vs se sm rs wk ors owk) H := hP
  have hD : va_D (blk a 15) (wMo cI cJ cZ a code kn ed ct (upd ti y (ti x)) (upd nm y (nm x)) (upd xa y (xa x)) xb ma it vs se sm rs wk ors owk) := hD
  refine lv_aload_n hx hb d_Md_copy_36 rfl (lv_at hl 0 rfl) ?_
  refine va_get (D := D) (ci := 9) (v := .ref (a + 7)) (C := R_Md) (T := F_Md) (N := 17) hx hb hg in_Md hown hK hP 0 rfl rfl 7 (Nat.le_of_ble_eq_true rfl) (hg _ tw_713) (fun _ h9 => h9) rfl d_Md_copy_37 ?_
  refine lv_iload_n hx hb d_Md_copy_40 rfl (lv_at hl 2 rfl) ?_
  refine lv_aload_n hx hb d_Md_copy_41 rfl (lv_at hl 0 rfl) ?_
  refine va_get (D := D) (ci := 9) (v := .ref (a + 7)) (C := R_Md) (T := F_Md) (N := 17) hx hb hg in_Md hown hK hP 0 rfl rfl 7 (Nat.le_of_ble_eq_true rfl) (hg _ tw_713) (fun _ h9 => h9) rfl d_Md_copy_42 ?_
  refine lv_iload_n hx hb d_Md_copy_45 rfl (lv_at hl 1 rfl) ?_
  refine ep_iald hx hb hK hP 7 0 rfl rfl (i := x) (by omega) (by decide) d_Md_copy_46 ?_
  refine ep_iast hx hb hK hP hD hS 7 0 rfl rfl (i := y) (x := (xb x)) (by omega) (by decide) d_Md_copy_47 (fun H locs hP hD hS => ?_)
  have hP : va_P D cls (wMo cI cJ cZ a code kn ed ct (upd ti y (ti x)) (upd nm y (nm x)) (upd xa y (xa x)) (upd xb y (xb x)) ma it vs se sm rs wk ors owk) H := hP
  have hD : va_D (blk a 15) (wMo cI cJ cZ a code kn ed ct (upd ti y (ti x)) (upd nm y (nm x)) (upd xa y (xa x)) (upd xb y (xb x)) ma it vs se sm rs wk ors owk) := hD
  subst hR
  exact W.vret hx hb hr (fun t9 ht hW => ⟨rfl, hS.F ht, by rw [ht]; exact hP⟩) hS.2.2 d_Md_copy_48

def g_Mo_find_5 (ti : Nat → Int32) (j : Nat) (t : Int32) : Nat → Nat → Int32 → Int32
  | 0, i, at9 => at9
  | k + 1, i, at9 => if (ti (32 * j + i)) = t then (g_Mo_find_5 ti j t k (i + 1) (nI i)) else (g_Mo_find_5 ti j t k (i + 1) at9)

def f_Mo_find (ti : Nat → Int32) (n : Nat) (j : Nat) (t : Int32) : Int32 := g_Mo_find_5 ti j t n 0 (-1)
set_option maxHeartbeats 4000000 in
set_option maxRecDepth 100000 in
theorem m_Mo_find (l : Launch) (D : va_G) (cI cJ cZ cO : ClassId) (a : Nat) (code : Int32) (kn : Nat → Int32) (ed : Nat → Int32) (ct : Nat → Int32) (ti : Nat → Int32) (nm : Nat → Int32) (xa : Nat → Int32) (xb : Nat → Int32) (ma : Int32) (it : Nat → Int32) (vs : Nat → Int32) (se : Nat → Int32) (sm : Int64) (rs : Nat → Int64) (wk : Nat → Int32) (ors : Nat → Int64) (owk : Nat → Int32) (n : Nat) (j : Nat) (t : Int32) (hj : j < 8) (hct : ct j = nI n) (hn : n ≤ 32) (R : Int32) (hR : f_Mo_find ti n j t = R) : Met l y_Md_find (k_Md_find :: gt) rm_Md_find (Pc0 D cI cJ cZ cO [.ref a, .int (nI j), .int t] (fun H => va_P D cls (wMo cI cJ cZ a code kn ed ct ti nm xa xb ma it vs se sm rs wk ors owk) H)) (Qp (some (.int R))) 0 0 (fun _ => False) := by
  refine Met.ofW (cc := c_Md_find) (maxL := 5) (ret := (Option.some FieldType.int)) (by decide) rfl ?_
  intro p e s m args below meth c s₁ B hml hv
  obtain ⟨rfl, hKn, hP⟩ := hv
  have hx := B.exec
  have hb := B.bytes
  have hr := B.returns
  have hts := atoms_spec (ws := k_Md_find :: gt) B.pre
  have hg : ∀ w ∈ gt, w.before _ s = true := fun w h => hts w (List.mem_cons_of_mem _ h)
  have hown : s.vm.findClass R_Md = some m.cls := findClass_of_methodNamed B.named
  have hlocks := B.notSynchronized
  have hK := hKn.1
  have hl := lv_entry ([.ref a, .int (nI j), .int t]) (n := 5) (Nat.le_of_ble_eq_true rfl)
  rw [lg_entry_eq]
  generalize (lg_sl ([.ref a, .int (nI j), .int t]) ++ List.replicate (5 - (lg_sl ([.ref a, .int (nI j), .int t])).length) Slot.unset).toArray = ls at hl ⊢
  have hl : lv_has ls 5 [(0, .ref a), (1, .int (nI j)), (2, .int t)] := hl
  have key_5 : ∀ (k : Nat) (i : Nat) (at9 : Int32) (ls : Array Slot), i + k = n → g_Mo_find_5 ti j t k i at9 = R → lv_has ls 5 [(4, .int (nI i)), (3, .int at9), (0, .ref a), (1, .int (nI j)), (2, .int t)] → W p l e (headSpec (k_Md_find :: gt) rm_Md_find).room s m ([.ref a, .int (nI j), .int t] : List Value).toArray below meth c s.heap [] 0 0 (MQ below (Qp (some (.int R))) ([.ref a, .int (nI j), .int t] : List Value).toArray s 0 0 (fun _ => False)) (F0 m 5 ls []) := by
    intro k
    induction k with
    | zero =>
      intro i at9 ls hi hR hl
      have hR : (at9) = R := hR
      refine lv_iload hx hb d_Md_find_5 (lv_at hl 0 rfl) ?_
      refine lv_aload_n hx hb d_Md_find_7 rfl (lv_at hl 2 rfl) ?_
      refine va_get (D := D) (ci := 9) (v := .ref (a + 3)) (C := R_Md) (T := F_Md) (N := 17) hx hb hg in_Md hown hK hP 0 rfl rfl 3 (Nat.le_of_ble_eq_true rfl) (hg _ tw_709) (fun _ h9 => h9) rfl d_Md_find_8 ?_
      refine lv_iload_n hx hb d_Md_find_11 rfl (lv_at hl 3 rfl) ?_
      refine ep_iald hx hb hK hP 3 0 rfl rfl (i := j) (by omega) (by decide) d_Md_find_12 ?_
      refine lv_topi (fun z9 e_z9 => ?_)
      obtain rfl : z9 = nI n := by rw [e_z9]; exact hct
      refine lv_icmp_ge (tgt := 45) hx hb d_Md_find_13 (by decide) (fun hc => ?_) (fun hc => False.elim (by have hc : ¬ (n ≤ i) := fun h => hc (by exact (nI_leI (a := n) (b := i) (by omega) (by omega)).mpr h); omega))
      refine lv_iload_n hx hb d_Md_find_45 rfl (lv_at hl 1 rfl) ?_
      subst hR
      exact W.iret (v := at9) hx hb hr (fun t9 ht hW => ⟨rfl, ht⟩) (fun q h => nomatch h) d_Md_find_46
    | succ k ih =>
      intro i at9 ls hi hR hl
      have hR : (if (ti (32 * j + i)) = t then (g_Mo_find_5 ti j t k (i + 1) (nI i)) else (g_Mo_find_5 ti j t k (i + 1) at9)) = R := hR
      refine lv_iload hx hb d_Md_find_5 (lv_at hl 0 rfl) ?_
      refine lv_aload_n hx hb d_Md_find_7 rfl (lv_at hl 2 rfl) ?_
      refine va_get (D := D) (ci := 9) (v := .ref (a + 3)) (C := R_Md) (T := F_Md) (N := 17) hx hb hg in_Md hown hK hP 0 rfl rfl 3 (Nat.le_of_ble_eq_true rfl) (hg _ tw_709) (fun _ h9 => h9) rfl d_Md_find_8 ?_
      refine lv_iload_n hx hb d_Md_find_11 rfl (lv_at hl 3 rfl) ?_
      refine ep_iald hx hb hK hP 3 0 rfl rfl (i := j) (by omega) (by decide) d_Md_find_12 ?_
      refine lv_topi (fun z9 e_z9 => ?_)
      obtain rfl : z9 = nI n := by rw [e_z9]; exact hct
      refine lv_icmp_ge (tgt := 45) hx hb d_Md_find_13 (by decide) (fun hc => False.elim (by have hc := (nI_leI (a := n) (b := i) (by omega) (by omega)).mp hc; omega)) (fun hc => ?_)
      refine lv_aload_n hx hb d_Md_find_16 rfl (lv_at hl 2 rfl) ?_
      refine va_get (D := D) (ci := 9) (v := .ref (a + 4)) (C := R_Md) (T := F_Md) (N := 17) hx hb hg in_Md hown hK hP 0 rfl rfl 4 (Nat.le_of_ble_eq_true rfl) (hg _ tw_710) (fun _ h9 => h9) rfl d_Md_find_17 ?_
      refine lv_bipush (v := 32) hx hb d_Md_find_20 (by decide) ?_
      refine lv_iload_n hx hb d_Md_find_22 rfl (lv_at hl 3 rfl) ?_
      refine lv_imul hx hb d_Md_find_23 ?_
      refine lv_topi (fun z9 e_z9 => ?_)
      obtain rfl : z9 = nI (32 * j) := by rw [e_z9]; exact (nI_mul 32 j)
      refine lv_iload hx hb d_Md_find_24 (lv_at hl 0 rfl) ?_
      refine lv_iadd hx hb d_Md_find_26 ?_
      refine lv_topi (fun z9 e_z9 => ?_)
      obtain rfl : z9 = nI (32 * j + i) := by rw [e_z9]; exact (nI_add (32 * j) i)
      refine ep_iald hx hb hK hP 4 0 rfl rfl (i := (32 * j + i)) (by omega) (by decide) d_Md_find_27 ?_
      refine lv_iload_n hx hb d_Md_find_28 rfl (lv_at hl 4 rfl) ?_
      refine lv_icmp_ne (tgt := 37) hx hb d_Md_find_29 (by decide) (fun hc1 => ?_) (fun hc1 => ?_)
      · have hc1 : ¬ ((ti (32 * j + i)) = t) := hc1
        refine lv_iload_n hx hb d_Md_find_37 rfl (lv_at hl 1 rfl) ?_
        refine lv_istore_n (lv' := [(3, .int at9), (4, .int (nI i)), (0, .ref a), (1, .int (nI j)), (2, .int t)]) hx hb d_Md_find_38 rfl hl (by decide) rfl (fun ls hl => ?_)
        refine lv_iinc (k := 1) (lv' := [(4, .int (nI (i + 1))), (3, .int at9), (0, .ref a), (1, .int (nI j)), (2, .int t)]) hx hb d_Md_find_39 hl rfl (inc1 _) (by decide) rfl (fun ls hl => ?_)
        refine lv_goto (tgt := 5) hx hb d_Md_find_42 (by decide) ?_
        rw [if_neg hc1] at hR
        exact ih (i + 1) at9 ls (by omega) hR hl
      · have hc1 : (ti (32 * j + i)) = t := hc1
        refine lv_iload hx hb d_Md_find_32 (lv_at hl 0 rfl) ?_
        refine lv_goto (tgt := 38) hx hb d_Md_find_34 (by decide) ?_
        refine lv_istore_n (lv' := [(3, .int (nI i)), (4, .int (nI i)), (0, .ref a), (1, .int (nI j)), (2, .int t)]) hx hb d_Md_find_38 rfl hl (by decide) rfl (fun ls hl => ?_)
        refine lv_iinc (k := 1) (lv' := [(4, .int (nI (i + 1))), (3, .int (nI i)), (0, .ref a), (1, .int (nI j)), (2, .int t)]) hx hb d_Md_find_39 hl rfl (inc1 _) (by decide) rfl (fun ls hl => ?_)
        refine lv_goto (tgt := 5) hx hb d_Md_find_42 (by decide) ?_
        rw [if_pos hc1] at hR
        exact ih (i + 1) (nI i) ls (by omega) hR hl
  have hR : (g_Mo_find_5 ti j t n 0 (-1)) = R := hR
  refine lv_iconst (v := (-1)) hx hb d_Md_find_0 (by decide) ?_
  refine lv_istore_n (lv' := [(3, .int (-1)), (0, .ref a), (1, .int (nI j)), (2, .int t)]) hx hb d_Md_find_1 rfl hl (by decide) rfl (fun ls hl => ?_)
  refine lv_iconst (v := 0) hx hb d_Md_find_2 (by decide) ?_
  refine lv_istore (lv' := [(4, .int 0), (3, .int (-1)), (0, .ref a), (1, .int (nI j)), (2, .int t)]) hx hb d_Md_find_3 hl (by decide) rfl (fun ls hl => ?_)
  exact key_5 n 0 (-1) ls (by omega) hR hl

def g_Mo_remember_23 (j : Nat) : Nat → Nat → (Nat → Int32) → (Nat → Int32) → (Nat → Int32) → (Nat → Int32) → (Nat → Int32) → (Nat → Int32) → (Nat → Int32) × (Nat → Int32) × (Nat → Int32) × (Nat → Int32) × (Nat → Int32) × (Nat → Int32)
  | 0, i, ed, ct, ti, nm, xa, xb => (ed, ct, ti, nm, xa, xb)
  | k + 1, i, ed, ct, ti, nm, xa, xb => g_Mo_remember_23 j k (i + 1) ed ct ((f_Mo_copy ti nm xa xb (32 * j + i) (32 * (j + 4) + i)).1) ((f_Mo_copy ti nm xa xb (32 * j + i) (32 * (j + 4) + i)).2.1) ((f_Mo_copy ti nm xa xb (32 * j + i) (32 * (j + 4) + i)).2.2.1) ((f_Mo_copy ti nm xa xb (32 * j + i) (32 * (j + 4) + i)).2.2.2)

def f_Mo_remember (ed : Nat → Int32) (ct : Nat → Int32) (ti : Nat → Int32) (nm : Nat → Int32) (xa : Nat → Int32) (xb : Nat → Int32) (j : Nat) : (Nat → Int32) × (Nat → Int32) × (Nat → Int32) × (Nat → Int32) × (Nat → Int32) × (Nat → Int32) := g_Mo_remember_23 j 32 0 (upd ed j 1) (upd ct (j + 4) (ct j)) ti nm xa xb
set_option maxHeartbeats 4000000 in
set_option maxRecDepth 100000 in
theorem m_Mo_remember (l : Launch) (D : va_G) (cI cJ cZ cO : ClassId) (a : Nat) (code : Int32) (kn : Nat → Int32) (ed : Nat → Int32) (ct : Nat → Int32) (ti : Nat → Int32) (nm : Nat → Int32) (xa : Nat → Int32) (xb : Nat → Int32) (ma : Int32) (it : Nat → Int32) (vs : Nat → Int32) (se : Nat → Int32) (sm : Int64) (rs : Nat → Int64) (wk : Nat → Int32) (ors : Nat → Int64) (owk : Nat → Int32) (j : Nat) (hj : j < 4) (R : (Nat → Int32) × (Nat → Int32) × (Nat → Int32) × (Nat → Int32) × (Nat → Int32) × (Nat → Int32)) (hR : f_Mo_remember ed ct ti nm xa xb j = R) : Met l y_Md_remember (k_Md_remember :: gt) rm_Md_remember (Pc0 D cI cJ cZ cO [.ref a, .int (nI j)] (fun H => va_P D cls (wMo cI cJ cZ a code kn ed ct ti nm xa xb ma it vs se sm rs wk ors owk) H)) (Qd (blk a 15) none (fun H => va_P D cls (wMo cI cJ cZ a code kn R.1 R.2.1 R.2.2.1 R.2.2.2.1 R.2.2.2.2.1 R.2.2.2.2.2 ma it vs se sm rs wk ors owk) H)) 0 0 (blk a 15) := by
  refine Met.ofW (cc := c_Md_remember) (maxL := 3) (ret := none) (by decide) rfl ?_
  intro p e s m args below meth c s₁ B hml hv
  obtain ⟨rfl, hKn, hP⟩ := hv
  have hx := B.exec
  have hb := B.bytes
  have hr := B.returns
  have hts := atoms_spec (ws := k_Md_remember :: gt) B.pre
  have hg : ∀ w ∈ gt, w.before _ s = true := fun w h => hts w (List.mem_cons_of_mem _ h)
  have hown : s.vm.findClass R_Md = some m.cls := findClass_of_methodNamed B.named
  have hlocks := B.notSynchronized
  have hK := hKn.1
  have hl := lv_entry ([.ref a, .int (nI j)]) (n := 3) (Nat.le_of_ble_eq_true rfl)
  rw [lg_entry_eq]
  generalize (lg_sl ([.ref a, .int (nI j)]) ++ List.replicate (3 - (lg_sl ([.ref a, .int (nI j)])).length) Slot.unset).toArray = ls at hl ⊢
  have hl : lv_has ls 3 [(0, .ref a), (1, .int (nI j))] := hl
  have hS : va_S (blk a 15) s.heap s.heap [] := va_S.rf
  have hD : va_D (blk a 15) (wMo cI cJ cZ a code kn ed ct ti nm xa xb ma it vs se sm rs wk ors owk) := (blk_D (wMo_in))
  have key_23 : ∀ (k : Nat) (i : Nat) (ed : Nat → Int32) (ct : Nat → Int32) (ti : Nat → Int32) (nm : Nat → Int32) (xa : Nat → Int32) (xb : Nat → Int32) (H : Heap) (locs : List Loc) (ls : Array Slot), i + k = 32 → g_Mo_remember_23 j k i ed ct ti nm xa xb = R → lv_has ls 3 [(2, .int (nI i)), (0, .ref a), (1, .int (nI j))] → va_P D cls (wMo cI cJ cZ a code kn ed ct ti nm xa xb ma it vs se sm rs wk ors owk) H → va_S (blk a 15) s.heap H locs → W p l e (headSpec (k_Md_remember :: gt) rm_Md_remember).room s m ([.ref a, .int (nI j)] : List Value).toArray below meth c H locs 0 0 (MQ below (Qd (blk a 15) none (fun H => va_P D cls (wMo cI cJ cZ a code kn R.1 R.2.1 R.2.2.1 R.2.2.2.1 R.2.2.2.2.1 R.2.2.2.2.2 ma it vs se sm rs wk ors owk) H)) ([.ref a, .int (nI j)] : List Value).toArray s 0 0 (blk a 15)) (F0 m 23 ls []) := by
    intro k
    induction k with
    | zero =>
      intro i ed ct ti nm xa xb H locs ls hi hR hl hP hS
      have hR : ((ed, ct, ti, nm, xa, xb)) = R := hR
      have hD : va_D (blk a 15) (wMo cI cJ cZ a code kn ed ct ti nm xa xb ma it vs se sm rs wk ors owk) := (blk_D (wMo_in))
      refine lv_iload_n hx hb d_Md_remember_23 rfl (lv_at hl 0 rfl) ?_
      refine lv_bipush (v := 32) hx hb d_Md_remember_24 (by decide) ?_
      refine lv_icmp_ge (tgt := 53) hx hb d_Md_remember_26 (by decide) (fun hc => ?_) (fun hc => False.elim (by have hc : ¬ (32 ≤ i) := fun h => hc (by exact (nI_leI (a := 32) (b := i) (by omega) (by omega)).mpr h); omega))
      subst hR
      exact W.vret hx hb hr (fun t9 ht hW => ⟨rfl, hS.F ht, by rw [ht]; exact hP⟩) hS.2.2 d_Md_remember_53
    | succ k ih =>
      intro i ed ct ti nm xa xb H locs ls hi hR hl hP hS
      have hR : (g_Mo_remember_23 j k (i + 1) ed ct ((f_Mo_copy ti nm xa xb (32 * j + i) (32 * (j + 4) + i)).1) ((f_Mo_copy ti nm xa xb (32 * j + i) (32 * (j + 4) + i)).2.1) ((f_Mo_copy ti nm xa xb (32 * j + i) (32 * (j + 4) + i)).2.2.1) ((f_Mo_copy ti nm xa xb (32 * j + i) (32 * (j + 4) + i)).2.2.2)) = R := hR
      have hD : va_D (blk a 15) (wMo cI cJ cZ a code kn ed ct ti nm xa xb ma it vs se sm rs wk ors owk) := (blk_D (wMo_in))
      refine lv_iload_n hx hb d_Md_remember_23 rfl (lv_at hl 0 rfl) ?_
      refine lv_bipush (v := 32) hx hb d_Md_remember_24 (by decide) ?_
      refine lv_icmp_ge (tgt := 53) hx hb d_Md_remember_26 (by decide) (fun hc => False.elim (by have hc := (nI_leI (a := 32) (b := i) (by omega) (by omega)).mp hc; omega)) (fun hc => ?_)
      refine lv_aload_n hx hb d_Md_remember_29 rfl (lv_at hl 1 rfl) ?_
      refine lv_bipush (v := 32) hx hb d_Md_remember_30 (by decide) ?_
      refine lv_iload_n hx hb d_Md_remember_32 rfl (lv_at hl 2 rfl) ?_
      refine lv_imul hx hb d_Md_remember_33 ?_
      refine lv_topi (fun z9 e_z9 => ?_)
      obtain rfl : z9 = nI (32 * j) := by rw [e_z9]; exact (nI_mul 32 j)
      refine lv_iload_n hx hb d_Md_remember_34 rfl (lv_at hl 0 rfl) ?_
      refine lv_iadd hx hb d_Md_remember_35 ?_
      refine lv_topi (fun z9 e_z9 => ?_)
      obtain rfl : z9 = nI (32 * j + i) := by rw [e_z9]; exact (nI_add (32 * j) i)
      refine lv_bipush (v := 32) hx hb d_Md_remember_36 (by decide) ?_
      refine lv_iload_n hx hb d_Md_remember_38 rfl (lv_at hl 2 rfl) ?_
      refine lv_iconst (v := 4) hx hb d_Md_remember_39 (by decide) ?_
      refine lv_iadd hx hb d_Md_remember_40 ?_
      refine lv_topi (fun z9 e_z9 => ?_)
      obtain rfl : z9 = nI (j + 4) := by rw [e_z9]; exact (nI_add j 4)
      refine lv_imul hx hb d_Md_remember_41 ?_
      refine lv_topi (fun z9 e_z9 => ?_)
      obtain rfl : z9 = nI (32 * (j + 4)) := by rw [e_z9]; exact (nI_mul 32 (j + 4))
      refine lv_iload_n hx hb d_Md_remember_42 rfl (lv_at hl 0 rfl) ?_
      refine lv_iadd hx hb d_Md_remember_43 ?_
      refine lv_topi (fun z9 e_z9 => ?_)
      obtain rfl : z9 = nI (32 * (j + 4) + i) := by rw [e_z9]; exact (nI_add (32 * (j + 4)) i)
      refine ep_callH (W.runV (As := [.int (nI (32 * j + i)), .int (nI (32 * (j + 4) + i))]) (rest := []) ⟨hx, hb, hml, hown, hg⟩ (m_Mo_copy l D cI cJ cZ cO a code kn ed ct ti nm xa xb ma it vs se sm rs wk ors owk (32 * j + i) (32 * (j + 4) + i) (by omega) (by omega) _ rfl) (ep_cwV 2 hg tw_804 tw_806 ts_13 tw_12 tk_Md_copy rfl rfl (by decide +kernel) ⟨(Nat.le_of_ble_eq_true rfl), (Nat.le_of_ble_eq_true rfl)⟩) ⟨ep_blind, va_recv (q0 := 0) (ci := 9) hK hP rfl rfl, ep_pre hKn (hP)⟩ rfl rfl hl.1 rfl (lv_room (Nat.le_of_ble_eq_true rfl)) d_Md_remember_44 ⟨Nat.zero_le _, Nat.zero_le _⟩) hS (fun q h => h) (fun H locs hsz9 hk1 hP1 hS => ?_)
      refine W.eq (g2 := F0 m 47 ls []) rfl ?_
      have hP : va_P D cls (wMo cI cJ cZ a code kn ed ct ((f_Mo_copy ti nm xa xb (32 * j + i) (32 * (j + 4) + i)).1) ((f_Mo_copy ti nm xa xb (32 * j + i) (32 * (j + 4) + i)).2.1) ((f_Mo_copy ti nm xa xb (32 * j + i) (32 * (j + 4) + i)).2.2.1) ((f_Mo_copy ti nm xa xb (32 * j + i) (32 * (j + 4) + i)).2.2.2) ma it vs se sm rs wk ors owk) H := hP1
      have hD : va_D (blk a 15) (wMo cI cJ cZ a code kn ed ct ((f_Mo_copy ti nm xa xb (32 * j + i) (32 * (j + 4) + i)).1) ((f_Mo_copy ti nm xa xb (32 * j + i) (32 * (j + 4) + i)).2.1) ((f_Mo_copy ti nm xa xb (32 * j + i) (32 * (j + 4) + i)).2.2.1) ((f_Mo_copy ti nm xa xb (32 * j + i) (32 * (j + 4) + i)).2.2.2) ma it vs se sm rs wk ors owk) := (blk_D (wMo_in))
      refine lv_iinc (k := 0) (lv' := [(2, .int (nI (i + 1))), (0, .ref a), (1, .int (nI j))]) hx hb d_Md_remember_47 hl rfl (inc1 _) (by decide) rfl (fun ls hl => ?_)
      refine lv_goto (tgt := 23) hx hb d_Md_remember_50 (by decide) ?_
      exact ih (i + 1) ed ct ((f_Mo_copy ti nm xa xb (32 * j + i) (32 * (j + 4) + i)).1) ((f_Mo_copy ti nm xa xb (32 * j + i) (32 * (j + 4) + i)).2.1) ((f_Mo_copy ti nm xa xb (32 * j + i) (32 * (j + 4) + i)).2.2.1) ((f_Mo_copy ti nm xa xb (32 * j + i) (32 * (j + 4) + i)).2.2.2) _ _ ls (by omega) hR hl hP hS
  have hR : (g_Mo_remember_23 j 32 0 (upd ed j 1) (upd ct (j + 4) (ct j)) ti nm xa xb) = R := hR
  refine lv_aload_n hx hb d_Md_remember_0 rfl (lv_at hl 0 rfl) ?_
  refine va_get (D := D) (ci := 9) (v := .ref (a + 2)) (C := R_Md) (T := F_Md) (N := 17) hx hb hg in_Md hown hK hP 0 rfl rfl 2 (Nat.le_of_ble_eq_true rfl) (hg _ tw_708) (fun _ h9 => h9) rfl d_Md_remember_1 ?_
  refine lv_iload_n hx hb d_Md_remember_4 rfl (lv_at hl 1 rfl) ?_
  refine lv_iconst (v := 1) hx hb d_Md_remember_5 (by decide) ?_
  refine ep_zast hx hb hK hP hD hS 2 2 rfl rfl (i := j) (x := 1) (by decide) (by omega) (by decide) d_Md_remember_6 (fun H locs hP hD hS => ?_)
  have hP : va_P D cls (wMo cI cJ cZ a code kn (upd ed j 1) ct ti nm xa xb ma it vs se sm rs wk ors owk) H := hP
  have hD : va_D (blk a 15) (wMo cI cJ cZ a code kn (upd ed j 1) ct ti nm xa xb ma it vs se sm rs wk ors owk) := hD
  refine lv_aload_n hx hb d_Md_remember_7 rfl (lv_at hl 0 rfl) ?_
  refine va_get (D := D) (ci := 9) (v := .ref (a + 3)) (C := R_Md) (T := F_Md) (N := 17) hx hb hg in_Md hown hK hP 0 rfl rfl 3 (Nat.le_of_ble_eq_true rfl) (hg _ tw_709) (fun _ h9 => h9) rfl d_Md_remember_8 ?_
  refine lv_iload_n hx hb d_Md_remember_11 rfl (lv_at hl 1 rfl) ?_
  refine lv_iconst (v := 4) hx hb d_Md_remember_12 (by decide) ?_
  refine lv_iadd hx hb d_Md_remember_13 ?_
  refine lv_topi (fun z9 e_z9 => ?_)
  obtain rfl : z9 = nI (j + 4) := by rw [e_z9]; exact (nI_add j 4)
  refine lv_aload_n hx hb d_Md_remember_14 rfl (lv_at hl 0 rfl) ?_
  refine va_get (D := D) (ci := 9) (v := .ref (a + 3)) (C := R_Md) (T := F_Md) (N := 17) hx hb hg in_Md hown hK hP 0 rfl rfl 3 (Nat.le_of_ble_eq_true rfl) (hg _ tw_709) (fun _ h9 => h9) rfl d_Md_remember_15 ?_
  refine lv_iload_n hx hb d_Md_remember_18 rfl (lv_at hl 1 rfl) ?_
  refine ep_iald hx hb hK hP 3 0 rfl rfl (i := j) (by omega) (by decide) d_Md_remember_19 ?_
  refine ep_iast hx hb hK hP hD hS 3 0 rfl rfl (i := (j + 4)) (x := (ct j)) (by omega) (by decide) d_Md_remember_20 (fun H locs hP hD hS => ?_)
  have hP : va_P D cls (wMo cI cJ cZ a code kn (upd ed j 1) (upd ct (j + 4) (ct j)) ti nm xa xb ma it vs se sm rs wk ors owk) H := hP
  have hD : va_D (blk a 15) (wMo cI cJ cZ a code kn (upd ed j 1) (upd ct (j + 4) (ct j)) ti nm xa xb ma it vs se sm rs wk ors owk) := hD
  refine lv_iconst (v := 0) hx hb d_Md_remember_21 (by decide) ?_
  refine lv_istore_n (lv' := [(2, .int 0), (0, .ref a), (1, .int (nI j))]) hx hb d_Md_remember_22 rfl hl (by decide) rfl (fun ls hl => ?_)
  exact key_23 32 0 (upd ed j 1) (upd ct (j + 4) (ct j)) ti nm xa xb _ _ ls (by omega) hR hl hP hS

def g_Mo_insert_8 (ct : Nat → Int32) (n : Nat) (j : Nat) (t : Int32) (u : Int32) (x : Int32) (y : Int32) : Nat → Nat → (Nat → Int32) → (Nat → Int32) → (Nat → Int32) → (Nat → Int32) → (Nat → Int32) × (Nat → Int32) × (Nat → Int32) × (Nat → Int32) × (Nat → Int32)
  | 0, i, ti, nm, xa, xb => (upd ct j (nI (n + 1)), upd ti (32 * j + i) t, upd nm (32 * j + i) u, upd xa (32 * j + i) x, upd xb (32 * j + i) y)
  | k + 1, i, ti, nm, xa, xb => if (ti ((32 * j + i) - 1)) ≤ t then ((upd ct j (nI (n + 1)), upd ti (32 * j + i) t, upd nm (32 * j + i) u, upd xa (32 * j + i) x, upd xb (32 * j + i) y)) else (g_Mo_insert_8 ct n j t u x y k (i - 1) ((f_Mo_copy ti nm xa xb ((32 * j + i) - 1) (32 * j + i)).1) ((f_Mo_copy ti nm xa xb ((32 * j + i) - 1) (32 * j + i)).2.1) ((f_Mo_copy ti nm xa xb ((32 * j + i) - 1) (32 * j + i)).2.2.1) ((f_Mo_copy ti nm xa xb ((32 * j + i) - 1) (32 * j + i)).2.2.2))

def f_Mo_insert (ct : Nat → Int32) (ti : Nat → Int32) (nm : Nat → Int32) (xa : Nat → Int32) (xb : Nat → Int32) (n : Nat) (j : Nat) (t : Int32) (u : Int32) (x : Int32) (y : Int32) : (Nat → Int32) × (Nat → Int32) × (Nat → Int32) × (Nat → Int32) × (Nat → Int32) := g_Mo_insert_8 ct n j t u x y n n ti nm xa xb
set_option maxHeartbeats 4000000 in
set_option maxRecDepth 100000 in
theorem m_Mo_insert (l : Launch) (D : va_G) (cI cJ cZ cO : ClassId) (a : Nat) (code : Int32) (kn : Nat → Int32) (ed : Nat → Int32) (ct : Nat → Int32) (ti : Nat → Int32) (nm : Nat → Int32) (xa : Nat → Int32) (xb : Nat → Int32) (ma : Int32) (it : Nat → Int32) (vs : Nat → Int32) (se : Nat → Int32) (sm : Int64) (rs : Nat → Int64) (wk : Nat → Int32) (ors : Nat → Int64) (owk : Nat → Int32) (n : Nat) (j : Nat) (t : Int32) (u : Int32) (x : Int32) (y : Int32) (hj : j < 4) (hct : ct j = nI n) (hn : n < 32) (R : (Nat → Int32) × (Nat → Int32) × (Nat → Int32) × (Nat → Int32) × (Nat → Int32)) (hR : f_Mo_insert ct ti nm xa xb n j t u x y = R) : Met l y_Md_insert (k_Md_insert :: gt) rm_Md_insert (Pc0 D cI cJ cZ cO [.ref a, .int (nI j), .int t, .int u, .int x, .int y] (fun H => va_P D cls (wMo cI cJ cZ a code kn ed ct ti nm xa xb ma it vs se sm rs wk ors owk) H)) (Qd (blk a 15) none (fun H => va_P D cls (wMo cI cJ cZ a code kn ed R.1 R.2.1 R.2.2.1 R.2.2.2.1 R.2.2.2.2 ma it vs se sm rs wk ors owk) H)) 0 0 (blk a 15) := by
  refine Met.ofW (cc := c_Md_insert) (maxL := 7) (ret := none) (by decide) rfl ?_
  intro p e s m args below meth c s₁ B hml hv
  obtain ⟨rfl, hKn, hP⟩ := hv
  have hx := B.exec
  have hb := B.bytes
  have hr := B.returns
  have hts := atoms_spec (ws := k_Md_insert :: gt) B.pre
  have hg : ∀ w ∈ gt, w.before _ s = true := fun w h => hts w (List.mem_cons_of_mem _ h)
  have hown : s.vm.findClass R_Md = some m.cls := findClass_of_methodNamed B.named
  have hlocks := B.notSynchronized
  have hK := hKn.1
  have hl := lv_entry ([.ref a, .int (nI j), .int t, .int u, .int x, .int y]) (n := 7) (Nat.le_of_ble_eq_true rfl)
  rw [lg_entry_eq]
  generalize (lg_sl ([.ref a, .int (nI j), .int t, .int u, .int x, .int y]) ++ List.replicate (7 - (lg_sl ([.ref a, .int (nI j), .int t, .int u, .int x, .int y])).length) Slot.unset).toArray = ls at hl ⊢
  have hl : lv_has ls 7 [(0, .ref a), (1, .int (nI j)), (2, .int t), (3, .int u), (4, .int x), (5, .int y)] := hl
  have hS : va_S (blk a 15) s.heap s.heap [] := va_S.rf
  have hD : va_D (blk a 15) (wMo cI cJ cZ a code kn ed ct ti nm xa xb ma it vs se sm rs wk ors owk) := (blk_D (wMo_in))
  have key_8 : ∀ (k : Nat) (i : Nat) (ti : Nat → Int32) (nm : Nat → Int32) (xa : Nat → Int32) (xb : Nat → Int32) (H : Heap) (locs : List Loc) (ls : Array Slot), i = k → i ≤ n → g_Mo_insert_8 ct n j t u x y k i ti nm xa xb = R → lv_has ls 7 [(6, .int (nI i)), (0, .ref a), (1, .int (nI j)), (2, .int t), (3, .int u), (4, .int x), (5, .int y)] → va_P D cls (wMo cI cJ cZ a code kn ed ct ti nm xa xb ma it vs se sm rs wk ors owk) H → va_S (blk a 15) s.heap H locs → W p l e (headSpec (k_Md_insert :: gt) rm_Md_insert).room s m ([.ref a, .int (nI j), .int t, .int u, .int x, .int y] : List Value).toArray below meth c H locs 0 0 (MQ below (Qd (blk a 15) none (fun H => va_P D cls (wMo cI cJ cZ a code kn ed R.1 R.2.1 R.2.2.1 R.2.2.2.1 R.2.2.2.2 ma it vs se sm rs wk ors owk) H)) ([.ref a, .int (nI j), .int t, .int u, .int x, .int y] : List Value).toArray s 0 0 (blk a 15)) (F0 m 8 ls []) := by
    intro k
    induction k with
    | zero =>
      intro i ti nm xa xb H locs ls hi hin hR hl hP hS
      have hR : ((upd ct j (nI (n + 1)), upd ti (32 * j + i) t, upd nm (32 * j + i) u, upd xa (32 * j + i) x, upd xb (32 * j + i) y)) = R := hR
      have hD : va_D (blk a 15) (wMo cI cJ cZ a code kn ed ct ti nm xa xb ma it vs se sm rs wk ors owk) := (blk_D (wMo_in))
      refine lv_iload hx hb d_Md_insert_8 (lv_at hl 0 rfl) ?_
      refine lv_if_le (tgt := 57) hx hb d_Md_insert_10 (by decide) (fun hc => ?_) (fun hc => False.elim (by have hc : ¬ (i ≤ 0) := fun h => hc (by exact (nI_leI (a := i) (b := 0) (by omega) (by omega)).mpr h); omega))
      refine lv_aload_n hx hb d_Md_insert_57 rfl (lv_at hl 1 rfl) ?_
      refine va_get (D := D) (ci := 9) (v := .ref (a + 4)) (C := R_Md) (T := F_Md) (N := 17) hx hb hg in_Md hown hK hP 0 rfl rfl 4 (Nat.le_of_ble_eq_true rfl) (hg _ tw_710) (fun _ h9 => h9) rfl d_Md_insert_58 ?_
      refine lv_bipush (v := 32) hx hb d_Md_insert_61 (by decide) ?_
      refine lv_iload_n hx hb d_Md_insert_63 rfl (lv_at hl 2 rfl) ?_
      refine lv_imul hx hb d_Md_insert_64 ?_
      refine lv_topi (fun z9 e_z9 => ?_)
      obtain rfl : z9 = nI (32 * j) := by rw [e_z9]; exact (nI_mul 32 j)
      refine lv_iload hx hb d_Md_insert_65 (lv_at hl 0 rfl) ?_
      refine lv_iadd hx hb d_Md_insert_67 ?_
      refine lv_topi (fun z9 e_z9 => ?_)
      obtain rfl : z9 = nI (32 * j + i) := by rw [e_z9]; exact (nI_add (32 * j) i)
      refine lv_iload_n hx hb d_Md_insert_68 rfl (lv_at hl 3 rfl) ?_
      refine ep_iast hx hb hK hP hD hS 4 0 rfl rfl (i := (32 * j + i)) (x := t) (by omega) (by decide) d_Md_insert_69 (fun H locs hP hD hS => ?_)
      have hP : va_P D cls (wMo cI cJ cZ a code kn ed ct (upd ti (32 * j + i) t) nm xa xb ma it vs se sm rs wk ors owk) H := hP
      have hD : va_D (blk a 15) (wMo cI cJ cZ a code kn ed ct (upd ti (32 * j + i) t) nm xa xb ma it vs se sm rs wk ors owk) := hD
      refine lv_aload_n hx hb d_Md_insert_70 rfl (lv_at hl 1 rfl) ?_
      refine va_get (D := D) (ci := 9) (v := .ref (a + 5)) (C := R_Md) (T := F_Md) (N := 17) hx hb hg in_Md hown hK hP 0 rfl rfl 5 (Nat.le_of_ble_eq_true rfl) (hg _ tw_711) (fun _ h9 => h9) rfl d_Md_insert_71 ?_
      refine lv_bipush (v := 32) hx hb d_Md_insert_74 (by decide) ?_
      refine lv_iload_n hx hb d_Md_insert_76 rfl (lv_at hl 2 rfl) ?_
      refine lv_imul hx hb d_Md_insert_77 ?_
      refine lv_topi (fun z9 e_z9 => ?_)
      obtain rfl : z9 = nI (32 * j) := by rw [e_z9]; exact (nI_mul 32 j)
      refine lv_iload hx hb d_Md_insert_78 (lv_at hl 0 rfl) ?_
      refine lv_iadd hx hb d_Md_insert_80 ?_
      refine lv_topi (fun z9 e_z9 => ?_)
      obtain rfl : z9 = nI (32 * j + i) := by rw [e_z9]; exact (nI_add (32 * j) i)
      refine lv_iload_n hx hb d_Md_insert_81 rfl (lv_at hl 4 rfl) ?_
      refine ep_iast hx hb hK hP hD hS 5 0 rfl rfl (i := (32 * j + i)) (x := u) (by omega) (by decide) d_Md_insert_82 (fun H locs hP hD hS => ?_)
      have hP : va_P D cls (wMo cI cJ cZ a code kn ed ct (upd ti (32 * j + i) t) (upd nm (32 * j + i) u) xa xb ma it vs se sm rs wk ors owk) H := hP
      have hD : va_D (blk a 15) (wMo cI cJ cZ a code kn ed ct (upd ti (32 * j + i) t) (upd nm (32 * j + i) u) xa xb ma it vs se sm rs wk ors owk) := hD
      refine lv_aload_n hx hb d_Md_insert_83 rfl (lv_at hl 1 rfl) ?_
      refine va_get (D := D) (ci := 9) (v := .ref (a + 6)) (C := R_Md) (T := F_Md) (N := 17) hx hb hg in_Md hown hK hP 0 rfl rfl 6 (Nat.le_of_ble_eq_true rfl) (hg _ tw_712) (fun _ h9 => h9) rfl d_Md_insert_84 ?_
      refine lv_bipush (v := 32) hx hb d_Md_insert_87 (by decide) ?_
      refine lv_iload_n hx hb d_Md_insert_89 rfl (lv_at hl 2 rfl) ?_
      refine lv_imul hx hb d_Md_insert_90 ?_
      refine lv_topi (fun z9 e_z9 => ?_)
      obtain rfl : z9 = nI (32 * j) := by rw [e_z9]; exact (nI_mul 32 j)
      refine lv_iload hx hb d_Md_insert_91 (lv_at hl 0 rfl) ?_
      refine lv_iadd hx hb d_Md_insert_93 ?_
      refine lv_topi (fun z9 e_z9 => ?_)
      obtain rfl : z9 = nI (32 * j + i) := by rw [e_z9]; exact (nI_add (32 * j) i)
      refine lv_iload hx hb d_Md_insert_94 (lv_at hl 5 rfl) ?_
      refine ep_iast hx hb hK hP hD hS 6 0 rfl rfl (i := (32 * j + i)) (x := x) (by omega) (by decide) d_Md_insert_96 (fun H locs hP hD hS => ?_)
      have hP : va_P D cls (wMo cI cJ cZ a code kn ed ct (upd ti (32 * j + i) t) (upd nm (32 * j + i) u) (upd xa (32 * j + i) x) xb ma it vs se sm rs wk ors owk) H := hP
      have hD : va_D (blk a 15) (wMo cI cJ cZ a code kn ed ct (upd ti (32 * j + i) t) (upd nm (32 * j + i) u) (upd xa (32 * j + i) x) xb ma it vs se sm rs wk ors owk) := hD
      refine lv_aload_n hx hb d_Md_insert_97 rfl (lv_at hl 1 rfl) ?_
      refine va_get (D := D) (ci := 9) (v := .ref (a + 7)) (C := R_Md) (T := F_Md) (N := 17) hx hb hg in_Md hown hK hP 0 rfl rfl 7 (Nat.le_of_ble_eq_true rfl) (hg _ tw_713) (fun _ h9 => h9) rfl d_Md_insert_98 ?_
      refine lv_bipush (v := 32) hx hb d_Md_insert_101 (by decide) ?_
      refine lv_iload_n hx hb d_Md_insert_103 rfl (lv_at hl 2 rfl) ?_
      refine lv_imul hx hb d_Md_insert_104 ?_
      refine lv_topi (fun z9 e_z9 => ?_)
      obtain rfl : z9 = nI (32 * j) := by rw [e_z9]; exact (nI_mul 32 j)
      refine lv_iload hx hb d_Md_insert_105 (lv_at hl 0 rfl) ?_
      refine lv_iadd hx hb d_Md_insert_107 ?_
      refine lv_topi (fun z9 e_z9 => ?_)
      obtain rfl : z9 = nI (32 * j + i) := by rw [e_z9]; exact (nI_add (32 * j) i)
      refine lv_iload hx hb d_Md_insert_108 (lv_at hl 6 rfl) ?_
      refine ep_iast hx hb hK hP hD hS 7 0 rfl rfl (i := (32 * j + i)) (x := y) (by omega) (by decide) d_Md_insert_110 (fun H locs hP hD hS => ?_)
      have hP : va_P D cls (wMo cI cJ cZ a code kn ed ct (upd ti (32 * j + i) t) (upd nm (32 * j + i) u) (upd xa (32 * j + i) x) (upd xb (32 * j + i) y) ma it vs se sm rs wk ors owk) H := hP
      have hD : va_D (blk a 15) (wMo cI cJ cZ a code kn ed ct (upd ti (32 * j + i) t) (upd nm (32 * j + i) u) (upd xa (32 * j + i) x) (upd xb (32 * j + i) y) ma it vs se sm rs wk ors owk) := hD
      refine lv_aload_n hx hb d_Md_insert_111 rfl (lv_at hl 1 rfl) ?_
      refine va_get (D := D) (ci := 9) (v := .ref (a + 3)) (C := R_Md) (T := F_Md) (N := 17) hx hb hg in_Md hown hK hP 0 rfl rfl 3 (Nat.le_of_ble_eq_true rfl) (hg _ tw_709) (fun _ h9 => h9) rfl d_Md_insert_112 ?_
      refine lv_iload_n hx hb d_Md_insert_115 rfl (lv_at hl 2 rfl) ?_
      refine lv_dup2_11 hx hb d_Md_insert_116 rfl rfl ?_
      refine ep_iald hx hb hK hP 3 0 rfl rfl (i := j) (by omega) (by decide) d_Md_insert_117 ?_
      refine lv_topi (fun z9 e_z9 => ?_)
      obtain rfl : z9 = nI n := by rw [e_z9]; exact hct
      refine lv_iconst (v := 1) hx hb d_Md_insert_118 (by decide) ?_
      refine lv_iadd hx hb d_Md_insert_119 ?_
      refine lv_topi (fun z9 e_z9 => ?_)
      obtain rfl : z9 = nI (n + 1) := by rw [e_z9]; exact (nI_add n 1)
      refine ep_iast hx hb hK hP hD hS 3 0 rfl rfl (i := j) (x := (nI (n + 1))) (by omega) (by decide) d_Md_insert_120 (fun H locs hP hD hS => ?_)
      have hP : va_P D cls (wMo cI cJ cZ a code kn ed (upd ct j (nI (n + 1))) (upd ti (32 * j + i) t) (upd nm (32 * j + i) u) (upd xa (32 * j + i) x) (upd xb (32 * j + i) y) ma it vs se sm rs wk ors owk) H := hP
      have hD : va_D (blk a 15) (wMo cI cJ cZ a code kn ed (upd ct j (nI (n + 1))) (upd ti (32 * j + i) t) (upd nm (32 * j + i) u) (upd xa (32 * j + i) x) (upd xb (32 * j + i) y) ma it vs se sm rs wk ors owk) := hD
      subst hR
      exact W.vret hx hb hr (fun t9 ht hW => ⟨rfl, hS.F ht, by rw [ht]; exact hP⟩) hS.2.2 d_Md_insert_121
    | succ k ih =>
      intro i ti nm xa xb H locs ls hi hin hR hl hP hS
      have hR : (if (ti ((32 * j + i) - 1)) ≤ t then ((upd ct j (nI (n + 1)), upd ti (32 * j + i) t, upd nm (32 * j + i) u, upd xa (32 * j + i) x, upd xb (32 * j + i) y)) else (g_Mo_insert_8 ct n j t u x y k (i - 1) ((f_Mo_copy ti nm xa xb ((32 * j + i) - 1) (32 * j + i)).1) ((f_Mo_copy ti nm xa xb ((32 * j + i) - 1) (32 * j + i)).2.1) ((f_Mo_copy ti nm xa xb ((32 * j + i) - 1) (32 * j + i)).2.2.1) ((f_Mo_copy ti nm xa xb ((32 * j + i) - 1) (32 * j + i)).2.2.2))) = R := hR
      have hD : va_D (blk a 15) (wMo cI cJ cZ a code kn ed ct ti nm xa xb ma it vs se sm rs wk ors owk) := (blk_D (wMo_in))
      refine lv_iload hx hb d_Md_insert_8 (lv_at hl 0 rfl) ?_
      refine lv_if_le (tgt := 57) hx hb d_Md_insert_10 (by decide) (fun hc => False.elim (by have hc := (nI_leI (a := i) (b := 0) (by omega) (by omega)).mp hc; omega)) (fun hc => ?_)
      refine lv_aload_n hx hb d_Md_insert_13 rfl (lv_at hl 1 rfl) ?_
      refine va_get (D := D) (ci := 9) (v := .ref (a + 4)) (C := R_Md) (T := F_Md) (N := 17) hx hb hg in_Md hown hK hP 0 rfl rfl 4 (Nat.le_of_ble_eq_true rfl) (hg _ tw_710) (fun _ h9 => h9) rfl d_Md_insert_14 ?_
      refine lv_bipush (v := 32) hx hb d_Md_insert_17 (by decide) ?_
      refine lv_iload_n hx hb d_Md_insert_19 rfl (lv_at hl 2 rfl) ?_
      refine lv_imul hx hb d_Md_insert_20 ?_
      refine lv_topi (fun z9 e_z9 => ?_)
      obtain rfl : z9 = nI (32 * j) := by rw [e_z9]; exact (nI_mul 32 j)
      refine lv_iload hx hb d_Md_insert_21 (lv_at hl 0 rfl) ?_
      refine lv_iadd hx hb d_Md_insert_23 ?_
      refine lv_topi (fun z9 e_z9 => ?_)
      obtain rfl : z9 = nI (32 * j + i) := by rw [e_z9]; exact (nI_add (32 * j) i)
      refine lv_iconst (v := 1) hx hb d_Md_insert_24 (by decide) ?_
      refine lv_isub hx hb d_Md_insert_25 ?_
      refine lv_topi (fun z9 e_z9 => ?_)
      obtain rfl : z9 = nI ((32 * j + i) - 1) := by rw [e_z9]; exact (nI_sub (a := (32 * j + i)) (b := 1) (by omega))
      refine ep_iald hx hb hK hP 4 0 rfl rfl (i := ((32 * j + i) - 1)) (by omega) (by decide) d_Md_insert_26 ?_
      refine lv_iload_n hx hb d_Md_insert_27 rfl (lv_at hl 3 rfl) ?_
      refine lv_icmp_le (tgt := 57) hx hb d_Md_insert_28 (by decide) (fun hc1 => ?_) (fun hc1 => ?_)
      · have hc1 : (ti ((32 * j + i) - 1)) ≤ t := hc1
        refine lv_aload_n hx hb d_Md_insert_57 rfl (lv_at hl 1 rfl) ?_
        refine va_get (D := D) (ci := 9) (v := .ref (a + 4)) (C := R_Md) (T := F_Md) (N := 17) hx hb hg in_Md hown hK hP 0 rfl rfl 4 (Nat.le_of_ble_eq_true rfl) (hg _ tw_710) (fun _ h9 => h9) rfl d_Md_insert_58 ?_
        refine lv_bipush (v := 32) hx hb d_Md_insert_61 (by decide) ?_
        refine lv_iload_n hx hb d_Md_insert_63 rfl (lv_at hl 2 rfl) ?_
        refine lv_imul hx hb d_Md_insert_64 ?_
        refine lv_topi (fun z9 e_z9 => ?_)
        obtain rfl : z9 = nI (32 * j) := by rw [e_z9]; exact (nI_mul 32 j)
        refine lv_iload hx hb d_Md_insert_65 (lv_at hl 0 rfl) ?_
        refine lv_iadd hx hb d_Md_insert_67 ?_
        refine lv_topi (fun z9 e_z9 => ?_)
        obtain rfl : z9 = nI (32 * j + i) := by rw [e_z9]; exact (nI_add (32 * j) i)
        refine lv_iload_n hx hb d_Md_insert_68 rfl (lv_at hl 3 rfl) ?_
        refine ep_iast hx hb hK hP hD hS 4 0 rfl rfl (i := (32 * j + i)) (x := t) (by omega) (by decide) d_Md_insert_69 (fun H locs hP hD hS => ?_)
        have hP : va_P D cls (wMo cI cJ cZ a code kn ed ct (upd ti (32 * j + i) t) nm xa xb ma it vs se sm rs wk ors owk) H := hP
        have hD : va_D (blk a 15) (wMo cI cJ cZ a code kn ed ct (upd ti (32 * j + i) t) nm xa xb ma it vs se sm rs wk ors owk) := hD
        refine lv_aload_n hx hb d_Md_insert_70 rfl (lv_at hl 1 rfl) ?_
        refine va_get (D := D) (ci := 9) (v := .ref (a + 5)) (C := R_Md) (T := F_Md) (N := 17) hx hb hg in_Md hown hK hP 0 rfl rfl 5 (Nat.le_of_ble_eq_true rfl) (hg _ tw_711) (fun _ h9 => h9) rfl d_Md_insert_71 ?_
        refine lv_bipush (v := 32) hx hb d_Md_insert_74 (by decide) ?_
        refine lv_iload_n hx hb d_Md_insert_76 rfl (lv_at hl 2 rfl) ?_
        refine lv_imul hx hb d_Md_insert_77 ?_
        refine lv_topi (fun z9 e_z9 => ?_)
        obtain rfl : z9 = nI (32 * j) := by rw [e_z9]; exact (nI_mul 32 j)
        refine lv_iload hx hb d_Md_insert_78 (lv_at hl 0 rfl) ?_
        refine lv_iadd hx hb d_Md_insert_80 ?_
        refine lv_topi (fun z9 e_z9 => ?_)
        obtain rfl : z9 = nI (32 * j + i) := by rw [e_z9]; exact (nI_add (32 * j) i)
        refine lv_iload_n hx hb d_Md_insert_81 rfl (lv_at hl 4 rfl) ?_
        refine ep_iast hx hb hK hP hD hS 5 0 rfl rfl (i := (32 * j + i)) (x := u) (by omega) (by decide) d_Md_insert_82 (fun H locs hP hD hS => ?_)
        have hP : va_P D cls (wMo cI cJ cZ a code kn ed ct (upd ti (32 * j + i) t) (upd nm (32 * j + i) u) xa xb ma it vs se sm rs wk ors owk) H := hP
        have hD : va_D (blk a 15) (wMo cI cJ cZ a code kn ed ct (upd ti (32 * j + i) t) (upd nm (32 * j + i) u) xa xb ma it vs se sm rs wk ors owk) := hD
        refine lv_aload_n hx hb d_Md_insert_83 rfl (lv_at hl 1 rfl) ?_
        refine va_get (D := D) (ci := 9) (v := .ref (a + 6)) (C := R_Md) (T := F_Md) (N := 17) hx hb hg in_Md hown hK hP 0 rfl rfl 6 (Nat.le_of_ble_eq_true rfl) (hg _ tw_712) (fun _ h9 => h9) rfl d_Md_insert_84 ?_
        refine lv_bipush (v := 32) hx hb d_Md_insert_87 (by decide) ?_
        refine lv_iload_n hx hb d_Md_insert_89 rfl (lv_at hl 2 rfl) ?_
        refine lv_imul hx hb d_Md_insert_90 ?_
        refine lv_topi (fun z9 e_z9 => ?_)
        obtain rfl : z9 = nI (32 * j) := by rw [e_z9]; exact (nI_mul 32 j)
        refine lv_iload hx hb d_Md_insert_91 (lv_at hl 0 rfl) ?_
        refine lv_iadd hx hb d_Md_insert_93 ?_
        refine lv_topi (fun z9 e_z9 => ?_)
        obtain rfl : z9 = nI (32 * j + i) := by rw [e_z9]; exact (nI_add (32 * j) i)
        refine lv_iload hx hb d_Md_insert_94 (lv_at hl 5 rfl) ?_
        refine ep_iast hx hb hK hP hD hS 6 0 rfl rfl (i := (32 * j + i)) (x := x) (by omega) (by decide) d_Md_insert_96 (fun H locs hP hD hS => ?_)
        have hP : va_P D cls (wMo cI cJ cZ a code kn ed ct (upd ti (32 * j + i) t) (upd nm (32 * j + i) u) (upd xa (32 * j + i) x) xb ma it vs se sm rs wk ors owk) H := hP
        have hD : va_D (blk a 15) (wMo cI cJ cZ a code kn ed ct (upd ti (32 * j + i) t) (upd nm (32 * j + i) u) (upd xa (32 * j + i) x) xb ma it vs se sm rs wk ors owk) := hD
        refine lv_aload_n hx hb d_Md_insert_97 rfl (lv_at hl 1 rfl) ?_
        refine va_get (D := D) (ci := 9) (v := .ref (a + 7)) (C := R_Md) (T := F_Md) (N := 17) hx hb hg in_Md hown hK hP 0 rfl rfl 7 (Nat.le_of_ble_eq_true rfl) (hg _ tw_713) (fun _ h9 => h9) rfl d_Md_insert_98 ?_
        refine lv_bipush (v := 32) hx hb d_Md_insert_101 (by decide) ?_
        refine lv_iload_n hx hb d_Md_insert_103 rfl (lv_at hl 2 rfl) ?_
        refine lv_imul hx hb d_Md_insert_104 ?_
        refine lv_topi (fun z9 e_z9 => ?_)
        obtain rfl : z9 = nI (32 * j) := by rw [e_z9]; exact (nI_mul 32 j)
        refine lv_iload hx hb d_Md_insert_105 (lv_at hl 0 rfl) ?_
        refine lv_iadd hx hb d_Md_insert_107 ?_
        refine lv_topi (fun z9 e_z9 => ?_)
        obtain rfl : z9 = nI (32 * j + i) := by rw [e_z9]; exact (nI_add (32 * j) i)
        refine lv_iload hx hb d_Md_insert_108 (lv_at hl 6 rfl) ?_
        refine ep_iast hx hb hK hP hD hS 7 0 rfl rfl (i := (32 * j + i)) (x := y) (by omega) (by decide) d_Md_insert_110 (fun H locs hP hD hS => ?_)
        have hP : va_P D cls (wMo cI cJ cZ a code kn ed ct (upd ti (32 * j + i) t) (upd nm (32 * j + i) u) (upd xa (32 * j + i) x) (upd xb (32 * j + i) y) ma it vs se sm rs wk ors owk) H := hP
        have hD : va_D (blk a 15) (wMo cI cJ cZ a code kn ed ct (upd ti (32 * j + i) t) (upd nm (32 * j + i) u) (upd xa (32 * j + i) x) (upd xb (32 * j + i) y) ma it vs se sm rs wk ors owk) := hD
        refine lv_aload_n hx hb d_Md_insert_111 rfl (lv_at hl 1 rfl) ?_
        refine va_get (D := D) (ci := 9) (v := .ref (a + 3)) (C := R_Md) (T := F_Md) (N := 17) hx hb hg in_Md hown hK hP 0 rfl rfl 3 (Nat.le_of_ble_eq_true rfl) (hg _ tw_709) (fun _ h9 => h9) rfl d_Md_insert_112 ?_
        refine lv_iload_n hx hb d_Md_insert_115 rfl (lv_at hl 2 rfl) ?_
        refine lv_dup2_11 hx hb d_Md_insert_116 rfl rfl ?_
        refine ep_iald hx hb hK hP 3 0 rfl rfl (i := j) (by omega) (by decide) d_Md_insert_117 ?_
        refine lv_topi (fun z9 e_z9 => ?_)
        obtain rfl : z9 = nI n := by rw [e_z9]; exact hct
        refine lv_iconst (v := 1) hx hb d_Md_insert_118 (by decide) ?_
        refine lv_iadd hx hb d_Md_insert_119 ?_
        refine lv_topi (fun z9 e_z9 => ?_)
        obtain rfl : z9 = nI (n + 1) := by rw [e_z9]; exact (nI_add n 1)
        refine ep_iast hx hb hK hP hD hS 3 0 rfl rfl (i := j) (x := (nI (n + 1))) (by omega) (by decide) d_Md_insert_120 (fun H locs hP hD hS => ?_)
        have hP : va_P D cls (wMo cI cJ cZ a code kn ed (upd ct j (nI (n + 1))) (upd ti (32 * j + i) t) (upd nm (32 * j + i) u) (upd xa (32 * j + i) x) (upd xb (32 * j + i) y) ma it vs se sm rs wk ors owk) H := hP
        have hD : va_D (blk a 15) (wMo cI cJ cZ a code kn ed (upd ct j (nI (n + 1))) (upd ti (32 * j + i) t) (upd nm (32 * j + i) u) (upd xa (32 * j + i) x) (upd xb (32 * j + i) y) ma it vs se sm rs wk ors owk) := hD
        rw [if_pos hc1] at hR
        subst hR
        exact W.vret hx hb hr (fun t9 ht hW => ⟨rfl, hS.F ht, by rw [ht]; exact hP⟩) hS.2.2 d_Md_insert_121
      · have hc1 : ¬ ((ti ((32 * j + i) - 1)) ≤ t) := hc1
        refine lv_aload_n hx hb d_Md_insert_31 rfl (lv_at hl 1 rfl) ?_
        refine lv_bipush (v := 32) hx hb d_Md_insert_32 (by decide) ?_
        refine lv_iload_n hx hb d_Md_insert_34 rfl (lv_at hl 2 rfl) ?_
        refine lv_imul hx hb d_Md_insert_35 ?_
        refine lv_topi (fun z9 e_z9 => ?_)
        obtain rfl : z9 = nI (32 * j) := by rw [e_z9]; exact (nI_mul 32 j)
        refine lv_iload hx hb d_Md_insert_36 (lv_at hl 0 rfl) ?_
        refine lv_iadd hx hb d_Md_insert_38 ?_
        refine lv_topi (fun z9 e_z9 => ?_)
        obtain rfl : z9 = nI (32 * j + i) := by rw [e_z9]; exact (nI_add (32 * j) i)
        refine lv_iconst (v := 1) hx hb d_Md_insert_39 (by decide) ?_
        refine lv_isub hx hb d_Md_insert_40 ?_
        refine lv_topi (fun z9 e_z9 => ?_)
        obtain rfl : z9 = nI ((32 * j + i) - 1) := by rw [e_z9]; exact (nI_sub (a := (32 * j + i)) (b := 1) (by omega))
        refine lv_bipush (v := 32) hx hb d_Md_insert_41 (by decide) ?_
        refine lv_iload_n hx hb d_Md_insert_43 rfl (lv_at hl 2 rfl) ?_
        refine lv_imul hx hb d_Md_insert_44 ?_
        refine lv_topi (fun z9 e_z9 => ?_)
        obtain rfl : z9 = nI (32 * j) := by rw [e_z9]; exact (nI_mul 32 j)
        refine lv_iload hx hb d_Md_insert_45 (lv_at hl 0 rfl) ?_
        refine lv_iadd hx hb d_Md_insert_47 ?_
        refine lv_topi (fun z9 e_z9 => ?_)
        obtain rfl : z9 = nI (32 * j + i) := by rw [e_z9]; exact (nI_add (32 * j) i)
        refine ep_callH (W.runV (As := [.int (nI ((32 * j + i) - 1)), .int (nI (32 * j + i))]) (rest := []) ⟨hx, hb, hml, hown, hg⟩ (m_Mo_copy l D cI cJ cZ cO a code kn ed ct ti nm xa xb ma it vs se sm rs wk ors owk ((32 * j + i) - 1) (32 * j + i) (by omega) (by omega) _ rfl) (ep_cwV 2 hg tw_804 tw_806 ts_13 tw_12 tk_Md_copy rfl rfl (by decide +kernel) ⟨(Nat.le_of_ble_eq_true rfl), (Nat.le_of_ble_eq_true rfl)⟩) ⟨ep_blind, va_recv (q0 := 0) (ci := 9) hK hP rfl rfl, ep_pre hKn (hP)⟩ rfl rfl hl.1 rfl (lv_room (Nat.le_of_ble_eq_true rfl)) d_Md_insert_48 ⟨Nat.zero_le _, Nat.zero_le _⟩) hS (fun q h => h) (fun H locs hsz9 hk1 hP1 hS => ?_)
        refine W.eq (g2 := F0 m 51 ls []) rfl ?_
        have hP : va_P D cls (wMo cI cJ cZ a code kn ed ct ((f_Mo_copy ti nm xa xb ((32 * j + i) - 1) (32 * j + i)).1) ((f_Mo_copy ti nm xa xb ((32 * j + i) - 1) (32 * j + i)).2.1) ((f_Mo_copy ti nm xa xb ((32 * j + i) - 1) (32 * j + i)).2.2.1) ((f_Mo_copy ti nm xa xb ((32 * j + i) - 1) (32 * j + i)).2.2.2) ma it vs se sm rs wk ors owk) H := hP1
        have hD : va_D (blk a 15) (wMo cI cJ cZ a code kn ed ct ((f_Mo_copy ti nm xa xb ((32 * j + i) - 1) (32 * j + i)).1) ((f_Mo_copy ti nm xa xb ((32 * j + i) - 1) (32 * j + i)).2.1) ((f_Mo_copy ti nm xa xb ((32 * j + i) - 1) (32 * j + i)).2.2.1) ((f_Mo_copy ti nm xa xb ((32 * j + i) - 1) (32 * j + i)).2.2.2) ma it vs se sm rs wk ors owk) := (blk_D (wMo_in))
        refine lv_iinc (k := 0) (lv' := [(6, .int (nI (i - 1))), (0, .ref a), (1, .int (nI j)), (2, .int t), (3, .int u), (4, .int x), (5, .int y)]) hx hb d_Md_insert_51 hl rfl (dec1 (by omega)) (by decide) rfl (fun ls hl => ?_)
        refine lv_goto (tgt := 8) hx hb d_Md_insert_54 (by decide) ?_
        rw [if_neg hc1] at hR
        exact ih (i - 1) ((f_Mo_copy ti nm xa xb ((32 * j + i) - 1) (32 * j + i)).1) ((f_Mo_copy ti nm xa xb ((32 * j + i) - 1) (32 * j + i)).2.1) ((f_Mo_copy ti nm xa xb ((32 * j + i) - 1) (32 * j + i)).2.2.1) ((f_Mo_copy ti nm xa xb ((32 * j + i) - 1) (32 * j + i)).2.2.2) _ _ ls (by omega) (by omega) hR hl hP hS
  have hR : (g_Mo_insert_8 ct n j t u x y n n ti nm xa xb) = R := hR
  refine lv_aload_n hx hb d_Md_insert_0 rfl (lv_at hl 0 rfl) ?_
  refine va_get (D := D) (ci := 9) (v := .ref (a + 3)) (C := R_Md) (T := F_Md) (N := 17) hx hb hg in_Md hown hK hP 0 rfl rfl 3 (Nat.le_of_ble_eq_true rfl) (hg _ tw_709) (fun _ h9 => h9) rfl d_Md_insert_1 ?_
  refine lv_iload_n hx hb d_Md_insert_4 rfl (lv_at hl 1 rfl) ?_
  refine ep_iald hx hb hK hP 3 0 rfl rfl (i := j) (by omega) (by decide) d_Md_insert_5 ?_
  refine lv_topi (fun z9 e_z9 => ?_)
  obtain rfl : z9 = nI n := by rw [e_z9]; exact hct
  refine lv_istore (lv' := [(6, .int (nI n)), (0, .ref a), (1, .int (nI j)), (2, .int t), (3, .int u), (4, .int x), (5, .int y)]) hx hb d_Md_insert_6 hl (by decide) rfl (fun ls hl => ?_)
  exact key_8 n n ti nm xa xb _ _ ls rfl (Nat.le_refl _) hR hl hP hS

def g_Mo_cut_12 (j : Nat) : Nat → Nat → (Nat → Int32) → (Nat → Int32) → (Nat → Int32) → (Nat → Int32) → (Nat → Int32) → (Nat → Int32) × (Nat → Int32) × (Nat → Int32) × (Nat → Int32) × (Nat → Int32)
  | 0, i, ct1, ti, nm, xa, xb => (ct1, ti, nm, xa, xb)
  | k + 1, i, ct1, ti, nm, xa, xb => g_Mo_cut_12 j k (i + 1) ct1 ((f_Mo_copy ti nm xa xb (32 * j + i + 1) (32 * j + i)).1) ((f_Mo_copy ti nm xa xb (32 * j + i + 1) (32 * j + i)).2.1) ((f_Mo_copy ti nm xa xb (32 * j + i + 1) (32 * j + i)).2.2.1) ((f_Mo_copy ti nm xa xb (32 * j + i + 1) (32 * j + i)).2.2.2)

def f_Mo_cut (ct : Nat → Int32) (ti : Nat → Int32) (nm : Nat → Int32) (xa : Nat → Int32) (xb : Nat → Int32) (n : Nat) (j : Nat) (pp : Nat) : (Nat → Int32) × (Nat → Int32) × (Nat → Int32) × (Nat → Int32) × (Nat → Int32) := g_Mo_cut_12 j (n - 1 - pp) pp (upd ct j (nI (n - 1))) ti nm xa xb
set_option maxHeartbeats 4000000 in
set_option maxRecDepth 100000 in
theorem m_Mo_cut (l : Launch) (D : va_G) (cI cJ cZ cO : ClassId) (a : Nat) (code : Int32) (kn : Nat → Int32) (ed : Nat → Int32) (ct : Nat → Int32) (ti : Nat → Int32) (nm : Nat → Int32) (xa : Nat → Int32) (xb : Nat → Int32) (ma : Int32) (it : Nat → Int32) (vs : Nat → Int32) (se : Nat → Int32) (sm : Int64) (rs : Nat → Int64) (wk : Nat → Int32) (ors : Nat → Int64) (owk : Nat → Int32) (n : Nat) (j : Nat) (pp : Nat) (hj : j < 4) (hct : ct j = nI n) (hn : n ≤ 32) (hp9 : pp < n) (R : (Nat → Int32) × (Nat → Int32) × (Nat → Int32) × (Nat → Int32) × (Nat → Int32)) (hR : f_Mo_cut ct ti nm xa xb n j pp = R) : Met l y_Md_cut (k_Md_cut :: gt) rm_Md_cut (Pc0 D cI cJ cZ cO [.ref a, .int (nI j), .int (nI pp)] (fun H => va_P D cls (wMo cI cJ cZ a code kn ed ct ti nm xa xb ma it vs se sm rs wk ors owk) H)) (Qd (blk a 15) none (fun H => va_P D cls (wMo cI cJ cZ a code kn ed R.1 R.2.1 R.2.2.1 R.2.2.2.1 R.2.2.2.2 ma it vs se sm rs wk ors owk) H)) 0 0 (blk a 15) := by
  refine Met.ofW (cc := c_Md_cut) (maxL := 4) (ret := none) (by decide) rfl ?_
  intro p e s m args below meth c s₁ B hml hv
  obtain ⟨rfl, hKn, hP⟩ := hv
  have hx := B.exec
  have hb := B.bytes
  have hr := B.returns
  have hts := atoms_spec (ws := k_Md_cut :: gt) B.pre
  have hg : ∀ w ∈ gt, w.before _ s = true := fun w h => hts w (List.mem_cons_of_mem _ h)
  have hown : s.vm.findClass R_Md = some m.cls := findClass_of_methodNamed B.named
  have hlocks := B.notSynchronized
  have hK := hKn.1
  have hl := lv_entry ([.ref a, .int (nI j), .int (nI pp)]) (n := 4) (Nat.le_of_ble_eq_true rfl)
  rw [lg_entry_eq]
  generalize (lg_sl ([.ref a, .int (nI j), .int (nI pp)]) ++ List.replicate (4 - (lg_sl ([.ref a, .int (nI j), .int (nI pp)])).length) Slot.unset).toArray = ls at hl ⊢
  have hl : lv_has ls 4 [(0, .ref a), (1, .int (nI j)), (2, .int (nI pp))] := hl
  have hS : va_S (blk a 15) s.heap s.heap [] := va_S.rf
  have hD : va_D (blk a 15) (wMo cI cJ cZ a code kn ed ct ti nm xa xb ma it vs se sm rs wk ors owk) := (blk_D (wMo_in))
  have key_12 : ∀ (k : Nat) (i : Nat) (ct1 : Nat → Int32) (ti : Nat → Int32) (nm : Nat → Int32) (xa : Nat → Int32) (xb : Nat → Int32) (H : Heap) (locs : List Loc) (ls : Array Slot), i + k = n - 1 → ct1 j = nI (n - 1) → g_Mo_cut_12 j k i ct1 ti nm xa xb = R → lv_has ls 4 [(3, .int (nI i)), (0, .ref a), (1, .int (nI j)), (2, .int (nI pp))] → va_P D cls (wMo cI cJ cZ a code kn ed ct1 ti nm xa xb ma it vs se sm rs wk ors owk) H → va_S (blk a 15) s.heap H locs → W p l e (headSpec (k_Md_cut :: gt) rm_Md_cut).room s m ([.ref a, .int (nI j), .int (nI pp)] : List Value).toArray below meth c H locs 0 0 (MQ below (Qd (blk a 15) none (fun H => va_P D cls (wMo cI cJ cZ a code kn ed R.1 R.2.1 R.2.2.1 R.2.2.2.1 R.2.2.2.2 ma it vs se sm rs wk ors owk) H)) ([.ref a, .int (nI j), .int (nI pp)] : List Value).toArray s 0 0 (blk a 15)) (F0 m 12 ls []) := by
    intro k
    induction k with
    | zero =>
      intro i ct1 ti nm xa xb H locs ls hi hc0 hR hl hP hS
      have hR : ((ct1, ti, nm, xa, xb)) = R := hR
      have hD : va_D (blk a 15) (wMo cI cJ cZ a code kn ed ct1 ti nm xa xb ma it vs se sm rs wk ors owk) := (blk_D (wMo_in))
      refine lv_iload_n hx hb d_Md_cut_12 rfl (lv_at hl 0 rfl) ?_
      refine lv_aload_n hx hb d_Md_cut_13 rfl (lv_at hl 1 rfl) ?_
      refine va_get (D := D) (ci := 9) (v := .ref (a + 3)) (C := R_Md) (T := F_Md) (N := 17) hx hb hg in_Md hown hK hP 0 rfl rfl 3 (Nat.le_of_ble_eq_true rfl) (hg _ tw_709) (fun _ h9 => h9) rfl d_Md_cut_14 ?_
      refine lv_iload_n hx hb d_Md_cut_17 rfl (lv_at hl 2 rfl) ?_
      refine ep_iald hx hb hK hP 3 0 rfl rfl (i := j) (by omega) (by decide) d_Md_cut_18 ?_
      refine lv_topi (fun z9 e_z9 => ?_)
      obtain rfl : z9 = nI (n - 1) := by rw [e_z9]; exact hc0
      refine lv_icmp_ge (tgt := 46) hx hb d_Md_cut_19 (by decide) (fun hc => ?_) (fun hc => False.elim (by have hc : ¬ (n - 1 ≤ i) := fun h => hc (by exact (nI_leI (a := n - 1) (b := i) (by omega) (by omega)).mpr h); omega))
      subst hR
      exact W.vret hx hb hr (fun t9 ht hW => ⟨rfl, hS.F ht, by rw [ht]; exact hP⟩) hS.2.2 d_Md_cut_46
    | succ k ih =>
      intro i ct1 ti nm xa xb H locs ls hi hc0 hR hl hP hS
      have hR : (g_Mo_cut_12 j k (i + 1) ct1 ((f_Mo_copy ti nm xa xb (32 * j + i + 1) (32 * j + i)).1) ((f_Mo_copy ti nm xa xb (32 * j + i + 1) (32 * j + i)).2.1) ((f_Mo_copy ti nm xa xb (32 * j + i + 1) (32 * j + i)).2.2.1) ((f_Mo_copy ti nm xa xb (32 * j + i + 1) (32 * j + i)).2.2.2)) = R := hR
      have hD : va_D (blk a 15) (wMo cI cJ cZ a code kn ed ct1 ti nm xa xb ma it vs se sm rs wk ors owk) := (blk_D (wMo_in))
      refine lv_iload_n hx hb d_Md_cut_12 rfl (lv_at hl 0 rfl) ?_
      refine lv_aload_n hx hb d_Md_cut_13 rfl (lv_at hl 1 rfl) ?_
      refine va_get (D := D) (ci := 9) (v := .ref (a + 3)) (C := R_Md) (T := F_Md) (N := 17) hx hb hg in_Md hown hK hP 0 rfl rfl 3 (Nat.le_of_ble_eq_true rfl) (hg _ tw_709) (fun _ h9 => h9) rfl d_Md_cut_14 ?_
      refine lv_iload_n hx hb d_Md_cut_17 rfl (lv_at hl 2 rfl) ?_
      refine ep_iald hx hb hK hP 3 0 rfl rfl (i := j) (by omega) (by decide) d_Md_cut_18 ?_
      refine lv_topi (fun z9 e_z9 => ?_)
      obtain rfl : z9 = nI (n - 1) := by rw [e_z9]; exact hc0
      refine lv_icmp_ge (tgt := 46) hx hb d_Md_cut_19 (by decide) (fun hc => False.elim (by have hc := (nI_leI (a := n - 1) (b := i) (by omega) (by omega)).mp hc; omega)) (fun hc => ?_)
      refine lv_aload_n hx hb d_Md_cut_22 rfl (lv_at hl 1 rfl) ?_
      refine lv_bipush (v := 32) hx hb d_Md_cut_23 (by decide) ?_
      refine lv_iload_n hx hb d_Md_cut_25 rfl (lv_at hl 2 rfl) ?_
      refine lv_imul hx hb d_Md_cut_26 ?_
      refine lv_topi (fun z9 e_z9 => ?_)
      obtain rfl : z9 = nI (32 * j) := by rw [e_z9]; exact (nI_mul 32 j)
      refine lv_iload_n hx hb d_Md_cut_27 rfl (lv_at hl 0 rfl) ?_
      refine lv_iadd hx hb d_Md_cut_28 ?_
      refine lv_topi (fun z9 e_z9 => ?_)
      obtain rfl : z9 = nI (32 * j + i) := by rw [e_z9]; exact (nI_add (32 * j) i)
      refine lv_iconst (v := 1) hx hb d_Md_cut_29 (by decide) ?_
      refine lv_iadd hx hb d_Md_cut_30 ?_
      refine lv_topi (fun z9 e_z9 => ?_)
      obtain rfl : z9 = nI (32 * j + i + 1) := by rw [e_z9]; exact (nI_add (32 * j + i) 1)
      refine lv_bipush (v := 32) hx hb d_Md_cut_31 (by decide) ?_
      refine lv_iload_n hx hb d_Md_cut_33 rfl (lv_at hl 2 rfl) ?_
      refine lv_imul hx hb d_Md_cut_34 ?_
      refine lv_topi (fun z9 e_z9 => ?_)
      obtain rfl : z9 = nI (32 * j) := by rw [e_z9]; exact (nI_mul 32 j)
      refine lv_iload_n hx hb d_Md_cut_35 rfl (lv_at hl 0 rfl) ?_
      refine lv_iadd hx hb d_Md_cut_36 ?_
      refine lv_topi (fun z9 e_z9 => ?_)
      obtain rfl : z9 = nI (32 * j + i) := by rw [e_z9]; exact (nI_add (32 * j) i)
      refine ep_callH (W.runV (As := [.int (nI (32 * j + i + 1)), .int (nI (32 * j + i))]) (rest := []) ⟨hx, hb, hml, hown, hg⟩ (m_Mo_copy l D cI cJ cZ cO a code kn ed ct1 ti nm xa xb ma it vs se sm rs wk ors owk (32 * j + i + 1) (32 * j + i) (by omega) (by omega) _ rfl) (ep_cwV 2 hg tw_804 tw_806 ts_13 tw_12 tk_Md_copy rfl rfl (by decide +kernel) ⟨(Nat.le_of_ble_eq_true rfl), (Nat.le_of_ble_eq_true rfl)⟩) ⟨ep_blind, va_recv (q0 := 0) (ci := 9) hK hP rfl rfl, ep_pre hKn (hP)⟩ rfl rfl hl.1 rfl (lv_room (Nat.le_of_ble_eq_true rfl)) d_Md_cut_37 ⟨Nat.zero_le _, Nat.zero_le _⟩) hS (fun q h => h) (fun H locs hsz9 hk1 hP1 hS => ?_)
      refine W.eq (g2 := F0 m 40 ls []) rfl ?_
      have hP : va_P D cls (wMo cI cJ cZ a code kn ed ct1 ((f_Mo_copy ti nm xa xb (32 * j + i + 1) (32 * j + i)).1) ((f_Mo_copy ti nm xa xb (32 * j + i + 1) (32 * j + i)).2.1) ((f_Mo_copy ti nm xa xb (32 * j + i + 1) (32 * j + i)).2.2.1) ((f_Mo_copy ti nm xa xb (32 * j + i + 1) (32 * j + i)).2.2.2) ma it vs se sm rs wk ors owk) H := hP1
      have hD : va_D (blk a 15) (wMo cI cJ cZ a code kn ed ct1 ((f_Mo_copy ti nm xa xb (32 * j + i + 1) (32 * j + i)).1) ((f_Mo_copy ti nm xa xb (32 * j + i + 1) (32 * j + i)).2.1) ((f_Mo_copy ti nm xa xb (32 * j + i + 1) (32 * j + i)).2.2.1) ((f_Mo_copy ti nm xa xb (32 * j + i + 1) (32 * j + i)).2.2.2) ma it vs se sm rs wk ors owk) := (blk_D (wMo_in))
      refine lv_iinc (k := 0) (lv' := [(3, .int (nI (i + 1))), (0, .ref a), (1, .int (nI j)), (2, .int (nI pp))]) hx hb d_Md_cut_40 hl rfl (inc1 _) (by decide) rfl (fun ls hl => ?_)
      refine lv_goto (tgt := 12) hx hb d_Md_cut_43 (by decide) ?_
      exact ih (i + 1) ct1 ((f_Mo_copy ti nm xa xb (32 * j + i + 1) (32 * j + i)).1) ((f_Mo_copy ti nm xa xb (32 * j + i + 1) (32 * j + i)).2.1) ((f_Mo_copy ti nm xa xb (32 * j + i + 1) (32 * j + i)).2.2.1) ((f_Mo_copy ti nm xa xb (32 * j + i + 1) (32 * j + i)).2.2.2) _ _ ls (by omega) hc0 hR hl hP hS
  have hR : (g_Mo_cut_12 j (n - 1 - pp) pp (upd ct j (nI (n - 1))) ti nm xa xb) = R := hR
  refine lv_aload_n hx hb d_Md_cut_0 rfl (lv_at hl 0 rfl) ?_
  refine va_get (D := D) (ci := 9) (v := .ref (a + 3)) (C := R_Md) (T := F_Md) (N := 17) hx hb hg in_Md hown hK hP 0 rfl rfl 3 (Nat.le_of_ble_eq_true rfl) (hg _ tw_709) (fun _ h9 => h9) rfl d_Md_cut_1 ?_
  refine lv_iload_n hx hb d_Md_cut_4 rfl (lv_at hl 1 rfl) ?_
  refine lv_dup2_11 hx hb d_Md_cut_5 rfl rfl ?_
  refine ep_iald hx hb hK hP 3 0 rfl rfl (i := j) (by omega) (by decide) d_Md_cut_6 ?_
  refine lv_topi (fun z9 e_z9 => ?_)
  obtain rfl : z9 = nI n := by rw [e_z9]; exact hct
  refine lv_iconst (v := 1) hx hb d_Md_cut_7 (by decide) ?_
  refine lv_isub hx hb d_Md_cut_8 ?_
  refine lv_topi (fun z9 e_z9 => ?_)
  obtain rfl : z9 = nI (n - 1) := by rw [e_z9]; exact (nI_sub (a := n) (b := 1) (by omega))
  refine ep_iast hx hb hK hP hD hS 3 0 rfl rfl (i := j) (x := (nI (n - 1))) (by omega) (by decide) d_Md_cut_9 (fun H locs hP hD hS => ?_)
  have hP : va_P D cls (wMo cI cJ cZ a code kn ed (upd ct j (nI (n - 1))) ti nm xa xb ma it vs se sm rs wk ors owk) H := hP
  have hD : va_D (blk a 15) (wMo cI cJ cZ a code kn ed (upd ct j (nI (n - 1))) ti nm xa xb ma it vs se sm rs wk ors owk) := hD
  refine lv_iload_n hx hb d_Md_cut_10 rfl (lv_at hl 2 rfl) ?_
  refine lv_istore_n (lv' := [(3, .int (nI pp)), (0, .ref a), (1, .int (nI j)), (2, .int (nI pp))]) hx hb d_Md_cut_11 rfl hl (by decide) rfl (fun ls hl => ?_)
  exact key_12 (n - 1 - pp) pp (upd ct j (nI (n - 1))) ti nm xa xb _ _ ls (by omega) (upd_at _ _ _) hR hl hP hS

def f_Mo_fits_0 (u : Int32) (x : Int32) (y : Int32) : Int32 := if y = 0 then (if u = 1 then (if okV x then (1) else (0)) else (if u = 2 then (if x = 0 then (1) else (0)) else (0))) else (0)
set_option maxHeartbeats 4000000 in
set_option maxRecDepth 100000 in
theorem m_Mo_fits_0 (l : Launch) (D : va_G) (cI cJ cZ cO : ClassId) (u : Int32) (x : Int32) (y : Int32) (R : Int32) (hR : f_Mo_fits_0 u x y = R) : Met l y_Md_fits (k_Md_fits :: gt) rm_Md_fits (Pc0 D cI cJ cZ cO [.int 0, .int u, .int x, .int y] (fun H => True)) (Qp (some (.int R))) 0 0 (fun _ => False) := by
  refine Met.ofW (cc := c_Md_fits) (maxL := 4) (ret := (Option.some FieldType.boolean)) (by decide) rfl ?_
  intro p e s m args below meth c s₁ B hml hv
  obtain ⟨rfl, hKn, -⟩ := hv
  have hx := B.exec
  have hb := B.bytes
  have hr := B.returns
  have hts := atoms_spec (ws := k_Md_fits :: gt) B.pre
  have hg : ∀ w ∈ gt, w.before _ s = true := fun w h => hts w (List.mem_cons_of_mem _ h)
  have hown : s.vm.findClass R_Md = some m.cls := findClass_of_methodNamed B.named
  have hlocks := B.notSynchronized
  have hK := hKn.1
  have hl := lv_entry ([.int 0, .int u, .int x, .int y]) (n := 4) (Nat.le_of_ble_eq_true rfl)
  rw [lg_entry_eq]
  generalize (lg_sl ([.int 0, .int u, .int x, .int y]) ++ List.replicate (4 - (lg_sl ([.int 0, .int u, .int x, .int y])).length) Slot.unset).toArray = ls at hl ⊢
  have hl : lv_has ls 4 [(0, .int 0), (1, .int u), (2, .int x), (3, .int y)] := hl
  have hR : (if y = 0 then (if u = 1 then (if okV x then (1) else (0)) else (if u = 2 then (if x = 0 then (1) else (0)) else (0))) else (0)) = R := hR
  refine lv_iload_n hx hb d_Md_fits_0 rfl (lv_at hl 0 rfl) ?_
  refine lv_iconst (v := 5) hx hb d_Md_fits_1 (by decide) ?_
  refine lv_icmp_ne (tgt := 36) hx hb d_Md_fits_2 (by decide) (fun hc => ?_) (fun hc => False.elim (by revert hc; decide))
  refine lv_iload_n hx hb d_Md_fits_36 rfl (lv_at hl 0 rfl) ?_
  refine lv_iconst (v := 4) hx hb d_Md_fits_37 (by decide) ?_
  refine lv_icmp_ne (tgt := 68) hx hb d_Md_fits_38 (by decide) (fun hc => ?_) (fun hc => False.elim (by revert hc; decide))
  refine lv_iload_n hx hb d_Md_fits_68 rfl (lv_at hl 0 rfl) ?_
  refine lv_iconst (v := 2) hx hb d_Md_fits_69 (by decide) ?_
  refine lv_icmp_ne (tgt := 110) hx hb d_Md_fits_70 (by decide) (fun hc => ?_) (fun hc => False.elim (by revert hc; decide))
  refine lv_iload_n hx hb d_Md_fits_110 rfl (lv_at hl 3 rfl) ?_
  refine lv_if_ne (tgt := 142) hx hb d_Md_fits_111 (by decide) (fun hc1 => ?_) (fun hc1 => ?_)
  · have hc1 : ¬ (y = 0) := hc1
    refine lv_iconst (v := 0) hx hb d_Md_fits_142 (by decide) ?_
    rw [if_neg hc1] at hR
    subst hR
    exact W.zret (v := 0) hx hb hr (by decide) (fun t9 ht hW => ⟨rfl, ht⟩) (fun q h => nomatch h) d_Md_fits_143
  · have hc1 : y = 0 := hc1
    refine lv_iload_n hx hb d_Md_fits_114 rfl (lv_at hl 1 rfl) ?_
    refine lv_iconst (v := 1) hx hb d_Md_fits_115 (by decide) ?_
    refine lv_icmp_ne (tgt := 129) hx hb d_Md_fits_116 (by decide) (fun hc2 => ?_) (fun hc2 => ?_)
    · have hc2 : ¬ (u = 1) := hc2
      refine lv_iload_n hx hb d_Md_fits_129 rfl (lv_at hl 1 rfl) ?_
      refine lv_iconst (v := 2) hx hb d_Md_fits_130 (by decide) ?_
      refine lv_icmp_ne (tgt := 142) hx hb d_Md_fits_131 (by decide) (fun hc3 => ?_) (fun hc3 => ?_)
      · have hc3 : ¬ (u = 2) := hc3
        refine lv_iconst (v := 0) hx hb d_Md_fits_142 (by decide) ?_
        rw [if_pos hc1, if_neg hc2, if_neg hc3] at hR
        subst hR
        exact W.zret (v := 0) hx hb hr (by decide) (fun t9 ht hW => ⟨rfl, ht⟩) (fun q h => nomatch h) d_Md_fits_143
      · have hc3 : u = 2 := hc3
        refine lv_iload_n hx hb d_Md_fits_134 rfl (lv_at hl 2 rfl) ?_
        refine lv_if_ne (tgt := 142) hx hb d_Md_fits_135 (by decide) (fun hc4 => ?_) (fun hc4 => ?_)
        · have hc4 : ¬ (x = 0) := hc4
          refine lv_iconst (v := 0) hx hb d_Md_fits_142 (by decide) ?_
          rw [if_pos hc1, if_neg hc2, if_pos hc3, if_neg hc4] at hR
          subst hR
          exact W.zret (v := 0) hx hb hr (by decide) (fun t9 ht hW => ⟨rfl, ht⟩) (fun q h => nomatch h) d_Md_fits_143
        · have hc4 : x = 0 := hc4
          refine lv_iconst (v := 1) hx hb d_Md_fits_138 (by decide) ?_
          refine lv_goto (tgt := 143) hx hb d_Md_fits_139 (by decide) ?_
          rw [if_pos hc1, if_neg hc2, if_pos hc3, if_pos hc4] at hR
          subst hR
          exact W.zret (v := 1) hx hb hr (by decide) (fun t9 ht hW => ⟨rfl, ht⟩) (fun q h => nomatch h) d_Md_fits_143
    · have hc2 : u = 1 := hc2
      refine lv_iload_n hx hb d_Md_fits_119 rfl (lv_at hl 2 rfl) ?_
      refine ep_callP (W.runS (As := [.int x]) (rest := []) ⟨hx, hb, hml, hown, hg⟩ (m_Mo_isValue l D cI cJ cZ cO x) (ep_cwS 1 hg tw_797 tw_798 tw_12 tk_Md_isValue rfl rfl (by decide +kernel) ⟨(Nat.le_of_ble_eq_true rfl), (Nat.le_of_ble_eq_true rfl)⟩) ⟨ep_blind, ep_pre hKn (trivial)⟩ rfl rfl hl.1 rfl (lv_room (Nat.le_of_ble_eq_true rfl)) d_Md_fits_120 ⟨Nat.zero_le _, Nat.zero_le _⟩) ?_
      refine W.eq (g2 := F0 m 123 ls [.int (bI (okV x))]) rfl ?_
      by_cases hc5 : okV x
      · rw [show bI (okV x) = 1 from if_pos hc5]
        refine lv_if_eq (tgt := 142) hx hb d_Md_fits_123 (by decide) (fun hc => False.elim (by revert hc; decide)) (fun hc => ?_)
        refine lv_goto (tgt := 138) hx hb d_Md_fits_126 (by decide) ?_
        refine lv_iconst (v := 1) hx hb d_Md_fits_138 (by decide) ?_
        refine lv_goto (tgt := 143) hx hb d_Md_fits_139 (by decide) ?_
        rw [if_pos hc1, if_pos hc2, if_pos hc5] at hR
        subst hR
        exact W.zret (v := 1) hx hb hr (by decide) (fun t9 ht hW => ⟨rfl, ht⟩) (fun q h => nomatch h) d_Md_fits_143
      · rw [show bI (okV x) = 0 from if_neg hc5]
        refine lv_if_eq (tgt := 142) hx hb d_Md_fits_123 (by decide) (fun hc => ?_) (fun hc => False.elim (by revert hc; decide))
        refine lv_iconst (v := 0) hx hb d_Md_fits_142 (by decide) ?_
        rw [if_pos hc1, if_pos hc2, if_neg hc5] at hR
        subst hR
        exact W.zret (v := 0) hx hb hr (by decide) (fun t9 ht hW => ⟨rfl, ht⟩) (fun q h => nomatch h) d_Md_fits_143

def f_Mo_fits_1 (u : Int32) (x : Int32) (y : Int32) : Int32 := if y = 0 then (if u = 1 then (if okV x then (1) else (0)) else (if u = 2 then (if x = 0 then (1) else (0)) else (0))) else (0)
set_option maxHeartbeats 4000000 in
set_option maxRecDepth 100000 in
theorem m_Mo_fits_1 (l : Launch) (D : va_G) (cI cJ cZ cO : ClassId) (u : Int32) (x : Int32) (y : Int32) (R : Int32) (hR : f_Mo_fits_1 u x y = R) : Met l y_Md_fits (k_Md_fits :: gt) rm_Md_fits (Pc0 D cI cJ cZ cO [.int 1, .int u, .int x, .int y] (fun H => True)) (Qp (some (.int R))) 0 0 (fun _ => False) := by
  refine Met.ofW (cc := c_Md_fits) (maxL := 4) (ret := (Option.some FieldType.boolean)) (by decide) rfl ?_
  intro p e s m args below meth c s₁ B hml hv
  obtain ⟨rfl, hKn, -⟩ := hv
  have hx := B.exec
  have hb := B.bytes
  have hr := B.returns
  have hts := atoms_spec (ws := k_Md_fits :: gt) B.pre
  have hg : ∀ w ∈ gt, w.before _ s = true := fun w h => hts w (List.mem_cons_of_mem _ h)
  have hown : s.vm.findClass R_Md = some m.cls := findClass_of_methodNamed B.named
  have hlocks := B.notSynchronized
  have hK := hKn.1
  have hl := lv_entry ([.int 1, .int u, .int x, .int y]) (n := 4) (Nat.le_of_ble_eq_true rfl)
  rw [lg_entry_eq]
  generalize (lg_sl ([.int 1, .int u, .int x, .int y]) ++ List.replicate (4 - (lg_sl ([.int 1, .int u, .int x, .int y])).length) Slot.unset).toArray = ls at hl ⊢
  have hl : lv_has ls 4 [(0, .int 1), (1, .int u), (2, .int x), (3, .int y)] := hl
  have hR : (if y = 0 then (if u = 1 then (if okV x then (1) else (0)) else (if u = 2 then (if x = 0 then (1) else (0)) else (0))) else (0)) = R := hR
  refine lv_iload_n hx hb d_Md_fits_0 rfl (lv_at hl 0 rfl) ?_
  refine lv_iconst (v := 5) hx hb d_Md_fits_1 (by decide) ?_
  refine lv_icmp_ne (tgt := 36) hx hb d_Md_fits_2 (by decide) (fun hc => ?_) (fun hc => False.elim (by revert hc; decide))
  refine lv_iload_n hx hb d_Md_fits_36 rfl (lv_at hl 0 rfl) ?_
  refine lv_iconst (v := 4) hx hb d_Md_fits_37 (by decide) ?_
  refine lv_icmp_ne (tgt := 68) hx hb d_Md_fits_38 (by decide) (fun hc => ?_) (fun hc => False.elim (by revert hc; decide))
  refine lv_iload_n hx hb d_Md_fits_68 rfl (lv_at hl 0 rfl) ?_
  refine lv_iconst (v := 2) hx hb d_Md_fits_69 (by decide) ?_
  refine lv_icmp_ne (tgt := 110) hx hb d_Md_fits_70 (by decide) (fun hc => ?_) (fun hc => False.elim (by revert hc; decide))
  refine lv_iload_n hx hb d_Md_fits_110 rfl (lv_at hl 3 rfl) ?_
  refine lv_if_ne (tgt := 142) hx hb d_Md_fits_111 (by decide) (fun hc1 => ?_) (fun hc1 => ?_)
  · have hc1 : ¬ (y = 0) := hc1
    refine lv_iconst (v := 0) hx hb d_Md_fits_142 (by decide) ?_
    rw [if_neg hc1] at hR
    subst hR
    exact W.zret (v := 0) hx hb hr (by decide) (fun t9 ht hW => ⟨rfl, ht⟩) (fun q h => nomatch h) d_Md_fits_143
  · have hc1 : y = 0 := hc1
    refine lv_iload_n hx hb d_Md_fits_114 rfl (lv_at hl 1 rfl) ?_
    refine lv_iconst (v := 1) hx hb d_Md_fits_115 (by decide) ?_
    refine lv_icmp_ne (tgt := 129) hx hb d_Md_fits_116 (by decide) (fun hc2 => ?_) (fun hc2 => ?_)
    · have hc2 : ¬ (u = 1) := hc2
      refine lv_iload_n hx hb d_Md_fits_129 rfl (lv_at hl 1 rfl) ?_
      refine lv_iconst (v := 2) hx hb d_Md_fits_130 (by decide) ?_
      refine lv_icmp_ne (tgt := 142) hx hb d_Md_fits_131 (by decide) (fun hc3 => ?_) (fun hc3 => ?_)
      · have hc3 : ¬ (u = 2) := hc3
        refine lv_iconst (v := 0) hx hb d_Md_fits_142 (by decide) ?_
        rw [if_pos hc1, if_neg hc2, if_neg hc3] at hR
        subst hR
        exact W.zret (v := 0) hx hb hr (by decide) (fun t9 ht hW => ⟨rfl, ht⟩) (fun q h => nomatch h) d_Md_fits_143
      · have hc3 : u = 2 := hc3
        refine lv_iload_n hx hb d_Md_fits_134 rfl (lv_at hl 2 rfl) ?_
        refine lv_if_ne (tgt := 142) hx hb d_Md_fits_135 (by decide) (fun hc4 => ?_) (fun hc4 => ?_)
        · have hc4 : ¬ (x = 0) := hc4
          refine lv_iconst (v := 0) hx hb d_Md_fits_142 (by decide) ?_
          rw [if_pos hc1, if_neg hc2, if_pos hc3, if_neg hc4] at hR
          subst hR
          exact W.zret (v := 0) hx hb hr (by decide) (fun t9 ht hW => ⟨rfl, ht⟩) (fun q h => nomatch h) d_Md_fits_143
        · have hc4 : x = 0 := hc4
          refine lv_iconst (v := 1) hx hb d_Md_fits_138 (by decide) ?_
          refine lv_goto (tgt := 143) hx hb d_Md_fits_139 (by decide) ?_
          rw [if_pos hc1, if_neg hc2, if_pos hc3, if_pos hc4] at hR
          subst hR
          exact W.zret (v := 1) hx hb hr (by decide) (fun t9 ht hW => ⟨rfl, ht⟩) (fun q h => nomatch h) d_Md_fits_143
    · have hc2 : u = 1 := hc2
      refine lv_iload_n hx hb d_Md_fits_119 rfl (lv_at hl 2 rfl) ?_
      refine ep_callP (W.runS (As := [.int x]) (rest := []) ⟨hx, hb, hml, hown, hg⟩ (m_Mo_isValue l D cI cJ cZ cO x) (ep_cwS 1 hg tw_797 tw_798 tw_12 tk_Md_isValue rfl rfl (by decide +kernel) ⟨(Nat.le_of_ble_eq_true rfl), (Nat.le_of_ble_eq_true rfl)⟩) ⟨ep_blind, ep_pre hKn (trivial)⟩ rfl rfl hl.1 rfl (lv_room (Nat.le_of_ble_eq_true rfl)) d_Md_fits_120 ⟨Nat.zero_le _, Nat.zero_le _⟩) ?_
      refine W.eq (g2 := F0 m 123 ls [.int (bI (okV x))]) rfl ?_
      by_cases hc5 : okV x
      · rw [show bI (okV x) = 1 from if_pos hc5]
        refine lv_if_eq (tgt := 142) hx hb d_Md_fits_123 (by decide) (fun hc => False.elim (by revert hc; decide)) (fun hc => ?_)
        refine lv_goto (tgt := 138) hx hb d_Md_fits_126 (by decide) ?_
        refine lv_iconst (v := 1) hx hb d_Md_fits_138 (by decide) ?_
        refine lv_goto (tgt := 143) hx hb d_Md_fits_139 (by decide) ?_
        rw [if_pos hc1, if_pos hc2, if_pos hc5] at hR
        subst hR
        exact W.zret (v := 1) hx hb hr (by decide) (fun t9 ht hW => ⟨rfl, ht⟩) (fun q h => nomatch h) d_Md_fits_143
      · rw [show bI (okV x) = 0 from if_neg hc5]
        refine lv_if_eq (tgt := 142) hx hb d_Md_fits_123 (by decide) (fun hc => ?_) (fun hc => False.elim (by revert hc; decide))
        refine lv_iconst (v := 0) hx hb d_Md_fits_142 (by decide) ?_
        rw [if_pos hc1, if_pos hc2, if_neg hc5] at hR
        subst hR
        exact W.zret (v := 0) hx hb hr (by decide) (fun t9 ht hW => ⟨rfl, ht⟩) (fun q h => nomatch h) d_Md_fits_143

def f_Mo_fits_2 (u : Int32) (x : Int32) (y : Int32) : Int32 := if okV x then (if u = 1 then (if okV y then (1) else (0)) else (if u = 2 then (if y = 0 then (1) else (0)) else (0))) else (0)
set_option maxHeartbeats 4000000 in
set_option maxRecDepth 100000 in
theorem m_Mo_fits_2 (l : Launch) (D : va_G) (cI cJ cZ cO : ClassId) (u : Int32) (x : Int32) (y : Int32) (R : Int32) (hR : f_Mo_fits_2 u x y = R) : Met l y_Md_fits (k_Md_fits :: gt) rm_Md_fits (Pc0 D cI cJ cZ cO [.int 2, .int u, .int x, .int y] (fun H => True)) (Qp (some (.int R))) 0 0 (fun _ => False) := by
  refine Met.ofW (cc := c_Md_fits) (maxL := 4) (ret := (Option.some FieldType.boolean)) (by decide) rfl ?_
  intro p e s m args below meth c s₁ B hml hv
  obtain ⟨rfl, hKn, -⟩ := hv
  have hx := B.exec
  have hb := B.bytes
  have hr := B.returns
  have hts := atoms_spec (ws := k_Md_fits :: gt) B.pre
  have hg : ∀ w ∈ gt, w.before _ s = true := fun w h => hts w (List.mem_cons_of_mem _ h)
  have hown : s.vm.findClass R_Md = some m.cls := findClass_of_methodNamed B.named
  have hlocks := B.notSynchronized
  have hK := hKn.1
  have hl := lv_entry ([.int 2, .int u, .int x, .int y]) (n := 4) (Nat.le_of_ble_eq_true rfl)
  rw [lg_entry_eq]
  generalize (lg_sl ([.int 2, .int u, .int x, .int y]) ++ List.replicate (4 - (lg_sl ([.int 2, .int u, .int x, .int y])).length) Slot.unset).toArray = ls at hl ⊢
  have hl : lv_has ls 4 [(0, .int 2), (1, .int u), (2, .int x), (3, .int y)] := hl
  have hR : (if okV x then (if u = 1 then (if okV y then (1) else (0)) else (if u = 2 then (if y = 0 then (1) else (0)) else (0))) else (0)) = R := hR
  refine lv_iload_n hx hb d_Md_fits_0 rfl (lv_at hl 0 rfl) ?_
  refine lv_iconst (v := 5) hx hb d_Md_fits_1 (by decide) ?_
  refine lv_icmp_ne (tgt := 36) hx hb d_Md_fits_2 (by decide) (fun hc => ?_) (fun hc => False.elim (by revert hc; decide))
  refine lv_iload_n hx hb d_Md_fits_36 rfl (lv_at hl 0 rfl) ?_
  refine lv_iconst (v := 4) hx hb d_Md_fits_37 (by decide) ?_
  refine lv_icmp_ne (tgt := 68) hx hb d_Md_fits_38 (by decide) (fun hc => ?_) (fun hc => False.elim (by revert hc; decide))
  refine lv_iload_n hx hb d_Md_fits_68 rfl (lv_at hl 0 rfl) ?_
  refine lv_iconst (v := 2) hx hb d_Md_fits_69 (by decide) ?_
  refine lv_icmp_ne (tgt := 110) hx hb d_Md_fits_70 (by decide) (fun hc => False.elim (by revert hc; decide)) (fun hc => ?_)
  refine lv_iload_n hx hb d_Md_fits_73 rfl (lv_at hl 2 rfl) ?_
  refine ep_callP (W.runS (As := [.int x]) (rest := []) ⟨hx, hb, hml, hown, hg⟩ (m_Mo_isValue l D cI cJ cZ cO x) (ep_cwS 1 hg tw_797 tw_798 tw_12 tk_Md_isValue rfl rfl (by decide +kernel) ⟨(Nat.le_of_ble_eq_true rfl), (Nat.le_of_ble_eq_true rfl)⟩) ⟨ep_blind, ep_pre hKn (trivial)⟩ rfl rfl hl.1 rfl (lv_room (Nat.le_of_ble_eq_true rfl)) d_Md_fits_74 ⟨Nat.zero_le _, Nat.zero_le _⟩) ?_
  refine W.eq (g2 := F0 m 77 ls [.int (bI (okV x))]) rfl ?_
  by_cases hc1 : okV x
  · rw [show bI (okV x) = 1 from if_pos hc1]
    refine lv_if_eq (tgt := 108) hx hb d_Md_fits_77 (by decide) (fun hc => False.elim (by revert hc; decide)) (fun hc => ?_)
    refine lv_iload_n hx hb d_Md_fits_80 rfl (lv_at hl 1 rfl) ?_
    refine lv_iconst (v := 1) hx hb d_Md_fits_81 (by decide) ?_
    refine lv_icmp_ne (tgt := 95) hx hb d_Md_fits_82 (by decide) (fun hc2 => ?_) (fun hc2 => ?_)
    · have hc2 : ¬ (u = 1) := hc2
      refine lv_iload_n hx hb d_Md_fits_95 rfl (lv_at hl 1 rfl) ?_
      refine lv_iconst (v := 2) hx hb d_Md_fits_96 (by decide) ?_
      refine lv_icmp_ne (tgt := 108) hx hb d_Md_fits_97 (by decide) (fun hc3 => ?_) (fun hc3 => ?_)
      · have hc3 : ¬ (u = 2) := hc3
        refine lv_iconst (v := 0) hx hb d_Md_fits_108 (by decide) ?_
        rw [if_pos hc1, if_neg hc2, if_neg hc3] at hR
        subst hR
        exact W.zret (v := 0) hx hb hr (by decide) (fun t9 ht hW => ⟨rfl, ht⟩) (fun q h => nomatch h) d_Md_fits_109
      · have hc3 : u = 2 := hc3
        refine lv_iload_n hx hb d_Md_fits_100 rfl (lv_at hl 3 rfl) ?_
        refine lv_if_ne (tgt := 108) hx hb d_Md_fits_101 (by decide) (fun hc4 => ?_) (fun hc4 => ?_)
        · have hc4 : ¬ (y = 0) := hc4
          refine lv_iconst (v := 0) hx hb d_Md_fits_108 (by decide) ?_
          rw [if_pos hc1, if_neg hc2, if_pos hc3, if_neg hc4] at hR
          subst hR
          exact W.zret (v := 0) hx hb hr (by decide) (fun t9 ht hW => ⟨rfl, ht⟩) (fun q h => nomatch h) d_Md_fits_109
        · have hc4 : y = 0 := hc4
          refine lv_iconst (v := 1) hx hb d_Md_fits_104 (by decide) ?_
          refine lv_goto (tgt := 109) hx hb d_Md_fits_105 (by decide) ?_
          rw [if_pos hc1, if_neg hc2, if_pos hc3, if_pos hc4] at hR
          subst hR
          exact W.zret (v := 1) hx hb hr (by decide) (fun t9 ht hW => ⟨rfl, ht⟩) (fun q h => nomatch h) d_Md_fits_109
    · have hc2 : u = 1 := hc2
      refine lv_iload_n hx hb d_Md_fits_85 rfl (lv_at hl 3 rfl) ?_
      refine ep_callP (W.runS (As := [.int y]) (rest := []) ⟨hx, hb, hml, hown, hg⟩ (m_Mo_isValue l D cI cJ cZ cO y) (ep_cwS 1 hg tw_797 tw_798 tw_12 tk_Md_isValue rfl rfl (by decide +kernel) ⟨(Nat.le_of_ble_eq_true rfl), (Nat.le_of_ble_eq_true rfl)⟩) ⟨ep_blind, ep_pre hKn (trivial)⟩ rfl rfl hl.1 rfl (lv_room (Nat.le_of_ble_eq_true rfl)) d_Md_fits_86 ⟨Nat.zero_le _, Nat.zero_le _⟩) ?_
      refine W.eq (g2 := F0 m 89 ls [.int (bI (okV y))]) rfl ?_
      by_cases hc5 : okV y
      · rw [show bI (okV y) = 1 from if_pos hc5]
        refine lv_if_eq (tgt := 108) hx hb d_Md_fits_89 (by decide) (fun hc => False.elim (by revert hc; decide)) (fun hc => ?_)
        refine lv_goto (tgt := 104) hx hb d_Md_fits_92 (by decide) ?_
        refine lv_iconst (v := 1) hx hb d_Md_fits_104 (by decide) ?_
        refine lv_goto (tgt := 109) hx hb d_Md_fits_105 (by decide) ?_
        rw [if_pos hc1, if_pos hc2, if_pos hc5] at hR
        subst hR
        exact W.zret (v := 1) hx hb hr (by decide) (fun t9 ht hW => ⟨rfl, ht⟩) (fun q h => nomatch h) d_Md_fits_109
      · rw [show bI (okV y) = 0 from if_neg hc5]
        refine lv_if_eq (tgt := 108) hx hb d_Md_fits_89 (by decide) (fun hc => ?_) (fun hc => False.elim (by revert hc; decide))
        refine lv_iconst (v := 0) hx hb d_Md_fits_108 (by decide) ?_
        rw [if_pos hc1, if_pos hc2, if_neg hc5] at hR
        subst hR
        exact W.zret (v := 0) hx hb hr (by decide) (fun t9 ht hW => ⟨rfl, ht⟩) (fun q h => nomatch h) d_Md_fits_109
  · rw [show bI (okV x) = 0 from if_neg hc1]
    refine lv_if_eq (tgt := 108) hx hb d_Md_fits_77 (by decide) (fun hc => ?_) (fun hc => False.elim (by revert hc; decide))
    refine lv_iconst (v := 0) hx hb d_Md_fits_108 (by decide) ?_
    rw [if_neg hc1] at hR
    subst hR
    exact W.zret (v := 0) hx hb hr (by decide) (fun t9 ht hW => ⟨rfl, ht⟩) (fun q h => nomatch h) d_Md_fits_109

def f_Mo_fits_3 (u : Int32) (x : Int32) (y : Int32) : Int32 := if y = 0 then (if u = 1 then (if okV x then (1) else (0)) else (if u = 2 then (if x = 0 then (1) else (0)) else (0))) else (0)
set_option maxHeartbeats 4000000 in
set_option maxRecDepth 100000 in
theorem m_Mo_fits_3 (l : Launch) (D : va_G) (cI cJ cZ cO : ClassId) (u : Int32) (x : Int32) (y : Int32) (R : Int32) (hR : f_Mo_fits_3 u x y = R) : Met l y_Md_fits (k_Md_fits :: gt) rm_Md_fits (Pc0 D cI cJ cZ cO [.int 3, .int u, .int x, .int y] (fun H => True)) (Qp (some (.int R))) 0 0 (fun _ => False) := by
  refine Met.ofW (cc := c_Md_fits) (maxL := 4) (ret := (Option.some FieldType.boolean)) (by decide) rfl ?_
  intro p e s m args below meth c s₁ B hml hv
  obtain ⟨rfl, hKn, -⟩ := hv
  have hx := B.exec
  have hb := B.bytes
  have hr := B.returns
  have hts := atoms_spec (ws := k_Md_fits :: gt) B.pre
  have hg : ∀ w ∈ gt, w.before _ s = true := fun w h => hts w (List.mem_cons_of_mem _ h)
  have hown : s.vm.findClass R_Md = some m.cls := findClass_of_methodNamed B.named
  have hlocks := B.notSynchronized
  have hK := hKn.1
  have hl := lv_entry ([.int 3, .int u, .int x, .int y]) (n := 4) (Nat.le_of_ble_eq_true rfl)
  rw [lg_entry_eq]
  generalize (lg_sl ([.int 3, .int u, .int x, .int y]) ++ List.replicate (4 - (lg_sl ([.int 3, .int u, .int x, .int y])).length) Slot.unset).toArray = ls at hl ⊢
  have hl : lv_has ls 4 [(0, .int 3), (1, .int u), (2, .int x), (3, .int y)] := hl
  have hR : (if y = 0 then (if u = 1 then (if okV x then (1) else (0)) else (if u = 2 then (if x = 0 then (1) else (0)) else (0))) else (0)) = R := hR
  refine lv_iload_n hx hb d_Md_fits_0 rfl (lv_at hl 0 rfl) ?_
  refine lv_iconst (v := 5) hx hb d_Md_fits_1 (by decide) ?_
  refine lv_icmp_ne (tgt := 36) hx hb d_Md_fits_2 (by decide) (fun hc => ?_) (fun hc => False.elim (by revert hc; decide))
  refine lv_iload_n hx hb d_Md_fits_36 rfl (lv_at hl 0 rfl) ?_
  refine lv_iconst (v := 4) hx hb d_Md_fits_37 (by decide) ?_
  refine lv_icmp_ne (tgt := 68) hx hb d_Md_fits_38 (by decide) (fun hc => ?_) (fun hc => False.elim (by revert hc; decide))
  refine lv_iload_n hx hb d_Md_fits_68 rfl (lv_at hl 0 rfl) ?_
  refine lv_iconst (v := 2) hx hb d_Md_fits_69 (by decide) ?_
  refine lv_icmp_ne (tgt := 110) hx hb d_Md_fits_70 (by decide) (fun hc => ?_) (fun hc => False.elim (by revert hc; decide))
  refine lv_iload_n hx hb d_Md_fits_110 rfl (lv_at hl 3 rfl) ?_
  refine lv_if_ne (tgt := 142) hx hb d_Md_fits_111 (by decide) (fun hc1 => ?_) (fun hc1 => ?_)
  · have hc1 : ¬ (y = 0) := hc1
    refine lv_iconst (v := 0) hx hb d_Md_fits_142 (by decide) ?_
    rw [if_neg hc1] at hR
    subst hR
    exact W.zret (v := 0) hx hb hr (by decide) (fun t9 ht hW => ⟨rfl, ht⟩) (fun q h => nomatch h) d_Md_fits_143
  · have hc1 : y = 0 := hc1
    refine lv_iload_n hx hb d_Md_fits_114 rfl (lv_at hl 1 rfl) ?_
    refine lv_iconst (v := 1) hx hb d_Md_fits_115 (by decide) ?_
    refine lv_icmp_ne (tgt := 129) hx hb d_Md_fits_116 (by decide) (fun hc2 => ?_) (fun hc2 => ?_)
    · have hc2 : ¬ (u = 1) := hc2
      refine lv_iload_n hx hb d_Md_fits_129 rfl (lv_at hl 1 rfl) ?_
      refine lv_iconst (v := 2) hx hb d_Md_fits_130 (by decide) ?_
      refine lv_icmp_ne (tgt := 142) hx hb d_Md_fits_131 (by decide) (fun hc3 => ?_) (fun hc3 => ?_)
      · have hc3 : ¬ (u = 2) := hc3
        refine lv_iconst (v := 0) hx hb d_Md_fits_142 (by decide) ?_
        rw [if_pos hc1, if_neg hc2, if_neg hc3] at hR
        subst hR
        exact W.zret (v := 0) hx hb hr (by decide) (fun t9 ht hW => ⟨rfl, ht⟩) (fun q h => nomatch h) d_Md_fits_143
      · have hc3 : u = 2 := hc3
        refine lv_iload_n hx hb d_Md_fits_134 rfl (lv_at hl 2 rfl) ?_
        refine lv_if_ne (tgt := 142) hx hb d_Md_fits_135 (by decide) (fun hc4 => ?_) (fun hc4 => ?_)
        · have hc4 : ¬ (x = 0) := hc4
          refine lv_iconst (v := 0) hx hb d_Md_fits_142 (by decide) ?_
          rw [if_pos hc1, if_neg hc2, if_pos hc3, if_neg hc4] at hR
          subst hR
          exact W.zret (v := 0) hx hb hr (by decide) (fun t9 ht hW => ⟨rfl, ht⟩) (fun q h => nomatch h) d_Md_fits_143
        · have hc4 : x = 0 := hc4
          refine lv_iconst (v := 1) hx hb d_Md_fits_138 (by decide) ?_
          refine lv_goto (tgt := 143) hx hb d_Md_fits_139 (by decide) ?_
          rw [if_pos hc1, if_neg hc2, if_pos hc3, if_pos hc4] at hR
          subst hR
          exact W.zret (v := 1) hx hb hr (by decide) (fun t9 ht hW => ⟨rfl, ht⟩) (fun q h => nomatch h) d_Md_fits_143
    · have hc2 : u = 1 := hc2
      refine lv_iload_n hx hb d_Md_fits_119 rfl (lv_at hl 2 rfl) ?_
      refine ep_callP (W.runS (As := [.int x]) (rest := []) ⟨hx, hb, hml, hown, hg⟩ (m_Mo_isValue l D cI cJ cZ cO x) (ep_cwS 1 hg tw_797 tw_798 tw_12 tk_Md_isValue rfl rfl (by decide +kernel) ⟨(Nat.le_of_ble_eq_true rfl), (Nat.le_of_ble_eq_true rfl)⟩) ⟨ep_blind, ep_pre hKn (trivial)⟩ rfl rfl hl.1 rfl (lv_room (Nat.le_of_ble_eq_true rfl)) d_Md_fits_120 ⟨Nat.zero_le _, Nat.zero_le _⟩) ?_
      refine W.eq (g2 := F0 m 123 ls [.int (bI (okV x))]) rfl ?_
      by_cases hc5 : okV x
      · rw [show bI (okV x) = 1 from if_pos hc5]
        refine lv_if_eq (tgt := 142) hx hb d_Md_fits_123 (by decide) (fun hc => False.elim (by revert hc; decide)) (fun hc => ?_)
        refine lv_goto (tgt := 138) hx hb d_Md_fits_126 (by decide) ?_
        refine lv_iconst (v := 1) hx hb d_Md_fits_138 (by decide) ?_
        refine lv_goto (tgt := 143) hx hb d_Md_fits_139 (by decide) ?_
        rw [if_pos hc1, if_pos hc2, if_pos hc5] at hR
        subst hR
        exact W.zret (v := 1) hx hb hr (by decide) (fun t9 ht hW => ⟨rfl, ht⟩) (fun q h => nomatch h) d_Md_fits_143
      · rw [show bI (okV x) = 0 from if_neg hc5]
        refine lv_if_eq (tgt := 142) hx hb d_Md_fits_123 (by decide) (fun hc => ?_) (fun hc => False.elim (by revert hc; decide))
        refine lv_iconst (v := 0) hx hb d_Md_fits_142 (by decide) ?_
        rw [if_pos hc1, if_pos hc2, if_neg hc5] at hR
        subst hR
        exact W.zret (v := 0) hx hb hr (by decide) (fun t9 ht hW => ⟨rfl, ht⟩) (fun q h => nomatch h) d_Md_fits_143

def f_Mo_fits_4 (u : Int32) (x : Int32) (y : Int32) : Int32 := if u = 1 then (if x < (-1000000000) then (0) else (if 1000000000 < x then (0) else (if y = 0 then (1) else (0)))) else (0)
set_option maxHeartbeats 4000000 in
set_option maxRecDepth 100000 in
theorem m_Mo_fits_4 (l : Launch) (D : va_G) (cI cJ cZ cO : ClassId) (u : Int32) (x : Int32) (y : Int32) (R : Int32) (hR : f_Mo_fits_4 u x y = R) : Met l y_Md_fits (k_Md_fits :: gt) rm_Md_fits (Pc0 D cI cJ cZ cO [.int 4, .int u, .int x, .int y] (fun H => True)) (Qp (some (.int R))) 0 0 (fun _ => False) := by
  refine Met.ofW (cc := c_Md_fits) (maxL := 4) (ret := (Option.some FieldType.boolean)) (by decide) rfl ?_
  intro p e s m args below meth c s₁ B hml hv
  obtain ⟨rfl, hKn, -⟩ := hv
  have hx := B.exec
  have hb := B.bytes
  have hr := B.returns
  have hts := atoms_spec (ws := k_Md_fits :: gt) B.pre
  have hg : ∀ w ∈ gt, w.before _ s = true := fun w h => hts w (List.mem_cons_of_mem _ h)
  have hown : s.vm.findClass R_Md = some m.cls := findClass_of_methodNamed B.named
  have hlocks := B.notSynchronized
  have hK := hKn.1
  have hl := lv_entry ([.int 4, .int u, .int x, .int y]) (n := 4) (Nat.le_of_ble_eq_true rfl)
  rw [lg_entry_eq]
  generalize (lg_sl ([.int 4, .int u, .int x, .int y]) ++ List.replicate (4 - (lg_sl ([.int 4, .int u, .int x, .int y])).length) Slot.unset).toArray = ls at hl ⊢
  have hl : lv_has ls 4 [(0, .int 4), (1, .int u), (2, .int x), (3, .int y)] := hl
  have hR : (if u = 1 then (if x < (-1000000000) then (0) else (if 1000000000 < x then (0) else (if y = 0 then (1) else (0)))) else (0)) = R := hR
  refine lv_iload_n hx hb d_Md_fits_0 rfl (lv_at hl 0 rfl) ?_
  refine lv_iconst (v := 5) hx hb d_Md_fits_1 (by decide) ?_
  refine lv_icmp_ne (tgt := 36) hx hb d_Md_fits_2 (by decide) (fun hc => ?_) (fun hc => False.elim (by revert hc; decide))
  refine lv_iload_n hx hb d_Md_fits_36 rfl (lv_at hl 0 rfl) ?_
  refine lv_iconst (v := 4) hx hb d_Md_fits_37 (by decide) ?_
  refine lv_icmp_ne (tgt := 68) hx hb d_Md_fits_38 (by decide) (fun hc => False.elim (by revert hc; decide)) (fun hc => ?_)
  refine lv_iload_n hx hb d_Md_fits_41 rfl (lv_at hl 1 rfl) ?_
  refine lv_iconst (v := 1) hx hb d_Md_fits_42 (by decide) ?_
  refine lv_icmp_ne (tgt := 66) hx hb d_Md_fits_43 (by decide) (fun hc1 => ?_) (fun hc1 => ?_)
  · have hc1 : ¬ (u = 1) := hc1
    refine lv_iconst (v := 0) hx hb d_Md_fits_66 (by decide) ?_
    rw [if_neg hc1] at hR
    subst hR
    exact W.zret (v := 0) hx hb hr (by decide) (fun t9 ht hW => ⟨rfl, ht⟩) (fun q h => nomatch h) d_Md_fits_67
  · have hc1 : u = 1 := hc1
    refine lv_iload_n hx hb d_Md_fits_46 rfl (lv_at hl 2 rfl) ?_
    refine lv_ldc (v := (-1000000000)) hx hb hown (hg _ tw_796) d_Md_fits_47 ?_
    refine lv_icmp_lt (tgt := 66) hx hb d_Md_fits_49 (by decide) (fun hc2 => ?_) (fun hc2 => ?_)
    · have hc2 : x < (-1000000000) := hc2
      refine lv_iconst (v := 0) hx hb d_Md_fits_66 (by decide) ?_
      rw [if_pos hc1, if_pos hc2] at hR
      subst hR
      exact W.zret (v := 0) hx hb hr (by decide) (fun t9 ht hW => ⟨rfl, ht⟩) (fun q h => nomatch h) d_Md_fits_67
    · have hc2 : ¬ (x < (-1000000000)) := hc2
      refine lv_iload_n hx hb d_Md_fits_52 rfl (lv_at hl 2 rfl) ?_
      refine lv_ldc (v := 1000000000) hx hb hown (hg _ tw_780) d_Md_fits_53 ?_
      refine lv_icmp_gt (tgt := 66) hx hb d_Md_fits_55 (by decide) (fun hc3 => ?_) (fun hc3 => ?_)
      · have hc3 : 1000000000 < x := hc3
        refine lv_iconst (v := 0) hx hb d_Md_fits_66 (by decide) ?_
        rw [if_pos hc1, if_neg hc2, if_pos hc3] at hR
        subst hR
        exact W.zret (v := 0) hx hb hr (by decide) (fun t9 ht hW => ⟨rfl, ht⟩) (fun q h => nomatch h) d_Md_fits_67
      · have hc3 : ¬ (1000000000 < x) := hc3
        refine lv_iload_n hx hb d_Md_fits_58 rfl (lv_at hl 3 rfl) ?_
        refine lv_if_ne (tgt := 66) hx hb d_Md_fits_59 (by decide) (fun hc4 => ?_) (fun hc4 => ?_)
        · have hc4 : ¬ (y = 0) := hc4
          refine lv_iconst (v := 0) hx hb d_Md_fits_66 (by decide) ?_
          rw [if_pos hc1, if_neg hc2, if_neg hc3, if_neg hc4] at hR
          subst hR
          exact W.zret (v := 0) hx hb hr (by decide) (fun t9 ht hW => ⟨rfl, ht⟩) (fun q h => nomatch h) d_Md_fits_67
        · have hc4 : y = 0 := hc4
          refine lv_iconst (v := 1) hx hb d_Md_fits_62 (by decide) ?_
          refine lv_goto (tgt := 67) hx hb d_Md_fits_63 (by decide) ?_
          rw [if_pos hc1, if_neg hc2, if_neg hc3, if_pos hc4] at hR
          subst hR
          exact W.zret (v := 1) hx hb hr (by decide) (fun t9 ht hW => ⟨rfl, ht⟩) (fun q h => nomatch h) d_Md_fits_67

def f_Mo_fits_5 (u : Int32) (x : Int32) (y : Int32) : Int32 := if u = 1 then (if x < 0 then (0) else (if 16 ≤ x then (0) else (if y < 0 then (0) else (if 16 ≤ y then (0) else (1))))) else (0)
set_option maxHeartbeats 4000000 in
set_option maxRecDepth 100000 in
theorem m_Mo_fits_5 (l : Launch) (D : va_G) (cI cJ cZ cO : ClassId) (u : Int32) (x : Int32) (y : Int32) (R : Int32) (hR : f_Mo_fits_5 u x y = R) : Met l y_Md_fits (k_Md_fits :: gt) rm_Md_fits (Pc0 D cI cJ cZ cO [.int 5, .int u, .int x, .int y] (fun H => True)) (Qp (some (.int R))) 0 0 (fun _ => False) := by
  refine Met.ofW (cc := c_Md_fits) (maxL := 4) (ret := (Option.some FieldType.boolean)) (by decide) rfl ?_
  intro p e s m args below meth c s₁ B hml hv
  obtain ⟨rfl, hKn, -⟩ := hv
  have hx := B.exec
  have hb := B.bytes
  have hr := B.returns
  have hts := atoms_spec (ws := k_Md_fits :: gt) B.pre
  have hg : ∀ w ∈ gt, w.before _ s = true := fun w h => hts w (List.mem_cons_of_mem _ h)
  have hown : s.vm.findClass R_Md = some m.cls := findClass_of_methodNamed B.named
  have hlocks := B.notSynchronized
  have hK := hKn.1
  have hl := lv_entry ([.int 5, .int u, .int x, .int y]) (n := 4) (Nat.le_of_ble_eq_true rfl)
  rw [lg_entry_eq]
  generalize (lg_sl ([.int 5, .int u, .int x, .int y]) ++ List.replicate (4 - (lg_sl ([.int 5, .int u, .int x, .int y])).length) Slot.unset).toArray = ls at hl ⊢
  have hl : lv_has ls 4 [(0, .int 5), (1, .int u), (2, .int x), (3, .int y)] := hl
  have hR : (if u = 1 then (if x < 0 then (0) else (if 16 ≤ x then (0) else (if y < 0 then (0) else (if 16 ≤ y then (0) else (1))))) else (0)) = R := hR
  refine lv_iload_n hx hb d_Md_fits_0 rfl (lv_at hl 0 rfl) ?_
  refine lv_iconst (v := 5) hx hb d_Md_fits_1 (by decide) ?_
  refine lv_icmp_ne (tgt := 36) hx hb d_Md_fits_2 (by decide) (fun hc => False.elim (by revert hc; decide)) (fun hc => ?_)
  refine lv_iload_n hx hb d_Md_fits_5 rfl (lv_at hl 1 rfl) ?_
  refine lv_iconst (v := 1) hx hb d_Md_fits_6 (by decide) ?_
  refine lv_icmp_ne (tgt := 34) hx hb d_Md_fits_7 (by decide) (fun hc1 => ?_) (fun hc1 => ?_)
  · have hc1 : ¬ (u = 1) := hc1
    refine lv_iconst (v := 0) hx hb d_Md_fits_34 (by decide) ?_
    rw [if_neg hc1] at hR
    subst hR
    exact W.zret (v := 0) hx hb hr (by decide) (fun t9 ht hW => ⟨rfl, ht⟩) (fun q h => nomatch h) d_Md_fits_35
  · have hc1 : u = 1 := hc1
    refine lv_iload_n hx hb d_Md_fits_10 rfl (lv_at hl 2 rfl) ?_
    refine lv_if_lt (tgt := 34) hx hb d_Md_fits_11 (by decide) (fun hc2 => ?_) (fun hc2 => ?_)
    · have hc2 : x < 0 := hc2
      refine lv_iconst (v := 0) hx hb d_Md_fits_34 (by decide) ?_
      rw [if_pos hc1, if_pos hc2] at hR
      subst hR
      exact W.zret (v := 0) hx hb hr (by decide) (fun t9 ht hW => ⟨rfl, ht⟩) (fun q h => nomatch h) d_Md_fits_35
    · have hc2 : ¬ (x < 0) := hc2
      refine lv_iload_n hx hb d_Md_fits_14 rfl (lv_at hl 2 rfl) ?_
      refine lv_bipush (v := 16) hx hb d_Md_fits_15 (by decide) ?_
      refine lv_icmp_ge (tgt := 34) hx hb d_Md_fits_17 (by decide) (fun hc3 => ?_) (fun hc3 => ?_)
      · have hc3 : 16 ≤ x := hc3
        refine lv_iconst (v := 0) hx hb d_Md_fits_34 (by decide) ?_
        rw [if_pos hc1, if_neg hc2, if_pos hc3] at hR
        subst hR
        exact W.zret (v := 0) hx hb hr (by decide) (fun t9 ht hW => ⟨rfl, ht⟩) (fun q h => nomatch h) d_Md_fits_35
      · have hc3 : ¬ (16 ≤ x) := hc3
        refine lv_iload_n hx hb d_Md_fits_20 rfl (lv_at hl 3 rfl) ?_
        refine lv_if_lt (tgt := 34) hx hb d_Md_fits_21 (by decide) (fun hc4 => ?_) (fun hc4 => ?_)
        · have hc4 : y < 0 := hc4
          refine lv_iconst (v := 0) hx hb d_Md_fits_34 (by decide) ?_
          rw [if_pos hc1, if_neg hc2, if_neg hc3, if_pos hc4] at hR
          subst hR
          exact W.zret (v := 0) hx hb hr (by decide) (fun t9 ht hW => ⟨rfl, ht⟩) (fun q h => nomatch h) d_Md_fits_35
        · have hc4 : ¬ (y < 0) := hc4
          refine lv_iload_n hx hb d_Md_fits_24 rfl (lv_at hl 3 rfl) ?_
          refine lv_bipush (v := 16) hx hb d_Md_fits_25 (by decide) ?_
          refine lv_icmp_ge (tgt := 34) hx hb d_Md_fits_27 (by decide) (fun hc5 => ?_) (fun hc5 => ?_)
          · have hc5 : 16 ≤ y := hc5
            refine lv_iconst (v := 0) hx hb d_Md_fits_34 (by decide) ?_
            rw [if_pos hc1, if_neg hc2, if_neg hc3, if_neg hc4, if_pos hc5] at hR
            subst hR
            exact W.zret (v := 0) hx hb hr (by decide) (fun t9 ht hW => ⟨rfl, ht⟩) (fun q h => nomatch h) d_Md_fits_35
          · have hc5 : ¬ (16 ≤ y) := hc5
            refine lv_iconst (v := 1) hx hb d_Md_fits_30 (by decide) ?_
            refine lv_goto (tgt := 35) hx hb d_Md_fits_31 (by decide) ?_
            rw [if_pos hc1, if_neg hc2, if_neg hc3, if_neg hc4, if_neg hc5] at hR
            subst hR
            exact W.zret (v := 1) hx hb hr (by decide) (fun t9 ht hW => ⟨rfl, ht⟩) (fun q h => nomatch h) d_Md_fits_35
