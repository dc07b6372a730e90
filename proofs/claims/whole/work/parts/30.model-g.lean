/-! contracts of EditablePastModel (by wip/whole/gen/model.py) -/
def f_Mo_front_e (kn : Nat → Int32) (j : Nat) (t : Int32) : Int32 := (f_Mo_isNotFor_e kn j t)
set_option maxHeartbeats 4000000 in
set_option maxRecDepth 100000 in
theorem m_Mo_front_e (l : Launch) (D : va_G) (cI cJ cZ cO : ClassId) (a : Nat) (code : Int32) (kn : Nat → Int32) (ed : Nat → Int32) (ct : Nat → Int32) (ti : Nat → Int32) (nm : Nat → Int32) (xa : Nat → Int32) (xb : Nat → Int32) (ma : Int32) (it : Nat → Int32) (vs : Nat → Int32) (se : Nat → Int32) (sm : Int64) (rs : Nat → Int64) (wk : Nat → Int32) (ors : Nat → Int64) (owk : Nat → Int32) (j : Nat) (t : Int32) (hj : j < 4) (hlk : ¬ (f_Mo_lacks kn j t).1 = 0) (R : Int32) (hR : f_Mo_front_e kn j t = R) : Met l y_Md_front (k_Md_front :: gt) rm_Md_front (Pc0 D cI cJ cZ cO [.ref a, .int (nI j), .int t] (fun H => va_P D cls (wMo cI cJ cZ a code kn ed ct ti nm xa xb ma it vs se sm rs wk ors owk) H)) (Qd (blk a 15) (some (.int 0)) (fun H => va_P D cls (wMo cI cJ cZ a R kn ed ct ti nm xa xb ma it vs se sm rs wk ors owk) H)) 0 0 (blk a 15) := by
  refine Met.ofW (cc := c_Md_front) (maxL := 3) (ret := (Option.some FieldType.int)) (by decide) rfl ?_
  intro p e s m args below meth c s₁ B hml hv
  obtain ⟨rfl, hKn, hP⟩ := hv
  have hx := B.exec
  have hb := B.bytes
  have hr := B.returns
  have hts := atoms_spec (ws := k_Md_front :: gt) B.pre
  have hg : ∀ w ∈ gt, w.before _ s = true := fun w h => hts w (List.mem_cons_of_mem _ h)
  have hown : s.vm.findClass R_Md = some m.cls := findClass_of_methodNamed B.named
  have hlocks := B.notSynchronized
  have hK := hKn.1
  have hl := lv_entry ([.ref a, .int (nI j), .int t]) (n := 3) (Nat.le_of_ble_eq_true rfl)
  rw [lg_entry_eq]
  generalize (lg_sl ([.ref a, .int (nI j), .int t]) ++ List.replicate (3 - (lg_sl ([.ref a, .int (nI j), .int t])).length) Slot.unset).toArray = ls at hl ⊢
  have hl : lv_has ls 3 [(0, .ref a), (1, .int (nI j)), (2, .int t)] := hl
  have hS : va_S (blk a 15) s.heap s.heap [] := va_S.rf
  have hD : va_D (blk a 15) (wMo cI cJ cZ a code kn ed ct ti nm xa xb ma it vs se sm rs wk ors owk) := (blk_D (wMo_in))
  have hR : ((f_Mo_isNotFor_e kn j t)) = R := hR
  refine lv_aload_n hx hb d_Md_front_0 rfl (lv_at hl 0 rfl) ?_
  refine lv_iload_n hx hb d_Md_front_1 rfl (lv_at hl 1 rfl) ?_
  refine lv_iload_n hx hb d_Md_front_2 rfl (lv_at hl 2 rfl) ?_
  refine lv_iconst (v := 3) hx hb d_Md_front_3 (by decide) ?_
  refine ep_callH (W.runV (As := [.int (nI j), .int t, .int 3]) (rest := []) ⟨hx, hb, hml, hown, hg⟩ (m_Mo_isNotFor_e l D cI cJ cZ cO a code kn ed ct ti nm xa xb ma it vs se sm rs wk ors owk j t 3 (by omega) hlk _ rfl) (ep_cwV 3 hg tw_828 tw_830 ts_16 tw_12 tk_Md_isNotFor rfl rfl (by decide +kernel) ⟨(Nat.le_of_ble_eq_true rfl), (Nat.le_of_ble_eq_true rfl)⟩) ⟨ep_blind, va_recv (q0 := 0) (ci := 9) hK hP rfl rfl, ep_pre hKn (hP)⟩ rfl rfl hl.1 rfl (lv_room (Nat.le_of_ble_eq_true rfl)) d_Md_front_4 ⟨Nat.zero_le _, Nat.zero_le _⟩) hS (fun q h => h) (fun H locs hsz9 hk1 hP1 hS => ?_)
  refine W.eq (g2 := F0 m 7 ls [.int 1]) rfl ?_
  have hP : va_P D cls (wMo cI cJ cZ a (f_Mo_isNotFor_e kn j t) kn ed ct ti nm xa xb ma it vs se sm rs wk ors owk) H := hP1
  have hD : va_D (blk a 15) (wMo cI cJ cZ a (f_Mo_isNotFor_e kn j t) kn ed ct ti nm xa xb ma it vs se sm rs wk ors owk) := (blk_D (wMo_in))
  refine lv_if_eq (tgt := 12) hx hb d_Md_front_7 (by decide) (fun hc => False.elim (by revert hc; decide)) (fun hc => ?_)
  refine lv_iconst (v := 0) hx hb d_Md_front_10 (by decide) ?_
  subst hR
  exact W.iret (v := 0) hx hb hr (fun t9 ht hW => ⟨rfl, hS.F ht, by rw [ht]; exact hP⟩) hS.2.2 d_Md_front_11

def f_Mo_front_b  : Int32 := f_Mo_isNotFor_b
set_option maxHeartbeats 4000000 in
set_option maxRecDepth 100000 in
theorem m_Mo_front_b (l : Launch) (D : va_G) (cI cJ cZ cO : ClassId) (a : Nat) (code : Int32) (kn : Nat → Int32) (ed : Nat → Int32) (ct : Nat → Int32) (ti : Nat → Int32) (nm : Nat → Int32) (xa : Nat → Int32) (xb : Nat → Int32) (ma : Int32) (it : Nat → Int32) (vs : Nat → Int32) (se : Nat → Int32) (sm : Int64) (rs : Nat → Int64) (wk : Nat → Int32) (ors : Nat → Int64) (owk : Nat → Int32) (id : Int32) (t : Int32) (hid : ¬ okI id) (R : Int32) (hR : f_Mo_front_b = R) : Met l y_Md_front (k_Md_front :: gt) rm_Md_front (Pc0 D cI cJ cZ cO [.ref a, .int id, .int t] (fun H => va_P D cls (wMo cI cJ cZ a code kn ed ct ti nm xa xb ma it vs se sm rs wk ors owk) H)) (Qd (blk a 15) (some (.int 0)) (fun H => va_P D cls (wMo cI cJ cZ a R kn ed ct ti nm xa xb ma it vs se sm rs wk ors owk) H)) 0 0 (blk a 15) := by
  refine Met.ofW (cc := c_Md_front) (maxL := 3) (ret := (Option.some FieldType.int)) (by decide) rfl ?_
  intro p e s m args below meth c s₁ B hml hv
  obtain ⟨rfl, hKn, hP⟩ := hv
  have hx := B.exec
  have hb := B.bytes
  have hr := B.returns
  have hts := atoms_spec (ws := k_Md_front :: gt) B.pre
  have hg : ∀ w ∈ gt, w.before _ s = true := fun w h => hts w (List.mem_cons_of_mem _ h)
  have hown : s.vm.findClass R_Md = some m.cls := findClass_of_methodNamed B.named
  have hlocks := B.notSynchronized
  have hK := hKn.1
  have hl := lv_entry ([.ref a, .int id, .int t]) (n := 3) (Nat.le_of_ble_eq_true rfl)
  rw [lg_entry_eq]
  generalize (lg_sl ([.ref a, .int id, .int t]) ++ List.replicate (3 - (lg_sl ([.ref a, .int id, .int t])).length) Slot.unset).toArray = ls at hl ⊢
  have hl : lv_has ls 3 [(0, .ref a), (1, .int id), (2, .int t)] := hl
  have hS : va_S (blk a 15) s.heap s.heap [] := va_S.rf
  have hD : va_D (blk a 15) (wMo cI cJ cZ a code kn ed ct ti nm xa xb ma it vs se sm rs wk ors owk) := (blk_D (wMo_in))
  have hR : (f_Mo_isNotFor_b) = R := hR
  refine lv_aload_n hx hb d_Md_front_0 rfl (lv_at hl 0 rfl) ?_
  refine lv_iload_n hx hb d_Md_front_1 rfl (lv_at hl 1 rfl) ?_
  refine lv_iload_n hx hb d_Md_front_2 rfl (lv_at hl 2 rfl) ?_
  refine lv_iconst (v := 3) hx hb d_Md_front_3 (by decide) ?_
  refine ep_callH (W.runV (As := [.int id, .int t, .int 3]) (rest := []) ⟨hx, hb, hml, hown, hg⟩ (m_Mo_isNotFor_b l D cI cJ cZ cO a code kn ed ct ti nm xa xb ma it vs se sm rs wk ors owk id t 3 hid _ rfl) (ep_cwV 3 hg tw_828 tw_830 ts_16 tw_12 tk_Md_isNotFor rfl rfl (by decide +kernel) ⟨(Nat.le_of_ble_eq_true rfl), (Nat.le_of_ble_eq_true rfl)⟩) ⟨ep_blind, va_recv (q0 := 0) (ci := 9) hK hP rfl rfl, ep_pre hKn (hP)⟩ rfl rfl hl.1 rfl (lv_room (Nat.le_of_ble_eq_true rfl)) d_Md_front_4 ⟨Nat.zero_le _, Nat.zero_le _⟩) hS (fun q h => h) (fun H locs hsz9 hk1 hP1 hS => ?_)
  refine W.eq (g2 := F0 m 7 ls [.int 1]) rfl ?_
  have hP : va_P D cls (wMo cI cJ cZ a f_Mo_isNotFor_b kn ed ct ti nm xa xb ma it vs se sm rs wk ors owk) H := hP1
  have hD : va_D (blk a 15) (wMo cI cJ cZ a f_Mo_isNotFor_b kn ed ct ti nm xa xb ma it vs se sm rs wk ors owk) := (blk_D (wMo_in))
  refine lv_if_eq (tgt := 12) hx hb d_Md_front_7 (by decide) (fun hc => False.elim (by revert hc; decide)) (fun hc => ?_)
  refine lv_iconst (v := 0) hx hb d_Md_front_10 (by decide) ?_
  subst hR
  exact W.iret (v := 0) hx hb hr (fun t9 ht hW => ⟨rfl, hS.F ht, by rw [ht]; exact hP⟩) hS.2.2 d_Md_front_11

def f_Mo_front_w  : Unit := ()
set_option maxHeartbeats 4000000 in
set_option maxRecDepth 100000 in
theorem m_Mo_front_w (l : Launch) (D : va_G) (cI cJ cZ cO : ClassId) (a : Nat) (code : Int32) (kn : Nat → Int32) (ed : Nat → Int32) (ct : Nat → Int32) (ti : Nat → Int32) (nm : Nat → Int32) (xa : Nat → Int32) (xb : Nat → Int32) (ma : Int32) (it : Nat → Int32) (vs : Nat → Int32) (se : Nat → Int32) (sm : Int64) (rs : Nat → Int64) (wk : Nat → Int32) (ors : Nat → Int64) (owk : Nat → Int32) (j : Nat) (t : Int32) (hj : j < 4) (hlk : (f_Mo_lacks kn j t).1 = 0) (hw : ¬ ((3 >>> (((kn j) - 1) &&& 31)) &&& 1) = 1) (R : Unit) (hR : f_Mo_front_w = R) : Met l y_Md_front (k_Md_front :: gt) rm_Md_front (Pc0 D cI cJ cZ cO [.ref a, .int (nI j), .int t] (fun H => va_P D cls (wMo cI cJ cZ a code kn ed ct ti nm xa xb ma it vs se sm rs wk ors owk) H)) (Qd (blk a 15) (some (.int 0)) (fun H => va_P D cls (wMo cI cJ cZ a 2 kn ed ct ti nm xa xb ma it vs se sm rs wk ors owk) H)) 0 0 (blk a 15) := by
  refine Met.ofW (cc := c_Md_front) (maxL := 3) (ret := (Option.some FieldType.int)) (by decide) rfl ?_
  intro p e s m args below meth c s₁ B hml hv
  obtain ⟨rfl, hKn, hP⟩ := hv
  have hx := B.exec
  have hb := B.bytes
  have hr := B.returns
  have hts := atoms_spec (ws := k_Md_front :: gt) B.pre
  have hg : ∀ w ∈ gt, w.before _ s = true := fun w h => hts w (List.mem_cons_of_mem _ h)
  have hown : s.vm.findClass R_Md = some m.cls := findClass_of_methodNamed B.named
  have hlocks := B.notSynchronized
  have hK := hKn.1
  have hl := lv_entry ([.ref a, .int (nI j), .int t]) (n := 3) (Nat.le_of_ble_eq_true rfl)
  rw [lg_entry_eq]
  generalize (lg_sl ([.ref a, .int (nI j), .int t]) ++ List.replicate (3 - (lg_sl ([.ref a, .int (nI j), .int t])).length) Slot.unset).toArray = ls at hl ⊢
  have hl : lv_has ls 3 [(0, .ref a), (1, .int (nI j)), (2, .int t)] := hl
  have hS : va_S (blk a 15) s.heap s.heap [] := va_S.rf
  have hD : va_D (blk a 15) (wMo cI cJ cZ a code kn ed ct ti nm xa xb ma it vs se sm rs wk ors owk) := (blk_D (wMo_in))
  have hR : (()) = R := hR
  refine lv_aload_n hx hb d_Md_front_0 rfl (lv_at hl 0 rfl) ?_
  refine lv_iload_n hx hb d_Md_front_1 rfl (lv_at hl 1 rfl) ?_
  refine lv_iload_n hx hb d_Md_front_2 rfl (lv_at hl 2 rfl) ?_
  refine lv_iconst (v := 3) hx hb d_Md_front_3 (by decide) ?_
  refine ep_callH (W.runV (As := [.int (nI j), .int t, .int 3]) (rest := []) ⟨hx, hb, hml, hown, hg⟩ (m_Mo_isNotFor_w l D cI cJ cZ cO a code kn ed ct ti nm xa xb ma it vs se sm rs wk ors owk j t 3 (by omega) hlk hw _ rfl) (ep_cwV 3 hg tw_828 tw_830 ts_16 tw_12 tk_Md_isNotFor rfl rfl (by decide +kernel) ⟨(Nat.le_of_ble_eq_true rfl), (Nat.le_of_ble_eq_true rfl)⟩) ⟨ep_blind, va_recv (q0 := 0) (ci := 9) hK hP rfl rfl, ep_pre hKn (hP)⟩ rfl rfl hl.1 rfl (lv_room (Nat.le_of_ble_eq_true rfl)) d_Md_front_4 ⟨Nat.zero_le _, Nat.zero_le _⟩) hS (fun q h => h) (fun H locs hsz9 hk1 hP1 hS => ?_)
  refine W.eq (g2 := F0 m 7 ls [.int 1]) rfl ?_
  have hP : va_P D cls (wMo cI cJ cZ a 2 kn ed ct ti nm xa xb ma it vs se sm rs wk ors owk) H := hP1
  have hD : va_D (blk a 15) (wMo cI cJ cZ a 2 kn ed ct ti nm xa xb ma it vs se sm rs wk ors owk) := (blk_D (wMo_in))
  refine lv_if_eq (tgt := 12) hx hb d_Md_front_7 (by decide) (fun hc => False.elim (by revert hc; decide)) (fun hc => ?_)
  refine lv_iconst (v := 0) hx hb d_Md_front_10 (by decide) ?_
  subst hR
  exact W.iret (v := 0) hx hb hr (fun t9 ht hW => ⟨rfl, hS.F ht, by rw [ht]; exact hP⟩) hS.2.2 d_Md_front_11

def f_Mo_front_0 (ti : Nat → Int32) (nm : Nat → Int32) (xa : Nat → Int32) (it : Nat → Int32) (vs : Nat → Int32) (se : Nat → Int32) (rs : Nat → Int64) (wk : Nat → Int32) (n : Nat) (j : Nat) (t : Int32) : Int32 × Int32 × Nat × (Nat → Int32) × (Nat → Int32) × (Nat → Int32) × Int64 × (Nat → Int64) × (Nat → Int32) := if (f_Mo_isNotFor_0_3 ti nm xa it vs se rs wk n j t).1 = 0 then ((0, 3, (f_Mo_isNotFor_0_3 ti nm xa it vs se rs wk n j t).1, (f_Mo_isNotFor_0_3 ti nm xa it vs se rs wk n j t).2.1, (f_Mo_isNotFor_0_3 ti nm xa it vs se rs wk n j t).2.2.1, (f_Mo_isNotFor_0_3 ti nm xa it vs se rs wk n j t).2.2.2.1, (f_Mo_isNotFor_0_3 ti nm xa it vs se rs wk n j t).2.2.2.2.1, (f_Mo_isNotFor_0_3 ti nm xa it vs se rs wk n j t).2.2.2.2.2.1, (f_Mo_isNotFor_0_3 ti nm xa it vs se rs wk n j t).2.2.2.2.2.2)) else ((((f_Mo_isNotFor_0_3 ti nm xa it vs se rs wk n j t).2.1) (f_Mo_nextOf_0 ((f_Mo_isNotFor_0_3 ti nm xa it vs se rs wk n j t).1)), 0, (f_Mo_isNotFor_0_3 ti nm xa it vs se rs wk n j t).1, (f_Mo_isNotFor_0_3 ti nm xa it vs se rs wk n j t).2.1, (f_Mo_isNotFor_0_3 ti nm xa it vs se rs wk n j t).2.2.1, (f_Mo_isNotFor_0_3 ti nm xa it vs se rs wk n j t).2.2.2.1, (f_Mo_isNotFor_0_3 ti nm xa it vs se rs wk n j t).2.2.2.2.1, (f_Mo_isNotFor_0_3 ti nm xa it vs se rs wk n j t).2.2.2.2.2.1, (f_Mo_isNotFor_0_3 ti nm xa it vs se rs wk n j t).2.2.2.2.2.2))
set_option maxHeartbeats 4000000 in
set_option maxRecDepth 100000 in
theorem m_Mo_front_0 (l : Launch) (D : va_G) (cI cJ cZ cO : ClassId) (a : Nat) (code : Int32) (kn : Nat → Int32) (ed : Nat → Int32) (ct : Nat → Int32) (ti : Nat → Int32) (nm : Nat → Int32) (xa : Nat → Int32) (xb : Nat → Int32) (ma : Int32) (it : Nat → Int32) (vs : Nat → Int32) (se : Nat → Int32) (sm : Int64) (rs : Nat → Int64) (wk : Nat → Int32) (ors : Nat → Int64) (owk : Nat → Int32) (n : Nat) (j : Nat) (t : Int32) (hj : j < 4) (hlk : (f_Mo_lacks kn j t).1 = 0) (hk : kn j = 1) (hct : ct j = nI n) (hn : n ≤ 32) (R : Int32 × Int32 × Nat × (Nat → Int32) × (Nat → Int32) × (Nat → Int32) × Int64 × (Nat → Int64) × (Nat → Int32)) (hR : f_Mo_front_0 ti nm xa it vs se rs wk n j t = R) : Met l y_Md_front (k_Md_front :: gt) rm_Md_front (Pc0 D cI cJ cZ cO [.ref a, .int (nI j), .int t] (fun H => va_P D cls (wMo cI cJ cZ a code kn ed ct ti nm xa xb ma it vs se sm rs wk ors owk) H)) (Qd (blk a 15) (some (.int R.1)) (fun H => va_P D cls (wMo cI cJ cZ a R.2.1 kn ed ct ti nm xa xb (nI R.2.2.1) R.2.2.2.1 R.2.2.2.2.1 R.2.2.2.2.2.1 R.2.2.2.2.2.2.1 R.2.2.2.2.2.2.2.1 R.2.2.2.2.2.2.2.2 ors owk) H)) 0 0 (blk a 15) := by
  refine Met.ofW (cc := c_Md_front) (maxL := 3) (ret := (Option.some FieldType.int)) (by decide) rfl ?_
  intro p e s m args below meth c s₁ B hml hv
  obtain ⟨rfl, hKn, hP⟩ := hv
  have hx := B.exec
  have hb := B.bytes
  have hr := B.returns
  have hts := atoms_spec (ws := k_Md_front :: gt) B.pre
  have hg : ∀ w ∈ gt, w.before _ s = true := fun w h => hts w (List.mem_cons_of_mem _ h)
  have hown : s.vm.findClass R_Md = some m.cls := findClass_of_methodNamed B.named
  have hlocks := B.notSynchronized
  have hK := hKn.1
  have hl := lv_entry ([.ref a, .int (nI j), .int t]) (n := 3) (Nat.le_of_ble_eq_true rfl)
  rw [lg_entry_eq]
  generalize (lg_sl ([.ref a, .int (nI j), .int t]) ++ List.replicate (3 - (lg_sl ([.ref a, .int (nI j), .int t])).length) Slot.unset).toArray = ls at hl ⊢
  have hl : lv_has ls 3 [(0, .ref a), (1, .int (nI j)), (2, .int t)] := hl
  have hS : va_S (blk a 15) s.heap s.heap [] := va_S.rf
  have hD : va_D (blk a 15) (wMo cI cJ cZ a code kn ed ct ti nm xa xb ma it vs se sm rs wk ors owk) := (blk_D (wMo_in))
  have hR : (if (f_Mo_isNotFor_0_3 ti nm xa it vs se rs wk n j t).1 = 0 then ((0, 3, (f_Mo_isNotFor_0_3 ti nm xa it vs se rs wk n j t).1, (f_Mo_isNotFor_0_3 ti nm xa it vs se rs wk n j t).2.1, (f_Mo_isNotFor_0_3 ti nm xa it vs se rs wk n j t).2.2.1, (f_Mo_isNotFor_0_3 ti nm xa it vs se rs wk n j t).2.2.2.1, (f_Mo_isNotFor_0_3 ti nm xa it vs se rs wk n j t).2.2.2.2.1, (f_Mo_isNotFor_0_3 ti nm xa it vs se rs wk n j t).2.2.2.2.2.1, (f_Mo_isNotFor_0_3 ti nm xa it vs se rs wk n j t).2.2.2.2.2.2)) else ((((f_Mo_isNotFor_0_3 ti nm xa it vs se rs wk n j t).2.1) (f_Mo_nextOf_0 ((f_Mo_isNotFor_0_3 ti nm xa it vs se rs wk n j t).1)), 0, (f_Mo_isNotFor_0_3 ti nm xa it vs se rs wk n j t).1, (f_Mo_isNotFor_0_3 ti nm xa it vs se rs wk n j t).2.1, (f_Mo_isNotFor_0_3 ti nm xa it vs se rs wk n j t).2.2.1, (f_Mo_isNotFor_0_3 ti nm xa it vs se rs wk n j t).2.2.2.1, (f_Mo_isNotFor_0_3 ti nm xa it vs se rs wk n j t).2.2.2.2.1, (f_Mo_isNotFor_0_3 ti nm xa it vs se rs wk n j t).2.2.2.2.2.1, (f_Mo_isNotFor_0_3 ti nm xa it vs se rs wk n j t).2.2.2.2.2.2))) = R := hR
  refine lv_aload_n hx hb d_Md_front_0 rfl (lv_at hl 0 rfl) ?_
  refine lv_iload_n hx hb d_Md_front_1 rfl (lv_at hl 1 rfl) ?_
  refine lv_iload_n hx hb d_Md_front_2 rfl (lv_at hl 2 rfl) ?_
  refine lv_iconst (v := 3) hx hb d_Md_front_3 (by decide) ?_
  refine ep_callH (W.runV (As := [.int (nI j), .int t, .int 3]) (rest := []) ⟨hx, hb, hml, hown, hg⟩ (m_Mo_isNotFor_0_3 l D cI cJ cZ cO a code kn ed ct ti nm xa xb ma it vs se sm rs wk ors owk n j t (by omega) hlk hk hct (by omega) _ rfl) (ep_cwV 3 hg tw_828 tw_830 ts_16 tw_12 tk_Md_isNotFor rfl rfl (by decide +kernel) ⟨(Nat.le_of_ble_eq_true rfl), (Nat.le_of_ble_eq_true rfl)⟩) ⟨ep_blind, va_recv (q0 := 0) (ci := 9) hK hP rfl rfl, ep_pre hKn (hP)⟩ rfl rfl hl.1 rfl (lv_room (Nat.le_of_ble_eq_true rfl)) d_Md_front_4 ⟨Nat.zero_le _, Nat.zero_le _⟩) hS (fun q h => h) (fun H locs hsz9 hk1 hP1 hS => ?_)
  refine W.eq (g2 := F0 m 7 ls [.int 0]) rfl ?_
  have hP : va_P D cls (wMo cI cJ cZ a 0 kn ed ct ti nm xa xb (nI ((f_Mo_isNotFor_0_3 ti nm xa it vs se rs wk n j t).1)) ((f_Mo_isNotFor_0_3 ti nm xa it vs se rs wk n j t).2.1) ((f_Mo_isNotFor_0_3 ti nm xa it vs se rs wk n j t).2.2.1) ((f_Mo_isNotFor_0_3 ti nm xa it vs se rs wk n j t).2.2.2.1) ((f_Mo_isNotFor_0_3 ti nm xa it vs se rs wk n j t).2.2.2.2.1) ((f_Mo_isNotFor_0_3 ti nm xa it vs se rs wk n j t).2.2.2.2.2.1) ((f_Mo_isNotFor_0_3 ti nm xa it vs se rs wk n j t).2.2.2.2.2.2) ors owk) H := hP1
  have hD : va_D (blk a 15) (wMo cI cJ cZ a 0 kn ed ct ti nm xa xb (nI ((f_Mo_isNotFor_0_3 ti nm xa it vs se rs wk n j t).1)) ((f_Mo_isNotFor_0_3 ti nm xa it vs se rs wk n j t).2.1) ((f_Mo_isNotFor_0_3 ti nm xa it vs se rs wk n j t).2.2.1) ((f_Mo_isNotFor_0_3 ti nm xa it vs se rs wk n j t).2.2.2.1) ((f_Mo_isNotFor_0_3 ti nm xa it vs se rs wk n j t).2.2.2.2.1) ((f_Mo_isNotFor_0_3 ti nm xa it vs se rs wk n j t).2.2.2.2.2.1) ((f_Mo_isNotFor_0_3 ti nm xa it vs se rs wk n j t).2.2.2.2.2.2) ors owk) := (blk_D (wMo_in))
  have hm9 : (f_Mo_isNotFor_0_3 ti nm xa it vs se rs wk n j t).1 ≤ n := run_le_0 _ _ _ _ _ _ _ _ _ _ _
  refine lv_if_eq (tgt := 12) hx hb d_Md_front_7 (by decide) (fun hc => ?_) (fun hc => False.elim (by revert hc; decide))
  refine lv_aload_n hx hb d_Md_front_12 rfl (lv_at hl 0 rfl) ?_
  refine lv_aload_n hx hb d_Md_front_13 rfl (lv_at hl 0 rfl) ?_
  refine va_get (D := D) (ci := 9) (v := .int (nI ((f_Mo_isNotFor_0_3 ti nm xa it vs se rs wk n j t).1))) (C := R_Md) (T := F_Md) (N := 17) hx hb hg in_Md hown hK hP 0 rfl rfl 8 (Nat.le_of_ble_eq_true rfl) (hg _ tw_714) (fun _ h9 => h9) rfl d_Md_front_14 ?_
  refine lv_if_ne (tgt := 24) hx hb d_Md_front_17 (by decide) (fun hc1 => ?_) (fun hc1 => ?_)
  · have hc1 : ¬ ((f_Mo_isNotFor_0_3 ti nm xa it vs se rs wk n j t).1 = 0) := fun h9 => hc1 ((nI_eq (a := (f_Mo_isNotFor_0_3 ti nm xa it vs se rs wk n j t).1) (b := 0) (by omega) (by omega)).mpr h9)
    refine lv_iconst (v := 0) hx hb d_Md_front_24 (by decide) ?_
    refine va_put (D := D) (ci := 9) (v := .int 0) (ty := .int) (C := R_Md) (T := F_Md) (N := 17) hx hb hg in_Md t_Md t_Md_ok n_Md hown hK hP hD hS 0 rfl rfl 0 (Nat.le_of_ble_eq_true rfl) (hg _ tw_706) (fun _ h9 => h9) rfl (by decide +kernel) rfl rfl (Nat.le_of_ble_eq_true rfl) d_Md_front_25 (fun H locs hP hD hS => ?_)
    have hP : va_P D cls (wMo cI cJ cZ a 0 kn ed ct ti nm xa xb (nI ((f_Mo_isNotFor_0_3 ti nm xa it vs se rs wk n j t).1)) ((f_Mo_isNotFor_0_3 ti nm xa it vs se rs wk n j t).2.1) ((f_Mo_isNotFor_0_3 ti nm xa it vs se rs wk n j t).2.2.1) ((f_Mo_isNotFor_0_3 ti nm xa it vs se rs wk n j t).2.2.2.1) ((f_Mo_isNotFor_0_3 ti nm xa it vs se rs wk n j t).2.2.2.2.1) ((f_Mo_isNotFor_0_3 ti nm xa it vs se rs wk n j t).2.2.2.2.2.1) ((f_Mo_isNotFor_0_3 ti nm xa it vs se rs wk n j t).2.2.2.2.2.2) ors owk) H := hP
    have hD : va_D (blk a 15) (wMo cI cJ cZ a 0 kn ed ct ti nm xa xb (nI ((f_Mo_isNotFor_0_3 ti nm xa it vs se rs wk n j t).1)) ((f_Mo_isNotFor_0_3 ti nm xa it vs se rs wk n j t).2.1) ((f_Mo_isNotFor_0_3 ti nm xa it vs se rs wk n j t).2.2.1) ((f_Mo_isNotFor_0_3 ti nm xa it vs se rs wk n j t).2.2.2.1) ((f_Mo_isNotFor_0_3 ti nm xa it vs se rs wk n j t).2.2.2.2.1) ((f_Mo_isNotFor_0_3 ti nm xa it vs se rs wk n j t).2.2.2.2.2.1) ((f_Mo_isNotFor_0_3 ti nm xa it vs se rs wk n j t).2.2.2.2.2.2) ors owk) := hD
    refine lv_aload_n hx hb d_Md_front_28 rfl (lv_at hl 0 rfl) ?_
    refine va_get (D := D) (ci := 9) (v := .int 0) (C := R_Md) (T := F_Md) (N := 17) hx hb hg in_Md hown hK hP 0 rfl rfl 0 (Nat.le_of_ble_eq_true rfl) (hg _ tw_706) (fun _ h9 => h9) rfl d_Md_front_29 ?_
    refine lv_if_le (tgt := 39) hx hb d_Md_front_32 (by decide) (fun hc => ?_) (fun hc => False.elim (by revert hc; decide))
    refine lv_aload_n hx hb d_Md_front_39 rfl (lv_at hl 0 rfl) ?_
    refine va_get (D := D) (ci := 9) (v := .ref (a + 8)) (C := R_Md) (T := F_Md) (N := 17) hx hb hg in_Md hown hK hP 0 rfl rfl 9 (Nat.le_of_ble_eq_true rfl) (hg _ tw_715) (fun _ h9 => h9) rfl d_Md_front_40 ?_
    refine lv_aload_n hx hb d_Md_front_43 rfl (lv_at hl 0 rfl) ?_
    refine lv_aload_n hx hb d_Md_front_44 rfl (lv_at hl 0 rfl) ?_
    refine lv_iload_n hx hb d_Md_front_45 rfl (lv_at hl 1 rfl) ?_
    refine ep_callP (W.runV (As := [.int (nI j)]) (rest := [.ref a, .ref (a + 8)]) ⟨hx, hb, hml, hown, hg⟩ (m_Mo_kindOf l D cI cJ cZ cO a 0 kn ed ct ti nm xa xb (nI ((f_Mo_isNotFor_0_3 ti nm xa it vs se rs wk n j t).1)) ((f_Mo_isNotFor_0_3 ti nm xa it vs se rs wk n j t).2.1) ((f_Mo_isNotFor_0_3 ti nm xa it vs se rs wk n j t).2.2.1) ((f_Mo_isNotFor_0_3 ti nm xa it vs se rs wk n j t).2.2.2.1) ((f_Mo_isNotFor_0_3 ti nm xa it vs se rs wk n j t).2.2.2.2.1) ((f_Mo_isNotFor_0_3 ti nm xa it vs se rs wk n j t).2.2.2.2.2.1) ((f_Mo_isNotFor_0_3 ti nm xa it vs se rs wk n j t).2.2.2.2.2.2) ors owk j (by omega) _ rfl) (ep_cwV 1 hg tw_789 tw_791 ts_11 tw_12 tk_Md_kindOf rfl rfl (by decide +kernel) ⟨(Nat.le_of_ble_eq_true rfl), (Nat.le_of_ble_eq_true rfl)⟩) ⟨ep_blind, va_recv (q0 := 0) (ci := 9) hK hP rfl rfl, ep_pre hKn (hP)⟩ rfl rfl hl.1 rfl (lv_room (Nat.le_of_ble_eq_true rfl)) d_Md_front_46 ⟨Nat.zero_le _, Nat.zero_le _⟩) ?_
    refine W.eq (g2 := F0 m 49 ls [.int (f_Mo_kindOf kn j), .ref a, .ref (a + 8)]) rfl ?_
    refine lv_topi (fun z9 e_z9 => ?_)
    obtain rfl : z9 = 0 := by rw [e_z9]; exact (by rw [show f_Mo_kindOf kn j = kn j - 1 from rfl, hk]; decide)
    refine ep_callP (W.runV (As := [.int 0]) (rest := [.ref (a + 8)]) ⟨hx, hb, hml, hown, hg⟩ (m_Mo_nextOf_0 l D cI cJ cZ cO a 0 kn ed ct ti nm xa xb ((f_Mo_isNotFor_0_3 ti nm xa it vs se rs wk n j t).1) ((f_Mo_isNotFor_0_3 ti nm xa it vs se rs wk n j t).2.1) ((f_Mo_isNotFor_0_3 ti nm xa it vs se rs wk n j t).2.2.1) ((f_Mo_isNotFor_0_3 ti nm xa it vs se rs wk n j t).2.2.2.1) ((f_Mo_isNotFor_0_3 ti nm xa it vs se rs wk n j t).2.2.2.2.1) ((f_Mo_isNotFor_0_3 ti nm xa it vs se rs wk n j t).2.2.2.2.2.1) ((f_Mo_isNotFor_0_3 ti nm xa it vs se rs wk n j t).2.2.2.2.2.2) ors owk (by omega) (by omega) _ rfl) (ep_cwV 1 hg tw_856 tw_858 ts_23 tw_12 tk_Md_nextOf rfl rfl (by decide +kernel) ⟨(Nat.le_of_ble_eq_true rfl), (Nat.le_of_ble_eq_true rfl)⟩) ⟨ep_blind, va_recv (q0 := 0) (ci := 9) hK hP rfl rfl, ep_pre hKn (hP)⟩ rfl rfl hl.1 rfl (lv_room (Nat.le_of_ble_eq_true rfl)) d_Md_front_49 ⟨Nat.zero_le _, Nat.zero_le _⟩) ?_
    refine W.eq (g2 := F0 m 52 ls [.int (nI (f_Mo_nextOf_0 ((f_Mo_isNotFor_0_3 ti nm xa it vs se rs wk n j t).1))), .ref (a + 8)]) rfl ?_
    have hp9 : (f_Mo_nextOf_0 ((f_Mo_isNotFor_0_3 ti nm xa it vs se rs wk n j t).1)) < (f_Mo_isNotFor_0_3 ti nm xa it vs se rs wk n j t).1 := nx0_lt _ (by omega)
    refine ep_iald hx hb hK hP 8 0 rfl rfl (i := (f_Mo_nextOf_0 ((f_Mo_isNotFor_0_3 ti nm xa it vs se rs wk n j t).1))) (by omega) (by decide) d_Md_front_52 ?_
    rw [if_neg hc1] at hR
    subst hR
    exact W.iret (v := (((f_Mo_isNotFor_0_3 ti nm xa it vs se rs wk n j t).2.1) (f_Mo_nextOf_0 ((f_Mo_isNotFor_0_3 ti nm xa it vs se rs wk n j t).1)))) hx hb hr (fun t9 ht hW => ⟨rfl, hS.F ht, by rw [ht]; exact hP⟩) hS.2.2 d_Md_front_53
  · have hc1 : (f_Mo_isNotFor_0_3 ti nm xa it vs se rs wk n j t).1 = 0 := (nI_eq (a := (f_Mo_isNotFor_0_3 ti nm xa it vs se rs wk n j t).1) (b := 0) (by omega) (by omega)).mp hc1
    refine lv_iconst (v := 3) hx hb d_Md_front_20 (by decide) ?_
    refine lv_goto (tgt := 25) hx hb d_Md_front_21 (by decide) ?_
    refine va_put (D := D) (ci := 9) (v := .int 3) (ty := .int) (C := R_Md) (T := F_Md) (N := 17) hx hb hg in_Md t_Md t_Md_ok n_Md hown hK hP hD hS 0 rfl rfl 0 (Nat.le_of_ble_eq_true rfl) (hg _ tw_706) (fun _ h9 => h9) rfl (by decide +kernel) rfl rfl (Nat.le_of_ble_eq_true rfl) d_Md_front_25 (fun H locs hP hD hS => ?_)
    have hP : va_P D cls (wMo cI cJ cZ a 3 kn ed ct ti nm xa xb (nI ((f_Mo_isNotFor_0_3 ti nm xa it vs se rs wk n j t).1)) ((f_Mo_isNotFor_0_3 ti nm xa it vs se rs wk n j t).2.1) ((f_Mo_isNotFor_0_3 ti nm xa it vs se rs wk n j t).2.2.1) ((f_Mo_isNotFor_0_3 ti nm xa it vs se rs wk n j t).2.2.2.1) ((f_Mo_isNotFor_0_3 ti nm xa it vs se rs wk n j t).2.2.2.2.1) ((f_Mo_isNotFor_0_3 ti nm xa it vs se rs wk n j t).2.2.2.2.2.1) ((f_Mo_isNotFor_0_3 ti nm xa it vs se rs wk n j t).2.2.2.2.2.2) ors owk) H := hP
    have hD : va_D (blk a 15) (wMo cI cJ cZ a 3 kn ed ct ti nm xa xb (nI ((f_Mo_isNotFor_0_3 ti nm xa it vs se rs wk n j t).1)) ((f_Mo_isNotFor_0_3 ti nm xa it vs se rs wk n j t).2.1) ((f_Mo_isNotFor_0_3 ti nm xa it vs se rs wk n j t).2.2.1) ((f_Mo_isNotFor_0_3 ti nm xa it vs se rs wk n j t).2.2.2.1) ((f_Mo_isNotFor_0_3 ti nm xa it vs se rs wk n j t).2.2.2.2.1) ((f_Mo_isNotFor_0_3 ti nm xa it vs se rs wk n j t).2.2.2.2.2.1) ((f_Mo_isNotFor_0_3 ti nm xa it vs se rs wk n j t).2.2.2.2.2.2) ors owk) := hD
    refine lv_aload_n hx hb d_Md_front_28 rfl (lv_at hl 0 rfl) ?_
    refine va_get (D := D) (ci := 9) (v := .int 3) (C := R_Md) (T := F_Md) (N := 17) hx hb hg in_Md hown hK hP 0 rfl rfl 0 (Nat.le_of_ble_eq_true rfl) (hg _ tw_706) (fun _ h9 => h9) rfl d_Md_front_29 ?_
    refine lv_if_le (tgt := 39) hx hb d_Md_front_32 (by decide) (fun hc => False.elim (by revert hc; decide)) (fun hc => ?_)
    refine lv_iconst (v := 0) hx hb d_Md_front_35 (by decide) ?_
    refine lv_goto (tgt := 53) hx hb d_Md_front_36 (by decide) ?_
    rw [if_pos hc1] at hR
    subst hR
    exact W.iret (v := 0) hx hb hr (fun t9 ht hW => ⟨rfl, hS.F ht, by rw [ht]; exact hP⟩) hS.2.2 d_Md_front_53

def f_Mo_front_1 (ti : Nat → Int32) (nm : Nat → Int32) (xa : Nat → Int32) (it : Nat → Int32) (vs : Nat → Int32) (se : Nat → Int32) (rs : Nat → Int64) (wk : Nat → Int32) (n : Nat) (j : Nat) (t : Int32) : Int32 × Int32 × Nat × (Nat → Int32) × (Nat → Int32) × (Nat → Int32) × Int64 × (Nat → Int64) × (Nat → Int32) := if (f_Mo_isNotFor_1_3 ti nm xa it vs se rs wk n j t).1 = 0 then ((0, 3, (f_Mo_isNotFor_1_3 ti nm xa it vs se rs wk n j t).1, (f_Mo_isNotFor_1_3 ti nm xa it vs se rs wk n j t).2.1, (f_Mo_isNotFor_1_3 ti nm xa it vs se rs wk n j t).2.2.1, (f_Mo_isNotFor_1_3 ti nm xa it vs se rs wk n j t).2.2.2.1, (f_Mo_isNotFor_1_3 ti nm xa it vs se rs wk n j t).2.2.2.2.1, (f_Mo_isNotFor_1_3 ti nm xa it vs se rs wk n j t).2.2.2.2.2.1, (f_Mo_isNotFor_1_3 ti nm xa it vs se rs wk n j t).2.2.2.2.2.2)) else ((((f_Mo_isNotFor_1_3 ti nm xa it vs se rs wk n j t).2.1) (f_Mo_nextOf_1 ((f_Mo_isNotFor_1_3 ti nm xa it vs se rs wk n j t).1)), 0, (f_Mo_isNotFor_1_3 ti nm xa it vs se rs wk n j t).1, (f_Mo_isNotFor_1_3 ti nm xa it vs se rs wk n j t).2.1, (f_Mo_isNotFor_1_3 ti nm xa it vs se rs wk n j t).2.2.1, (f_Mo_isNotFor_1_3 ti nm xa it vs se rs wk n j t).2.2.2.1, (f_Mo_isNotFor_1_3 ti nm xa it vs se rs wk n j t).2.2.2.2.1, (f_Mo_isNotFor_1_3 ti nm xa it vs se rs wk n j t).2.2.2.2.2.1, (f_Mo_isNotFor_1_3 ti nm xa it vs se rs wk n j t).2.2.2.2.2.2))
set_option maxHeartbeats 4000000 in
set_option maxRecDepth 100000 in
theorem m_Mo_front_1 (l : Launch) (D : va_G) (cI cJ cZ cO : ClassId) (a : Nat) (code : Int32) (kn : Nat → Int32) (ed : Nat → Int32) (ct : Nat → Int32) (ti : Nat → Int32) (nm : Nat → Int32) (xa : Nat → Int32) (xb : Nat → Int32) (ma : Int32) (it : Nat → Int32) (vs : Nat → Int32) (se : Nat → Int32) (sm : Int64) (rs : Nat → Int64) (wk : Nat → Int32) (ors : Nat → Int64) (owk : Nat → Int32) (n : Nat) (j : Nat) (t : Int32) (hj : j < 4) (hlk : (f_Mo_lacks kn j t).1 = 0) (hk : kn j = 2) (hct : ct j = nI n) (hn : n ≤ 32) (R : Int32 × Int32 × Nat × (Nat → Int32) × (Nat → Int32) × (Nat → Int32) × Int64 × (Nat → Int64) × (Nat → Int32)) (hR : f_Mo_front_1 ti nm xa it vs se rs wk n j t = R) : Met l y_Md_front (k_Md_front :: gt) rm_Md_front (Pc0 D cI cJ cZ cO [.ref a, .int (nI j), .int t] (fun H => va_P D cls (wMo cI cJ cZ a code kn ed ct ti nm xa xb ma it vs se sm rs wk ors owk) H)) (Qd (blk a 15) (some (.int R.1)) (fun H => va_P D cls (wMo cI cJ cZ a R.2.1 kn ed ct ti nm xa xb (nI R.2.2.1) R.2.2.2.1 R.2.2.2.2.1 R.2.2.2.2.2.1 R.2.2.2.2.2.2.1 R.2.2.2.2.2.2.2.1 R.2.2.2.2.2.2.2.2 ors owk) H)) 0 0 (blk a 15) := by
  refine Met.ofW (cc := c_Md_front) (maxL := 3) (ret := (Option.some FieldType.int)) (by decide) rfl ?_
  intro p e s m args below meth c s₁ B hml hv
  obtain ⟨rfl, hKn, hP⟩ := hv
  have hx := B.exec
  have hb := B.bytes
  have hr := B.returns
  have hts := atoms_spec (ws := k_Md_front :: gt) B.pre
  have hg : ∀ w ∈ gt, w.before _ s = true := fun w h => hts w (List.mem_cons_of_mem _ h)
  have hown : s.vm.findClass R_Md = some m.cls := findClass_of_methodNamed B.named
  have hlocks := B.notSynchronized
  have hK := hKn.1
  have hl := lv_entry ([.ref a, .int (nI j), .int t]) (n := 3) (Nat.le_of_ble_eq_true rfl)
  rw [lg_entry_eq]
  generalize (lg_sl ([.ref a, .int (nI j), .int t]) ++ List.replicate (3 - (lg_sl ([.ref a, .int (nI j), .int t])).length) Slot.unset).toArray = ls at hl ⊢
  have hl : lv_has ls 3 [(0, .ref a), (1, .int (nI j)), (2, .int t)] := hl
  have hS : va_S (blk a 15) s.heap s.heap [] := va_S.rf
  have hD : va_D (blk a 15) (wMo cI cJ cZ a code kn ed ct ti nm xa xb ma it vs se sm rs wk ors owk) := (blk_D (wMo_in))
  have hR : (if (f_Mo_isNotFor_1_3 ti nm xa it vs se rs wk n j t).1 = 0 then ((0, 3, (f_Mo_isNotFor_1_3 ti nm xa it vs se rs wk n j t).1, (f_Mo_isNotFor_1_3 ti nm xa it vs se rs wk n j t).2.1, (f_Mo_isNotFor_1_3 ti nm xa it vs se rs wk n j t).2.2.1, (f_Mo_isNotFor_1_3 ti nm xa it vs se rs wk n j t).2.2.2.1, (f_Mo_isNotFor_1_3 ti nm xa it vs se rs wk n j t).2.2.2.2.1, (f_Mo_isNotFor_1_3 ti nm xa it vs se rs wk n j t).2.2.2.2.2.1, (f_Mo_isNotFor_1_3 ti nm xa it vs se rs wk n j t).2.2.2.2.2.2)) else ((((f_Mo_isNotFor_1_3 ti nm xa it vs se rs wk n j t).2.1) (f_Mo_nextOf_1 ((f_Mo_isNotFor_1_3 ti nm xa it vs se rs wk n j t).1)), 0, (f_Mo_isNotFor_1_3 ti nm xa it vs se rs wk n j t).1, (f_Mo_isNotFor_1_3 ti nm xa it vs se rs wk n j t).2.1, (f_Mo_isNotFor_1_3 ti nm xa it vs se rs wk n j t).2.2.1, (f_Mo_isNotFor_1_3 ti nm xa it vs se rs wk n j t).2.2.2.1, (f_Mo_isNotFor_1_3 ti nm xa it vs se rs wk n j t).2.2.2.2.1, (f_Mo_isNotFor_1_3 ti nm xa it vs se rs wk n j t).2.2.2.2.2.1, (f_Mo_isNotFor_1_3 ti nm xa it vs se rs wk n j t).2.2.2.2.2.2))) = R := hR
  refine lv_aload_n hx hb d_Md_front_0 rfl (lv_at hl 0 rfl) ?_
  refine lv_iload_n hx hb d_Md_front_1 rfl (lv_at hl 1 rfl) ?_
  refine lv_iload_n hx hb d_Md_front_2 rfl (lv_at hl 2 rfl) ?_
  refine lv_iconst (v := 3) hx hb d_Md_front_3 (by decide) ?_
  refine ep_callH (W.runV (As := [.int (nI j), .int t, .int 3]) (rest := []) ⟨hx, hb, hml, hown, hg⟩ (m_Mo_isNotFor_1_3 l D cI cJ cZ cO a code kn ed ct ti nm xa xb ma it vs se sm rs wk ors owk n j t (by omega) hlk hk hct (by omega) _ rfl) (ep_cwV 3 hg tw_828 tw_830 ts_16 tw_12 tk_Md_isNotFor rfl rfl (by decide +kernel) ⟨(Nat.le_of_ble_eq_true rfl), (Nat.le_of_ble_eq_true rfl)⟩) ⟨ep_blind, va_recv (q0 := 0) (ci := 9) hK hP rfl rfl, ep_pre hKn (hP)⟩ rfl rfl hl.1 rfl (lv_room (Nat.le_of_ble_eq_true rfl)) d_Md_front_4 ⟨Nat.zero_le _, Nat.zero_le _⟩) hS (fun q h => h) (fun H locs hsz9 hk1 hP1 hS => ?_)
  refine W.eq (g2 := F0 m 7 ls [.int 0]) rfl ?_
  have hP : va_P D cls (wMo cI cJ cZ a 0 kn ed ct ti nm xa xb (nI ((f_Mo_isNotFor_1_3 ti nm xa it vs se rs wk n j t).1)) ((f_Mo_isNotFor_1_3 ti nm xa it vs se rs wk n j t).2.1) ((f_Mo_isNotFor_1_3 ti nm xa it vs se rs wk n j t).2.2.1) ((f_Mo_isNotFor_1_3 ti nm xa it vs se rs wk n j t).2.2.2.1) ((f_Mo_isNotFor_1_3 ti nm xa it vs se rs wk n j t).2.2.2.2.1) ((f_Mo_isNotFor_1_3 ti nm xa it vs se rs wk n j t).2.2.2.2.2.1) ((f_Mo_isNotFor_1_3 ti nm xa it vs se rs wk n j t).2.2.2.2.2.2) ors owk) H := hP1
  have hD : va_D (blk a 15) (wMo cI cJ cZ a 0 kn ed ct ti nm xa xb (nI ((f_Mo_isNotFor_1_3 ti nm xa it vs se rs wk n j t).1)) ((f_Mo_isNotFor_1_3 ti nm xa it vs se rs wk n j t).2.1) ((f_Mo_isNotFor_1_3 ti nm xa it vs se rs wk n j t).2.2.1) ((f_Mo_isNotFor_1_3 ti nm xa it vs se rs wk n j t).2.2.2.1) ((f_Mo_isNotFor_1_3 ti nm xa it vs se rs wk n j t).2.2.2.2.1) ((f_Mo_isNotFor_1_3 ti nm xa it vs se rs wk n j t).2.2.2.2.2.1) ((f_Mo_isNotFor_1_3 ti nm xa it vs se rs wk n j t).2.2.2.2.2.2) ors owk) := (blk_D (wMo_in))
  have hm9 : (f_Mo_isNotFor_1_3 ti nm xa it vs se rs wk n j t).1 ≤ n := run_le_1 _ _ _ _ _ _ _ _ _ _ _
  refine lv_if_eq (tgt := 12) hx hb d_Md_front_7 (by decide) (fun hc => ?_) (fun hc => False.elim (by revert hc; decide))
  refine lv_aload_n hx hb d_Md_front_12 rfl (lv_at hl 0 rfl) ?_
  refine lv_aload_n hx hb d_Md_front_13 rfl (lv_at hl 0 rfl) ?_
  refine va_get (D := D) (ci := 9) (v := .int (nI ((f_Mo_isNotFor_1_3 ti nm xa it vs se rs wk n j t).1))) (C := R_Md) (T := F_Md) (N := 17) hx hb hg in_Md hown hK hP 0 rfl rfl 8 (Nat.le_of_ble_eq_true rfl) (hg _ tw_714) (fun _ h9 => h9) rfl d_Md_front_14 ?_
  refine lv_if_ne (tgt := 24) hx hb d_Md_front_17 (by decide) (fun hc1 => ?_) (fun hc1 => ?_)
  · have hc1 : ¬ ((f_Mo_isNotFor_1_3 ti nm xa it vs se rs wk n j t).1 = 0) := fun h9 => hc1 ((nI_eq (a := (f_Mo_isNotFor_1_3 ti nm xa it vs se rs wk n j t).1) (b := 0) (by omega) (by omega)).mpr h9)
    refine lv_iconst (v := 0) hx hb d_Md_front_24 (by decide) ?_
    refine va_put (D := D) (ci := 9) (v := .int 0) (ty := .int) (C := R_Md) (T := F_Md) (N := 17) hx hb hg in_Md t_Md t_Md_ok n_Md hown hK hP hD hS 0 rfl rfl 0 (Nat.le_of_ble_eq_true rfl) (hg _ tw_706) (fun _ h9 => h9) rfl (by decide +kernel) rfl rfl (Nat.le_of_ble_eq_true rfl) d_Md_front_25 (fun H locs hP hD hS => ?_)
    have hP : va_P D cls (wMo cI cJ cZ a 0 kn ed ct ti nm xa xb (nI ((f_Mo_isNotFor_1_3 ti nm xa it vs se rs wk n j t).1)) ((f_Mo_isNotFor_1_3 ti nm xa it vs se rs wk n j t).2.1) ((f_Mo_isNotFor_1_3 ti nm xa it vs se rs wk n j t).2.2.1) ((f_Mo_isNotFor_1_3 ti nm xa it vs se rs wk n j t).2.2.2.1) ((f_Mo_isNotFor_1_3 ti nm xa it vs se rs wk n j t).2.2.2.2.1) ((f_Mo_isNotFor_1_3 ti nm xa it vs se rs wk n j t).2.2.2.2.2.1) ((f_Mo_isNotFor_1_3 ti nm xa it vs se rs wk n j t).2.2.2.2.2.2) ors owk) H := hP
    have hD : va_D (blk a 15) (wMo cI cJ cZ a 0 kn ed ct ti nm xa xb (nI ((f_Mo_isNotFor_1_3 ti nm xa it vs se rs wk n j t).1)) ((f_Mo_isNotFor_1_3 ti nm xa it vs se rs wk n j t).2.1) ((f_Mo_isNotFor_1_3 ti nm xa it vs se rs wk n j t).2.2.1) ((f_Mo_isNotFor_1_3 ti nm xa it vs se rs wk n j t).2.2.2.1) ((f_Mo_isNotFor_1_3 ti nm xa it vs se rs wk n j t).2.2.2.2.1) ((f_Mo_isNotFor_1_3 ti nm xa it vs se rs wk n j t).2.2.2.2.2.1) ((f_Mo_isNotFor_1_3 ti nm xa it vs se rs wk n j t).2.2.2.2.2.2) ors owk) := hD
    refine lv_aload_n hx hb d_Md_front_28 rfl (lv_at hl 0 rfl) ?_
    refine va_get (D := D) (ci := 9) (v := .int 0) (C := R_Md) (T := F_Md) (N := 17) hx hb hg in_Md hown hK hP 0 rfl rfl 0 (Nat.le_of_ble_eq_true rfl) (hg _ tw_706) (fun _ h9 => h9) rfl d_Md_front_29 ?_
    refine lv_if_le (tgt := 39) hx hb d_Md_front_32 (by decide) (fun hc => ?_) (fun hc => False.elim (by revert hc; decide))
    refine lv_aload_n hx hb d_Md_front_39 rfl (lv_at hl 0 rfl) ?_
    refine va_get (D := D) (ci := 9) (v := .ref (a + 8)) (C := R_Md) (T := F_Md) (N := 17) hx hb hg in_Md hown hK hP 0 rfl rfl 9 (Nat.le_of_ble_eq_true rfl) (hg _ tw_715) (fun _ h9 => h9) rfl d_Md_front_40 ?_
    refine lv_aload_n hx hb d_Md_front_43 rfl (lv_at hl 0 rfl) ?_
    refine lv_aload_n hx hb d_Md_front_44 rfl (lv_at hl 0 rfl) ?_
    refine lv_iload_n hx hb d_Md_front_45 rfl (lv_at hl 1 rfl) ?_
    refine ep_callP (W.runV (As := [.int (nI j)]) (rest := [.ref a, .ref (a + 8)]) ⟨hx, hb, hml, hown, hg⟩ (m_Mo_kindOf l D cI cJ cZ cO a 0 kn ed ct ti nm xa xb (nI ((f_Mo_isNotFor_1_3 ti nm xa it vs se rs wk n j t).1)) ((f_Mo_isNotFor_1_3 ti nm xa it vs se rs wk n j t).2.1) ((f_Mo_isNotFor_1_3 ti nm xa it vs se rs wk n j t).2.2.1) ((f_Mo_isNotFor_1_3 ti nm xa it vs se rs wk n j t).2.2.2.1) ((f_Mo_isNotFor_1_3 ti nm xa it vs se rs wk n j t).2.2.2.2.1) ((f_Mo_isNotFor_1_3 ti nm xa it vs se rs wk n j t).2.2.2.2.2.1) ((f_Mo_isNotFor_1_3 ti nm xa it vs se rs wk n j t).2.2.2.2.2.2) ors owk j (by omega) _ rfl) (ep_cwV 1 hg tw_789 tw_791 ts_11 tw_12 tk_Md_kindOf rfl rfl (by decide +kernel) ⟨(Nat.le_of_ble_eq_true rfl), (Nat.le_of_ble_eq_true rfl)⟩) ⟨ep_blind, va_recv (q0 := 0) (ci := 9) hK hP rfl rfl, ep_pre hKn (hP)⟩ rfl rfl hl.1 rfl (lv_room (Nat.le_of_ble_eq_true rfl)) d_Md_front_46 ⟨Nat.zero_le _, Nat.zero_le _⟩) ?_
    refine W.eq (g2 := F0 m 49 ls [.int (f_Mo_kindOf kn j), .ref a, .ref (a + 8)]) rfl ?_
    refine lv_topi (fun z9 e_z9 => ?_)
    obtain rfl : z9 = 1 := by rw [e_z9]; exact (by rw [show f_Mo_kindOf kn j = kn j - 1 from rfl, hk]; decide)
    refine ep_callP (W.runV (As := [.int 1]) (rest := [.ref (a + 8)]) ⟨hx, hb, hml, hown, hg⟩ (m_Mo_nextOf_1 l D cI cJ cZ cO a 0 kn ed ct ti nm xa xb ((f_Mo_isNotFor_1_3 ti nm xa it vs se rs wk n j t).1) ((f_Mo_isNotFor_1_3 ti nm xa it vs se rs wk n j t).2.1) ((f_Mo_isNotFor_1_3 ti nm xa it vs se rs wk n j t).2.2.1) ((f_Mo_isNotFor_1_3 ti nm xa it vs se rs wk n j t).2.2.2.1) ((f_Mo_isNotFor_1_3 ti nm xa it vs se rs wk n j t).2.2.2.2.1) ((f_Mo_isNotFor_1_3 ti nm xa it vs se rs wk n j t).2.2.2.2.2.1) ((f_Mo_isNotFor_1_3 ti nm xa it vs se rs wk n j t).2.2.2.2.2.2) ors owk (by omega) (by omega) _ rfl) (ep_cwV 1 hg tw_856 tw_858 ts_23 tw_12 tk_Md_nextOf rfl rfl (by decide +kernel) ⟨(Nat.le_of_ble_eq_true rfl), (Nat.le_of_ble_eq_true rfl)⟩) ⟨ep_blind, va_recv (q0 := 0) (ci := 9) hK hP rfl rfl, ep_pre hKn (hP)⟩ rfl rfl hl.1 rfl (lv_room (Nat.le_of_ble_eq_true rfl)) d_Md_front_49 ⟨Nat.zero_le _, Nat.zero_le _⟩) ?_
    refine W.eq (g2 := F0 m 52 ls [.int (nI (f_Mo_nextOf_1 ((f_Mo_isNotFor_1_3 ti nm xa it vs se rs wk n j t).1))), .ref (a + 8)]) rfl ?_
    have hp9 : (f_Mo_nextOf_1 ((f_Mo_isNotFor_1_3 ti nm xa it vs se rs wk n j t).1)) < (f_Mo_isNotFor_1_3 ti nm xa it vs se rs wk n j t).1 := nx1_lt _ (by omega)
    refine ep_iald hx hb hK hP 8 0 rfl rfl (i := (f_Mo_nextOf_1 ((f_Mo_isNotFor_1_3 ti nm xa it vs se rs wk n j t).1))) (by omega) (by decide) d_Md_front_52 ?_
    rw [if_neg hc1] at hR
    subst hR
    exact W.iret (v := (((f_Mo_isNotFor_1_3 ti nm xa it vs se rs wk n j t).2.1) (f_Mo_nextOf_1 ((f_Mo_isNotFor_1_3 ti nm xa it vs se rs wk n j t).1)))) hx hb hr (fun t9 ht hW => ⟨rfl, hS.F ht, by rw [ht]; exact hP⟩) hS.2.2 d_Md_front_53
  · have hc1 : (f_Mo_isNotFor_1_3 ti nm xa it vs se rs wk n j t).1 = 0 := (nI_eq (a := (f_Mo_isNotFor_1_3 ti nm xa it vs se rs wk n j t).1) (b := 0) (by omega) (by omega)).mp hc1
    refine lv_iconst (v := 3) hx hb d_Md_front_20 (by decide) ?_
    refine lv_goto (tgt := 25) hx hb d_Md_front_21 (by decide) ?_
    refine va_put (D := D) (ci := 9) (v := .int 3) (ty := .int) (C := R_Md) (T := F_Md) (N := 17) hx hb hg in_Md t_Md t_Md_ok n_Md hown hK hP hD hS 0 rfl rfl 0 (Nat.le_of_ble_eq_true rfl) (hg _ tw_706) (fun _ h9 => h9) rfl (by decide +kernel) rfl rfl (Nat.le_of_ble_eq_true rfl) d_Md_front_25 (fun H locs hP hD hS => ?_)
    have hP : va_P D cls (wMo cI cJ cZ a 3 kn ed ct ti nm xa xb (nI ((f_Mo_isNotFor_1_3 ti nm xa it vs se rs wk n j t).1)) ((f_Mo_isNotFor_1_3 ti nm xa it vs se rs wk n j t).2.1) ((f_Mo_isNotFor_1_3 ti nm xa it vs se rs wk n j t).2.2.1) ((f_Mo_isNotFor_1_3 ti nm xa it vs se rs wk n j t).2.2.2.1) ((f_Mo_isNotFor_1_3 ti nm xa it vs se rs wk n j t).2.2.2.2.1) ((f_Mo_isNotFor_1_3 ti nm xa it vs se rs wk n j t).2.2.2.2.2.1) ((f_Mo_isNotFor_1_3 ti nm xa it vs se rs wk n j t).2.2.2.2.2.2) ors owk) H := hP
    have hD : va_D (blk a 15) (wMo cI cJ cZ a 3 kn ed ct ti nm xa xb (nI ((f_Mo_isNotFor_1_3 ti nm xa it vs se rs wk n j t).1)) ((f_Mo_isNotFor_1_3 ti nm xa it vs se rs wk n j t).2.1) ((f_Mo_isNotFor_1_3 ti nm xa it vs se rs wk n j t).2.2.1) ((f_Mo_isNotFor_1_3 ti nm xa it vs se rs wk n j t).2.2.2.1) ((f_Mo_isNotFor_1_3 ti nm xa it vs se rs wk n j t).2.2.2.2.1) ((f_Mo_isNotFor_1_3 ti nm xa it vs se rs wk n j t).2.2.2.2.2.1) ((f_Mo_isNotFor_1_3 ti nm xa it vs se rs wk n j t).2.2.2.2.2.2) ors owk) := hD
    refine lv_aload_n hx hb d_Md_front_28 rfl (lv_at hl 0 rfl) ?_
    refine va_get (D := D) (ci := 9) (v := .int 3) (C := R_Md) (T := F_Md) (N := 17) hx hb hg in_Md hown hK hP 0 rfl rfl 0 (Nat.le_of_ble_eq_true rfl) (hg _ tw_706) (fun _ h9 => h9) rfl d_Md_front_29 ?_
    refine lv_if_le (tgt := 39) hx hb d_Md_front_32 (by decide) (fun hc => False.elim (by revert hc; decide)) (fun hc => ?_)
    refine lv_iconst (v := 0) hx hb d_Md_front_35 (by decide) ?_
    refine lv_goto (tgt := 53) hx hb d_Md_front_36 (by decide) ?_
    rw [if_pos hc1] at hR
    subst hR
    exact W.iret (v := 0) hx hb hr (fun t9 ht hW => ⟨rfl, hS.F ht, by rw [ht]; exact hP⟩) hS.2.2 d_Md_front_53

def f_Mo_size_e (kn : Nat → Int32) (j : Nat) (t : Int32) : Int32 := (f_Mo_isNotFor_e kn j t)
set_option maxHeartbeats 4000000 in
set_option maxRecDepth 100000 in
theorem m_Mo_size_e (l : Launch) (D : va_G) (cI cJ cZ cO : ClassId) (a : Nat) (code : Int32) (kn : Nat → Int32) (ed : Nat → Int32) (ct : Nat → Int32) (ti : Nat → Int32) (nm : Nat → Int32) (xa : Nat → Int32) (xb : Nat → Int32) (ma : Int32) (it : Nat → Int32) (vs : Nat → Int32) (se : Nat → Int32) (sm : Int64) (rs : Nat → Int64) (wk : Nat → Int32) (ors : Nat → Int64) (owk : Nat → Int32) (j : Nat) (t : Int32) (hj : j < 4) (hlk : ¬ (f_Mo_lacks kn j t).1 = 0) (R : Int32) (hR : f_Mo_size_e kn j t = R) : Met l y_Md_size (k_Md_size :: gt) rm_Md_size (Pc0 D cI cJ cZ cO [.ref a, .int (nI j), .int t] (fun H => va_P D cls (wMo cI cJ cZ a code kn ed ct ti nm xa xb ma it vs se sm rs wk ors owk) H)) (Qd (blk a 15) (some (.int 0)) (fun H => va_P D cls (wMo cI cJ cZ a R kn ed ct ti nm xa xb ma it vs se sm rs wk ors owk) H)) 0 0 (blk a 15) := by
  refine Met.ofW (cc := c_Md_size) (maxL := 3) (ret := (Option.some FieldType.int)) (by decide) rfl ?_
  intro p e s m args below meth c s₁ B hml hv
  obtain ⟨rfl, hKn, hP⟩ := hv
  have hx := B.exec
  have hb := B.bytes
  have hr := B.returns
  have hts := atoms_spec (ws := k_Md_size :: gt) B.pre
  have hg : ∀ w ∈ gt, w.before _ s = true := fun w h => hts w (List.mem_cons_of_mem _ h)
  have hown : s.vm.findClass R_Md = some m.cls := findClass_of_methodNamed B.named
  have hlocks := B.notSynchronized
  have hK := hKn.1
  have hl := lv_entry ([.ref a, .int (nI j), .int t]) (n := 3) (Nat.le_of_ble_eq_true rfl)
  rw [lg_entry_eq]
  generalize (lg_sl ([.ref a, .int (nI j), .int t]) ++ List.replicate (3 - (lg_sl ([.ref a, .int (nI j), .int t])).length) Slot.unset).toArray = ls at hl ⊢
  have hl : lv_has ls 3 [(0, .ref a), (1, .int (nI j)), (2, .int t)] := hl
  have hS : va_S (blk a 15) s.heap s.heap [] := va_S.rf
  have hD : va_D (blk a 15) (wMo cI cJ cZ a code kn ed ct ti nm xa xb ma it vs se sm rs wk ors owk) := (blk_D (wMo_in))
  have hR : ((f_Mo_isNotFor_e kn j t)) = R := hR
  refine lv_aload_n hx hb d_Md_size_0 rfl (lv_at hl 0 rfl) ?_
  refine lv_iload_n hx hb d_Md_size_1 rfl (lv_at hl 1 rfl) ?_
  refine lv_iload_n hx hb d_Md_size_2 rfl (lv_at hl 2 rfl) ?_
  refine lv_bipush (v := 47) hx hb d_Md_size_3 (by decide) ?_
  refine ep_callH (W.runV (As := [.int (nI j), .int t, .int 47]) (rest := []) ⟨hx, hb, hml, hown, hg⟩ (m_Mo_isNotFor_e l D cI cJ cZ cO a code kn ed ct ti nm xa xb ma it vs se sm rs wk ors owk j t 47 (by omega) hlk _ rfl) (ep_cwV 3 hg tw_828 tw_830 ts_16 tw_12 tk_Md_isNotFor rfl rfl (by decide +kernel) ⟨(Nat.le_of_ble_eq_true rfl), (Nat.le_of_ble_eq_true rfl)⟩) ⟨ep_blind, va_recv (q0 := 0) (ci := 9) hK hP rfl rfl, ep_pre hKn (hP)⟩ rfl rfl hl.1 rfl (lv_room (Nat.le_of_ble_eq_true rfl)) d_Md_size_5 ⟨Nat.zero_le _, Nat.zero_le _⟩) hS (fun q h => h) (fun H locs hsz9 hk1 hP1 hS => ?_)
  refine W.eq (g2 := F0 m 8 ls [.int 1]) rfl ?_
  have hP : va_P D cls (wMo cI cJ cZ a (f_Mo_isNotFor_e kn j t) kn ed ct ti nm xa xb ma it vs se sm rs wk ors owk) H := hP1
  have hD : va_D (blk a 15) (wMo cI cJ cZ a (f_Mo_isNotFor_e kn j t) kn ed ct ti nm xa xb ma it vs se sm rs wk ors owk) := (blk_D (wMo_in))
  refine lv_if_eq (tgt := 15) hx hb d_Md_size_8 (by decide) (fun hc => False.elim (by revert hc; decide)) (fun hc => ?_)
  refine lv_iconst (v := 0) hx hb d_Md_size_11 (by decide) ?_
  refine lv_goto (tgt := 19) hx hb d_Md_size_12 (by decide) ?_
  subst hR
  exact W.iret (v := 0) hx hb hr (fun t9 ht hW => ⟨rfl, hS.F ht, by rw [ht]; exact hP⟩) hS.2.2 d_Md_size_19

def f_Mo_size_b  : Int32 := f_Mo_isNotFor_b
set_option maxHeartbeats 4000000 in
set_option maxRecDepth 100000 in
theorem m_Mo_size_b (l : Launch) (D : va_G) (cI cJ cZ cO : ClassId) (a : Nat) (code : Int32) (kn : Nat → Int32) (ed : Nat → Int32) (ct : Nat → Int32) (ti : Nat → Int32) (nm : Nat → Int32) (xa : Nat → Int32) (xb : Nat → Int32) (ma : Int32) (it : Nat → Int32) (vs : Nat → Int32) (se : Nat → Int32) (sm : Int64) (rs : Nat → Int64) (wk : Nat → Int32) (ors : Nat → Int64) (owk : Nat → Int32) (id : Int32) (t : Int32) (hid : ¬ okI id) (R : Int32) (hR : f_Mo_size_b = R) : Met l y_Md_size (k_Md_size :: gt) rm_Md_size (Pc0 D cI cJ cZ cO [.ref a, .int id, .int t] (fun H => va_P D cls (wMo cI cJ cZ a code kn ed ct ti nm xa xb ma it vs se sm rs wk ors owk) H)) (Qd (blk a 15) (some (.int 0)) (fun H => va_P D cls (wMo cI cJ cZ a R kn ed ct ti nm xa xb ma it vs se sm rs wk ors owk) H)) 0 0 (blk a 15) := by
  refine Met.ofW (cc := c_Md_size) (maxL := 3) (ret := (Option.some FieldType.int)) (by decide) rfl ?_
  intro p e s m args below meth c s₁ B hml hv
  obtain ⟨rfl, hKn, hP⟩ := hv
  have hx := B.exec
  have hb := B.bytes
  have hr := B.returns
  have hts := atoms_spec (ws := k_Md_size :: gt) B.pre
  have hg : ∀ w ∈ gt, w.before _ s = true := fun w h => hts w (List.mem_cons_of_mem _ h)
  have hown : s.vm.findClass R_Md = some m.cls := findClass_of_methodNamed B.named
  have hlocks := B.notSynchronized
  have hK := hKn.1
  have hl := lv_entry ([.ref a, .int id, .int t]) (n := 3) (Nat.le_of_ble_eq_true rfl)
  rw [lg_entry_eq]
  generalize (lg_sl ([.ref a, .int id, .int t]) ++ List.replicate (3 - (lg_sl ([.ref a, .int id, .int t])).length) Slot.unset).toArray = ls at hl ⊢
  have hl : lv_has ls 3 [(0, .ref a), (1, .int id), (2, .int t)] := hl
  have hS : va_S (blk a 15) s.heap s.heap [] := va_S.rf
  have hD : va_D (blk a 15) (wMo cI cJ cZ a code kn ed ct ti nm xa xb ma it vs se sm rs wk ors owk) := (blk_D (wMo_in))
  have hR : (f_Mo_isNotFor_b) = R := hR
  refine lv_aload_n hx hb d_Md_size_0 rfl (lv_at hl 0 rfl) ?_
  refine lv_iload_n hx hb d_Md_size_1 rfl (lv_at hl 1 rfl) ?_
  refine lv_iload_n hx hb d_Md_size_2 rfl (lv_at hl 2 rfl) ?_
  refine lv_bipush (v := 47) hx hb d_Md_size_3 (by decide) ?_
  refine ep_callH (W.runV (As := [.int id, .int t, .int 47]) (rest := []) ⟨hx, hb, hml, hown, hg⟩ (m_Mo_isNotFor_b l D cI cJ cZ cO a code kn ed ct ti nm xa xb ma it vs se sm rs wk ors owk id t 47 hid _ rfl) (ep_cwV 3 hg tw_828 tw_830 ts_16 tw_12 tk_Md_isNotFor rfl rfl (by decide +kernel) ⟨(Nat.le_of_ble_eq_true rfl), (Nat.le_of_ble_eq_true rfl)⟩) ⟨ep_blind, va_recv (q0 := 0) (ci := 9) hK hP rfl rfl, ep_pre hKn (hP)⟩ rfl rfl hl.1 rfl (lv_room (Nat.le_of_ble_eq_true rfl)) d_Md_size_5 ⟨Nat.zero_le _, Nat.zero_le _⟩) hS (fun q h => h) (fun H locs hsz9 hk1 hP1 hS => ?_)
  refine W.eq (g2 := F0 m 8 ls [.int 1]) rfl ?_
  have hP : va_P D cls (wMo cI cJ cZ a f_Mo_isNotFor_b kn ed ct ti nm xa xb ma it vs se sm rs wk ors owk) H := hP1
  have hD : va_D (blk a 15) (wMo cI cJ cZ a f_Mo_isNotFor_b kn ed ct ti nm xa xb ma it vs se sm rs wk ors owk) := (blk_D (wMo_in))
  refine lv_if_eq (tgt := 15) hx hb d_Md_size_8 (by decide) (fun hc => False.elim (by revert hc; decide)) (fun hc => ?_)
  refine lv_iconst (v := 0) hx hb d_Md_size_11 (by decide) ?_
  refine lv_goto (tgt := 19) hx hb d_Md_size_12 (by decide) ?_
  subst hR
  exact W.iret (v := 0) hx hb hr (fun t9 ht hW => ⟨rfl, hS.F ht, by rw [ht]; exact hP⟩) hS.2.2 d_Md_size_19

def f_Mo_size_w  : Unit := ()
set_option maxHeartbeats 4000000 in
set_option maxRecDepth 100000 in
theorem m_Mo_size_w (l : Launch) (D : va_G) (cI cJ cZ cO : ClassId) (a : Nat) (code : Int32) (kn : Nat → Int32) (ed : Nat → Int32) (ct : Nat → Int32) (ti : Nat → Int32) (nm : Nat → Int32) (xa : Nat → Int32) (xb : Nat → Int32) (ma : Int32) (it : Nat → Int32) (vs : Nat → Int32) (se : Nat → Int32) (sm : Int64) (rs : Nat → Int64) (wk : Nat → Int32) (ors : Nat → Int64) (owk : Nat → Int32) (j : Nat) (t : Int32) (hj : j < 4) (hlk : (f_Mo_lacks kn j t).1 = 0) (hw : ¬ ((47 >>> (((kn j) - 1) &&& 31)) &&& 1) = 1) (R : Unit) (hR : f_Mo_size_w = R) : Met l y_Md_size (k_Md_size :: gt) rm_Md_size (Pc0 D cI cJ cZ cO [.ref a, .int (nI j), .int t] (fun H => va_P D cls (wMo cI cJ cZ a code kn ed ct ti nm xa xb ma it vs se sm rs wk ors owk) H)) (Qd (blk a 15) (some (.int 0)) (fun H => va_P D cls (wMo cI cJ cZ a 2 kn ed ct ti nm xa xb ma it vs se sm rs wk ors owk) H)) 0 0 (blk a 15) := by
  refine Met.ofW (cc := c_Md_size) (maxL := 3) (ret := (Option.some FieldType.int)) (by decide) rfl ?_
  intro p e s m args below meth c s₁ B hml hv
  obtain ⟨rfl, hKn, hP⟩ := hv
  have hx := B.exec
  have hb := B.bytes
  have hr := B.returns
  have hts := atoms_spec (ws := k_Md_size :: gt) B.pre
  have hg : ∀ w ∈ gt, w.before _ s = true := fun w h => hts w (List.mem_cons_of_mem _ h)
  have hown : s.vm.findClass R_Md = some m.cls := findClass_of_methodNamed B.named
  have hlocks := B.notSynchronized
  have hK := hKn.1
  have hl := lv_entry ([.ref a, .int (nI j), .int t]) (n := 3) (Nat.le_of_ble_eq_true rfl)
  rw [lg_entry_eq]
  generalize (lg_sl ([.ref a, .int (nI j), .int t]) ++ List.replicate (3 - (lg_sl ([.ref a, .int (nI j), .int t])).length) Slot.unset).toArray = ls at hl ⊢
  have hl : lv_has ls 3 [(0, .ref a), (1, .int (nI j)), (2, .int t)] := hl
  have hS : va_S (blk a 15) s.heap s.heap [] := va_S.rf
  have hD : va_D (blk a 15) (wMo cI cJ cZ a code kn ed ct ti nm xa xb ma it vs se sm rs wk ors owk) := (blk_D (wMo_in))
  have hR : (()) = R := hR
  refine lv_aload_n hx hb d_Md_size_0 rfl (lv_at hl 0 rfl) ?_
  refine lv_iload_n hx hb d_Md_size_1 rfl (lv_at hl 1 rfl) ?_
  refine lv_iload_n hx hb d_Md_size_2 rfl (lv_at hl 2 rfl) ?_
  refine lv_bipush (v := 47) hx hb d_Md_size_3 (by decide) ?_
  refine ep_callH (W.runV (As := [.int (nI j), .int t, .int 47]) (rest := []) ⟨hx, hb, hml, hown, hg⟩ (m_Mo_isNotFor_w l D cI cJ cZ cO a code kn ed ct ti nm xa xb ma it vs se sm rs wk ors owk j t 47 (by omega) hlk hw _ rfl) (ep_cwV 3 hg tw_828 tw_830 ts_16 tw_12 tk_Md_isNotFor rfl rfl (by decide +kernel) ⟨(Nat.le_of_ble_eq_true rfl), (Nat.le_of_ble_eq_true rfl)⟩) ⟨ep_blind, va_recv (q0 := 0) (ci := 9) hK hP rfl rfl, ep_pre hKn (hP)⟩ rfl rfl hl.1 rfl (lv_room (Nat.le_of_ble_eq_true rfl)) d_Md_size_5 ⟨Nat.zero_le _, Nat.zero_le _⟩) hS (fun q h => h) (fun H locs hsz9 hk1 hP1 hS => ?_)
  refine W.eq (g2 := F0 m 8 ls [.int 1]) rfl ?_
  have hP : va_P D cls (wMo cI cJ cZ a 2 kn ed ct ti nm xa xb ma it vs se sm rs wk ors owk) H := hP1
  have hD : va_D (blk a 15) (wMo cI cJ cZ a 2 kn ed ct ti nm xa xb ma it vs se sm rs wk ors owk) := (blk_D (wMo_in))
  refine lv_if_eq (tgt := 15) hx hb d_Md_size_8 (by decide) (fun hc => False.elim (by revert hc; decide)) (fun hc => ?_)
  refine lv_iconst (v := 0) hx hb d_Md_size_11 (by decide) ?_
  refine lv_goto (tgt := 19) hx hb d_Md_size_12 (by decide) ?_
  subst hR
  exact W.iret (v := 0) hx hb hr (fun t9 ht hW => ⟨rfl, hS.F ht, by rw [ht]; exact hP⟩) hS.2.2 d_Md_size_19

def f_Mo_size_0 (ti : Nat → Int32) (nm : Nat → Int32) (xa : Nat → Int32) (it : Nat → Int32) (vs : Nat → Int32) (se : Nat → Int32) (rs : Nat → Int64) (wk : Nat → Int32) (n : Nat) (j : Nat) (t : Int32) : Nat × Nat × (Nat → Int32) × (Nat → Int32) × (Nat → Int32) × Int64 × (Nat → Int64) × (Nat → Int32) := ((f_Mo_isNotFor_0_47 ti nm xa it vs se rs wk n j t).1, (f_Mo_isNotFor_0_47 ti nm xa it vs se rs wk n j t).1, (f_Mo_isNotFor_0_47 ti nm xa it vs se rs wk n j t).2.1, (f_Mo_isNotFor_0_47 ti nm xa it vs se rs wk n j t).2.2.1, (f_Mo_isNotFor_0_47 ti nm xa it vs se rs wk n j t).2.2.2.1, (f_Mo_isNotFor_0_47 ti nm xa it vs se rs wk n j t).2.2.2.2.1, (f_Mo_isNotFor_0_47 ti nm xa it vs se rs wk n j t).2.2.2.2.2.1, (f_Mo_isNotFor_0_47 ti nm xa it vs se rs wk n j t).2.2.2.2.2.2)
set_option maxHeartbeats 4000000 in
set_option maxRecDepth 100000 in
theorem m_Mo_size_0 (l : Launch) (D : va_G) (cI cJ cZ cO : ClassId) (a : Nat) (code : Int32) (kn : Nat → Int32) (ed : Nat → Int32) (ct : Nat → Int32) (ti : Nat → Int32) (nm : Nat → Int32) (xa : Nat → Int32) (xb : Nat → Int32) (ma : Int32) (it : Nat → Int32) (vs : Nat → Int32) (se : Nat → Int32) (sm : Int64) (rs : Nat → Int64) (wk : Nat → Int32) (ors : Nat → Int64) (owk : Nat → Int32) (n : Nat) (j : Nat) (t : Int32) (hj : j < 4) (hlk : (f_Mo_lacks kn j t).1 = 0) (hk : kn j = 1) (hct : ct j = nI n) (hn : n ≤ 32) (R : Nat × Nat × (Nat → Int32) × (Nat → Int32) × (Nat → Int32) × Int64 × (Nat → Int64) × (Nat → Int32)) (hR : f_Mo_size_0 ti nm xa it vs se rs wk n j t = R) : Met l y_Md_size (k_Md_size :: gt) rm_Md_size (Pc0 D cI cJ cZ cO [.ref a, .int (nI j), .int t] (fun H => va_P D cls (wMo cI cJ cZ a code kn ed ct ti nm xa xb ma it vs se sm rs wk ors owk) H)) (Qd (blk a 15) (some (.int (nI R.1))) (fun H => va_P D cls (wMo cI cJ cZ a 0 kn ed ct ti nm xa xb (nI R.2.1) R.2.2.1 R.2.2.2.1 R.2.2.2.2.1 R.2.2.2.2.2.1 R.2.2.2.2.2.2.1 R.2.2.2.2.2.2.2 ors owk) H)) 0 0 (blk a 15) := by
  refine Met.ofW (cc := c_Md_size) (maxL := 3) (ret := (Option.some FieldType.int)) (by decide) rfl ?_
  intro p e s m args below meth c s₁ B hml hv
  obtain ⟨rfl, hKn, hP⟩ := hv
  have hx := B.exec
  have hb := B.bytes
  have hr := B.returns
  have hts := atoms_spec (ws := k_Md_size :: gt) B.pre
  have hg : ∀ w ∈ gt, w.before _ s = true := fun w h => hts w (List.mem_cons_of_mem _ h)
  have hown : s.vm.findClass R_Md = some m.cls := findClass_of_methodNamed B.named
  have hlocks := B.notSynchronized
  have hK := hKn.1
  have hl := lv_entry ([.ref a, .int (nI j), .int t]) (n := 3) (Nat.le_of_ble_eq_true rfl)
  rw [lg_entry_eq]
  generalize (lg_sl ([.ref a, .int (nI j), .int t]) ++ List.replicate (3 - (lg_sl ([.ref a, .int (nI j), .int t])).length) Slot.unset).toArray = ls at hl ⊢
  have hl : lv_has ls 3 [(0, .ref a), (1, .int (nI j)), (2, .int t)] := hl
  have hS : va_S (blk a 15) s.heap s.heap [] := va_S.rf
  have hD : va_D (blk a 15) (wMo cI cJ cZ a code kn ed ct ti nm xa xb ma it vs se sm rs wk ors owk) := (blk_D (wMo_in))
  have hR : (((f_Mo_isNotFor_0_47 ti nm xa it vs se rs wk n j t).1, (f_Mo_isNotFor_0_47 ti nm xa it vs se rs wk n j t).1, (f_Mo_isNotFor_0_47 ti nm xa it vs se rs wk n j t).2.1, (f_Mo_isNotFor_0_47 ti nm xa it vs se rs wk n j t).2.2.1, (f_Mo_isNotFor_0_47 ti nm xa it vs se rs wk n j t).2.2.2.1, (f_Mo_isNotFor_0_47 ti nm xa it vs se rs wk n j t).2.2.2.2.1, (f_Mo_isNotFor_0_47 ti nm xa it vs se rs wk n j t).2.2.2.2.2.1, (f_Mo_isNotFor_0_47 ti nm xa it vs se rs wk n j t).2.2.2.2.2.2)) = R := hR
  refine lv_aload_n hx hb d_Md_size_0 rfl (lv_at hl 0 rfl) ?_
  refine lv_iload_n hx hb d_Md_size_1 rfl (lv_at hl 1 rfl) ?_
  refine lv_iload_n hx hb d_Md_size_2 rfl (lv_at hl 2 rfl) ?_
  refine lv_bipush (v := 47) hx hb d_Md_size_3 (by decide) ?_
  refine ep_callH (W.runV (As := [.int (nI j), .int t, .int 47]) (rest := []) ⟨hx, hb, hml, hown, hg⟩ (m_Mo_isNotFor_0_47 l D cI cJ cZ cO a code kn ed ct ti nm xa xb ma it vs se sm rs wk ors owk n j t (by omega) hlk hk hct (by omega) _ rfl) (ep_cwV 3 hg tw_828 tw_830 ts_16 tw_12 tk_Md_isNotFor rfl rfl (by decide +kernel) ⟨(Nat.le_of_ble_eq_true rfl), (Nat.le_of_ble_eq_true rfl)⟩) ⟨ep_blind, va_recv (q0 := 0) (ci := 9) hK hP rfl rfl, ep_pre hKn (hP)⟩ rfl rfl hl.1 rfl (lv_room (Nat.le_of_ble_eq_true rfl)) d_Md_size_5 ⟨Nat.zero_le _, Nat.zero_le _⟩) hS (fun q h => h) (fun H locs hsz9 hk1 hP1 hS => ?_)
  refine W.eq (g2 := F0 m 8 ls [.int 0]) rfl ?_
  have hP : va_P D cls (wMo cI cJ cZ a 0 kn ed ct ti nm xa xb (nI ((f_Mo_isNotFor_0_47 ti nm xa it vs se rs wk n j t).1)) ((f_Mo_isNotFor_0_47 ti nm xa it vs se rs wk n j t).2.1) ((f_Mo_isNotFor_0_47 ti nm xa it vs se rs wk n j t).2.2.1) ((f_Mo_isNotFor_0_47 ti nm xa it vs se rs wk n j t).2.2.2.1) ((f_Mo_isNotFor_0_47 ti nm xa it vs se rs wk n j t).2.2.2.2.1) ((f_Mo_isNotFor_0_47 ti nm xa it vs se rs wk n j t).2.2.2.2.2.1) ((f_Mo_isNotFor_0_47 ti nm xa it vs se rs wk n j t).2.2.2.2.2.2) ors owk) H := hP1
  have hD : va_D (blk a 15) (wMo cI cJ cZ a 0 kn ed ct ti nm xa xb (nI ((f_Mo_isNotFor_0_47 ti nm xa it vs se rs wk n j t).1)) ((f_Mo_isNotFor_0_47 ti nm xa it vs se rs wk n j t).2.1) ((f_Mo_isNotFor_0_47 ti nm xa it vs se rs wk n j t).2.2.1) ((f_Mo_isNotFor_0_47 ti nm xa it vs se rs wk n j t).2.2.2.1) ((f_Mo_isNotFor_0_47 ti nm xa it vs se rs wk n j t).2.2.2.2.1) ((f_Mo_isNotFor_0_47 ti nm xa it vs se rs wk n j t).2.2.2.2.2.1) ((f_Mo_isNotFor_0_47 ti nm xa it vs se rs wk n j t).2.2.2.2.2.2) ors owk) := (blk_D (wMo_in))
  refine lv_if_eq (tgt := 15) hx hb d_Md_size_8 (by decide) (fun hc => ?_) (fun hc => False.elim (by revert hc; decide))
  refine lv_aload_n hx hb d_Md_size_15 rfl (lv_at hl 0 rfl) ?_
  refine va_get (D := D) (ci := 9) (v := .int (nI ((f_Mo_isNotFor_0_47 ti nm xa it vs se rs wk n j t).1))) (C := R_Md) (T := F_Md) (N := 17) hx hb hg in_Md hown hK hP 0 rfl rfl 8 (Nat.le_of_ble_eq_true rfl) (hg _ tw_714) (fun _ h9 => h9) rfl d_Md_size_16 ?_
  subst hR
  exact W.iret (v := (nI ((f_Mo_isNotFor_0_47 ti nm xa it vs se rs wk n j t).1))) hx hb hr (fun t9 ht hW => ⟨rfl, hS.F ht, by rw [ht]; exact hP⟩) hS.2.2 d_Md_size_19

def f_Mo_size_1 (ti : Nat → Int32) (nm : Nat → Int32) (xa : Nat → Int32) (it : Nat → Int32) (vs : Nat → Int32) (se : Nat → Int32) (rs : Nat → Int64) (wk : Nat → Int32) (n : Nat) (j : Nat) (t : Int32) : Nat × Nat × (Nat → Int32) × (Nat → Int32) × (Nat → Int32) × Int64 × (Nat → Int64) × (Nat → Int32) := ((f_Mo_isNotFor_1_47 ti nm xa it vs se rs wk n j t).1, (f_Mo_isNotFor_1_47 ti nm xa it vs se rs wk n j t).1, (f_Mo_isNotFor_1_47 ti nm xa it vs se rs wk n j t).2.1, (f_Mo_isNotFor_1_47 ti nm xa it vs se rs wk n j t).2.2.1, (f_Mo_isNotFor_1_47 ti nm xa it vs se rs wk n j t).2.2.2.1, (f_Mo_isNotFor_1_47 ti nm xa it vs se rs wk n j t).2.2.2.2.1, (f_Mo_isNotFor_1_47 ti nm xa it vs se rs wk n j t).2.2.2.2.2.1, (f_Mo_isNotFor_1_47 ti nm xa it vs se rs wk n j t).2.2.2.2.2.2)
set_option maxHeartbeats 4000000 in
set_option maxRecDepth 100000 in
theorem m_Mo_size_1 (l : Launch) (D : va_G) (cI cJ cZ cO : ClassId) (a : Nat) (code : Int32) (kn : Nat → Int32) (ed : Nat → Int32) (ct : Nat → Int32) (ti : Nat → Int32) (nm : Nat → Int32) (xa : Nat → Int32) (xb : Nat → Int32) (ma : Int32) (it : Nat → Int32) (vs : Nat → Int32) (se : Nat → Int32) (sm : Int64) (rs : Nat → Int64) (wk : Nat → Int32) (ors : Nat → Int64) (owk : Nat → Int32) (n : Nat) (j : Nat) (t : Int32) (hj : j < 4) (hlk : (f_Mo_lacks kn j t).1 = 0) (hk : kn j = 2) (hct : ct j = nI n) (hn : n ≤ 32) (R : Nat × Nat × (Nat → Int32) × (Nat → Int32) × (Nat → Int32) × Int64 × (Nat → Int64) × (Nat → Int32)) (hR : f_Mo_size_1 ti nm xa it vs se rs wk n j t = R) : Met l y_Md_size (k_Md_size :: gt) rm_Md_size (Pc0 D cI cJ cZ cO [.ref a, .int (nI j), .int t] (fun H => va_P D cls (wMo cI cJ cZ a code kn ed ct ti nm xa xb ma it vs se sm rs wk ors owk) H)) (Qd (blk a 15) (some (.int (nI R.1))) (fun H => va_P D cls (wMo cI cJ cZ a 0 kn ed ct ti nm xa xb (nI R.2.1) R.2.2.1 R.2.2.2.1 R.2.2.2.2.1 R.2.2.2.2.2.1 R.2.2.2.2.2.2.1 R.2.2.2.2.2.2.2 ors owk) H)) 0 0 (blk a 15) := by
  refine Met.ofW (cc := c_Md_size) (maxL := 3) (ret := (Option.some FieldType.int)) (by decide) rfl ?_
  intro p e s m args below meth c s₁ B hml hv
  obtain ⟨rfl, hKn, hP⟩ := hv
  have hx := B.exec
  have hb := B.bytes
  have hr := B.returns
  have hts := atoms_spec (ws := k_Md_size :: gt) B.pre
  have hg : ∀ w ∈ gt, w.before _ s = true := fun w h => hts w (List.mem_cons_of_mem _ h)
  have hown : s.vm.findClass R_Md = some m.cls := findClass_of_methodNamed B.named
  have hlocks := B.notSynchronized
  have hK := hKn.1
  have hl := lv_entry ([.ref a, .int (nI j), .int t]) (n := 3) (Nat.le_of_ble_eq_true rfl)
  rw [lg_entry_eq]
  generalize (lg_sl ([.ref a, .int (nI j), .int t]) ++ List.replicate (3 - (lg_sl ([.ref a, .int (nI j), .int t])).length) Slot.unset).toArray = ls at hl ⊢
  have hl : lv_has ls 3 [(0, .ref a), (1, .int (nI j)), (2, .int t)] := hl
  have hS : va_S (blk a 15) s.heap s.heap [] := va_S.rf
  have hD : va_D (blk a 15) (wMo cI cJ cZ a code kn ed ct ti nm xa xb ma it vs se sm rs wk ors owk) := (blk_D (wMo_in))
  have hR : (((f_Mo_isNotFor_1_47 ti nm xa it vs se rs wk n j t).1, (f_Mo_isNotFor_1_47 ti nm xa it vs se rs wk n j t).1, (f_Mo_isNotFor_1_47 ti nm xa it vs se rs wk n j t).2.1, (f_Mo_isNotFor_1_47 ti nm xa it vs se rs wk n j t).2.2.1, (f_Mo_isNotFor_1_47 ti nm xa it vs se rs wk n j t).2.2.2.1, (f_Mo_isNotFor_1_47 ti nm xa it vs se rs wk n j t).2.2.2.2.1, (f_Mo_isNotFor_1_47 ti nm xa it vs se rs wk n j t).2.2.2.2.2.1, (f_Mo_isNotFor_1_47 ti nm xa it vs se rs wk n j t).2.2.2.2.2.2)) = R := hR
  refine lv_aload_n hx hb d_Md_size_0 rfl (lv_at hl 0 rfl) ?_
  refine lv_iload_n hx hb d_Md_size_1 rfl (lv_at hl 1 rfl) ?_
  refine lv_iload_n hx hb d_Md_size_2 rfl (lv_at hl 2 rfl) ?_
  refine lv_bipush (v := 47) hx hb d_Md_size_3 (by decide) ?_
  refine ep_callH (W.runV (As := [.int (nI j), .int t, .int 47]) (rest := []) ⟨hx, hb, hml, hown, hg⟩ (m_Mo_isNotFor_1_47 l D cI cJ cZ cO a code kn ed ct ti nm xa xb ma it vs se sm rs wk ors owk n j t (by omega) hlk hk hct (by omega) _ rfl) (ep_cwV 3 hg tw_828 tw_830 ts_16 tw_12 tk_Md_isNotFor rfl rfl (by decide +kernel) ⟨(Nat.le_of_ble_eq_true rfl), (Nat.le_of_ble_eq_true rfl)⟩) ⟨ep_blind, va_recv (q0 := 0) (ci := 9) hK hP rfl rfl, ep_pre hKn (hP)⟩ rfl rfl hl.1 rfl (lv_room (Nat.le_of_ble_eq_true rfl)) d_Md_size_5 ⟨Nat.zero_le _, Nat.zero_le _⟩) hS (fun q h => h) (fun H locs hsz9 hk1 hP1 hS => ?_)
  refine W.eq (g2 := F0 m 8 ls [.int 0]) rfl ?_
  have hP : va_P D cls (wMo cI cJ cZ a 0 kn ed ct ti nm xa xb (nI ((f_Mo_isNotFor_1_47 ti nm xa it vs se rs wk n j t).1)) ((f_Mo_isNotFor_1_47 ti nm xa it vs se rs wk n j t).2.1) ((f_Mo_isNotFor_1_47 ti nm xa it vs se rs wk n j t).2.2.1) ((f_Mo_isNotFor_1_47 ti nm xa it vs se rs wk n j t).2.2.2.1) ((f_Mo_isNotFor_1_47 ti nm xa it vs se rs wk n j t).2.2.2.2.1) ((f_Mo_isNotFor_1_47 ti nm xa it vs se rs wk n j t).2.2.2.2.2.1) ((f_Mo_isNotFor_1_47 ti nm xa it vs se rs wk n j t).2.2.2.2.2.2) ors owk) H := hP1
  have hD : va_D (blk a 15) (wMo cI cJ cZ a 0 kn ed ct ti nm xa xb (nI ((f_Mo_isNotFor_1_47 ti nm xa it vs se rs wk n j t).1)) ((f_Mo_isNotFor_1_47 ti nm xa it vs se rs wk n j t).2.1) ((f_Mo_isNotFor_1_47 ti nm xa it vs se rs wk n j t).2.2.1) ((f_Mo_isNotFor_1_47 ti nm xa it vs se rs wk n j t).2.2.2.1) ((f_Mo_isNotFor_1_47 ti nm xa it vs se rs wk n j t).2.2.2.2.1) ((f_Mo_isNotFor_1_47 ti nm xa it vs se rs wk n j t).2.2.2.2.2.1) ((f_Mo_isNotFor_1_47 ti nm xa it vs se rs wk n j t).2.2.2.2.2.2) ors owk) := (blk_D (wMo_in))
  refine lv_if_eq (tgt := 15) hx hb d_Md_size_8 (by decide) (fun hc => ?_) (fun hc => False.elim (by revert hc; decide))
  refine lv_aload_n hx hb d_Md_size_15 rfl (lv_at hl 0 rfl) ?_
  refine va_get (D := D) (ci := 9) (v := .int (nI ((f_Mo_isNotFor_1_47 ti nm xa it vs se rs wk n j t).1))) (C := R_Md) (T := F_Md) (N := 17) hx hb hg in_Md hown hK hP 0 rfl rfl 8 (Nat.le_of_ble_eq_true rfl) (hg _ tw_714) (fun _ h9 => h9) rfl d_Md_size_16 ?_
  subst hR
  exact W.iret (v := (nI ((f_Mo_isNotFor_1_47 ti nm xa it vs se rs wk n j t).1))) hx hb hr (fun t9 ht hW => ⟨rfl, hS.F ht, by rw [ht]; exact hP⟩) hS.2.2 d_Md_size_19

def f_Mo_size_2 (ti : Nat → Int32) (nm : Nat → Int32) (xa : Nat → Int32) (xb : Nat → Int32) (it : Nat → Int32) (vs : Nat → Int32) (se : Nat → Int32) (rs : Nat → Int64) (wk : Nat → Int32) (n : Nat) (j : Nat) (t : Int32) : Nat × Nat × (Nat → Int32) × (Nat → Int32) × (Nat → Int32) × Int64 × (Nat → Int64) × (Nat → Int32) := ((f_Mo_isNotFor_2_47 ti nm xa xb it vs se rs wk n j t).1, (f_Mo_isNotFor_2_47 ti nm xa xb it vs se rs wk n j t).1, (f_Mo_isNotFor_2_47 ti nm xa xb it vs se rs wk n j t).2.1, (f_Mo_isNotFor_2_47 ti nm xa xb it vs se rs wk n j t).2.2.1, (f_Mo_isNotFor_2_47 ti nm xa xb it vs se rs wk n j t).2.2.2.1, (f_Mo_isNotFor_2_47 ti nm xa xb it vs se rs wk n j t).2.2.2.2.1, (f_Mo_isNotFor_2_47 ti nm xa xb it vs se rs wk n j t).2.2.2.2.2.1, (f_Mo_isNotFor_2_47 ti nm xa xb it vs se rs wk n j t).2.2.2.2.2.2)
set_option maxHeartbeats 4000000 in
set_option maxRecDepth 100000 in
theorem m_Mo_size_2 (l : Launch) (D : va_G) (cI cJ cZ cO : ClassId) (a : Nat) (code : Int32) (kn : Nat → Int32) (ed : Nat → Int32) (ct : Nat → Int32) (ti : Nat → Int32) (nm : Nat → Int32) (xa : Nat → Int32) (xb : Nat → Int32) (ma : Int32) (it : Nat → Int32) (vs : Nat → Int32) (se : Nat → Int32) (sm : Int64) (rs : Nat → Int64) (wk : Nat → Int32) (ors : Nat → Int64) (owk : Nat → Int32) (n : Nat) (j : Nat) (t : Int32) (hj : j < 4) (hlk : (f_Mo_lacks kn j t).1 = 0) (hk : kn j = 3) (hct : ct j = nI n) (hn : n ≤ 32) (R : Nat × Nat × (Nat → Int32) × (Nat → Int32) × (Nat → Int32) × Int64 × (Nat → Int64) × (Nat → Int32)) (hR : f_Mo_size_2 ti nm xa xb it vs se rs wk n j t = R) : Met l y_Md_size (k_Md_size :: gt) rm_Md_size (Pc0 D cI cJ cZ cO [.ref a, .int (nI j), .int t] (fun H => va_P D cls (wMo cI cJ cZ a code kn ed ct ti nm xa xb ma it vs se sm rs wk ors owk) H)) (Qd (blk a 15) (some (.int (nI R.1))) (fun H => va_P D cls (wMo cI cJ cZ a 0 kn ed ct ti nm xa xb (nI R.2.1) R.2.2.1 R.2.2.2.1 R.2.2.2.2.1 R.2.2.2.2.2.1 R.2.2.2.2.2.2.1 R.2.2.2.2.2.2.2 ors owk) H)) 0 0 (blk a 15) := by
  refine Met.ofW (cc := c_Md_size) (maxL := 3) (ret := (Option.some FieldType.int)) (by decide) rfl ?_
  intro p e s m args below meth c s₁ B hml hv
  obtain ⟨rfl, hKn, hP⟩ := hv
  have hx := B.exec
  have hb := B.bytes
  have hr := B.returns
  have hts := atoms_spec (ws := k_Md_size :: gt) B.pre
  have hg : ∀ w ∈ gt, w.before _ s = true := fun w h => hts w (List.mem_cons_of_mem _ h)
  have hown : s.vm.findClass R_Md = some m.cls := findClass_of_methodNamed B.named
  have hlocks := B.notSynchronized
  have hK := hKn.1
  have hl := lv_entry ([.ref a, .int (nI j), .int t]) (n := 3) (Nat.le_of_ble_eq_true rfl)
  rw [lg_entry_eq]
  generalize (lg_sl ([.ref a, .int (nI j), .int t]) ++ List.replicate (3 - (lg_sl ([.ref a, .int (nI j), .int t])).length) Slot.unset).toArray = ls at hl ⊢
  have hl : lv_has ls 3 [(0, .ref a), (1, .int (nI j)), (2, .int t)] := hl
  have hS : va_S (blk a 15) s.heap s.heap [] := va_S.rf
  have hD : va_D (blk a 15) (wMo cI cJ cZ a code kn ed ct ti nm xa xb ma it vs se sm rs wk ors owk) := (blk_D (wMo_in))
  have hR : (((f_Mo_isNotFor_2_47 ti nm xa xb it vs se rs wk n j t).1, (f_Mo_isNotFor_2_47 ti nm xa xb it vs se rs wk n j t).1, (f_Mo_isNotFor_2_47 ti nm xa xb it vs se rs wk n j t).2.1, (f_Mo_isNotFor_2_47 ti nm xa xb it vs se rs wk n j t).2.2.1, (f_Mo_isNotFor_2_47 ti nm xa xb it vs se rs wk n j t).2.2.2.1, (f_Mo_isNotFor_2_47 ti nm xa xb it vs se rs wk n j t).2.2.2.2.1, (f_Mo_isNotFor_2_47 ti nm xa xb it vs se rs wk n j t).2.2.2.2.2.1, (f_Mo_isNotFor_2_47 ti nm xa xb it vs se rs wk n j t).2.2.2.2.2.2)) = R := hR
  refine lv_aload_n hx hb d_Md_size_0 rfl (lv_at hl 0 rfl) ?_
  refine lv_iload_n hx hb d_Md_size_1 rfl (lv_at hl 1 rfl) ?_
  refine lv_iload_n hx hb d_Md_size_2 rfl (lv_at hl 2 rfl) ?_
  refine lv_bipush (v := 47) hx hb d_Md_size_3 (by decide) ?_
  refine ep_callH (W.runV (As := [.int (nI j), .int t, .int 47]) (rest := []) ⟨hx, hb, hml, hown, hg⟩ (m_Mo_isNotFor_2_47 l D cI cJ cZ cO a code kn ed ct ti nm xa xb ma it vs se sm rs wk ors owk n j t (by omega) hlk hk hct (by omega) _ rfl) (ep_cwV 3 hg tw_828 tw_830 ts_16 tw_12 tk_Md_isNotFor rfl rfl (by decide +kernel) ⟨(Nat.le_of_ble_eq_true rfl), (Nat.le_of_ble_eq_true rfl)⟩) ⟨ep_blind, va_recv (q0 := 0) (ci := 9) hK hP rfl rfl, ep_pre hKn (hP)⟩ rfl rfl hl.1 rfl (lv_room (Nat.le_of_ble_eq_true rfl)) d_Md_size_5 ⟨Nat.zero_le _, Nat.zero_le _⟩) hS (fun q h => h) (fun H locs hsz9 hk1 hP1 hS => ?_)
  refine W.eq (g2 := F0 m 8 ls [.int 0]) rfl ?_
  have hP : va_P D cls (wMo cI cJ cZ a 0 kn ed ct ti nm xa xb (nI ((f_Mo_isNotFor_2_47 ti nm xa xb it vs se rs wk n j t).1)) ((f_Mo_isNotFor_2_47 ti nm xa xb it vs se rs wk n j t).2.1) ((f_Mo_isNotFor_2_47 ti nm xa xb it vs se rs wk n j t).2.2.1) ((f_Mo_isNotFor_2_47 ti nm xa xb it vs se rs wk n j t).2.2.2.1) ((f_Mo_isNotFor_2_47 ti nm xa xb it vs se rs wk n j t).2.2.2.2.1) ((f_Mo_isNotFor_2_47 ti nm xa xb it vs se rs wk n j t).2.2.2.2.2.1) ((f_Mo_isNotFor_2_47 ti nm xa xb it vs se rs wk n j t).2.2.2.2.2.2) ors owk) H := hP1
  have hD : va_D (blk a 15) (wMo cI cJ cZ a 0 kn ed ct ti nm xa xb (nI ((f_Mo_isNotFor_2_47 ti nm xa xb it vs se rs wk n j t).1)) ((f_Mo_isNotFor_2_47 ti nm xa xb it vs se rs wk n j t).2.1) ((f_Mo_isNotFor_2_47 ti nm xa xb it vs se rs wk n j t).2.2.1) ((f_Mo_isNotFor_2_47 ti nm xa xb it vs se rs wk n j t).2.2.2.1) ((f_Mo_isNotFor_2_47 ti nm xa xb it vs se rs wk n j t).2.2.2.2.1) ((f_Mo_isNotFor_2_47 ti nm xa xb it vs se rs wk n j t).2.2.2.2.2.1) ((f_Mo_isNotFor_2_47 ti nm xa xb it vs se rs wk n j t).2.2.2.2.2.2) ors owk) := (blk_D (wMo_in))
  refine lv_if_eq (tgt := 15) hx hb d_Md_size_8 (by decide) (fun hc => ?_) (fun hc => False.elim (by revert hc; decide))
  refine lv_aload_n hx hb d_Md_size_15 rfl (lv_at hl 0 rfl) ?_
  refine va_get (D := D) (ci := 9) (v := .int (nI ((f_Mo_isNotFor_2_47 ti nm xa xb it vs se rs wk n j t).1))) (C := R_Md) (T := F_Md) (N := 17) hx hb hg in_Md hown hK hP 0 rfl rfl 8 (Nat.le_of_ble_eq_true rfl) (hg _ tw_714) (fun _ h9 => h9) rfl d_Md_size_16 ?_
  subst hR
  exact W.iret (v := (nI ((f_Mo_isNotFor_2_47 ti nm xa xb it vs se rs wk n j t).1))) hx hb hr (fun t9 ht hW => ⟨rfl, hS.F ht, by rw [ht]; exact hP⟩) hS.2.2 d_Md_size_19

def f_Mo_size_3 (ti : Nat → Int32) (nm : Nat → Int32) (xa : Nat → Int32) (it : Nat → Int32) (vs : Nat → Int32) (se : Nat → Int32) (rs : Nat → Int64) (wk : Nat → Int32) (n : Nat) (j : Nat) (t : Int32) : Nat × Nat × (Nat → Int32) × (Nat → Int32) × (Nat → Int32) × Int64 × (Nat → Int64) × (Nat → Int32) := ((f_Mo_isNotFor_3_47 ti nm xa it vs se rs wk n j t).1, (f_Mo_isNotFor_3_47 ti nm xa it vs se rs wk n j t).1, (f_Mo_isNotFor_3_47 ti nm xa it vs se rs wk n j t).2.1, (f_Mo_isNotFor_3_47 ti nm xa it vs se rs wk n j t).2.2.1, (f_Mo_isNotFor_3_47 ti nm xa it vs se rs wk n j t).2.2.2.1, (f_Mo_isNotFor_3_47 ti nm xa it vs se rs wk n j t).2.2.2.2.1, (f_Mo_isNotFor_3_47 ti nm xa it vs se rs wk n j t).2.2.2.2.2.1, (f_Mo_isNotFor_3_47 ti nm xa it vs se rs wk n j t).2.2.2.2.2.2)
set_option maxHeartbeats 4000000 in
set_option maxRecDepth 100000 in
theorem m_Mo_size_3 (l : Launch) (D : va_G) (cI cJ cZ cO : ClassId) (a : Nat) (code : Int32) (kn : Nat → Int32) (ed : Nat → Int32) (ct : Nat → Int32) (ti : Nat → Int32) (nm : Nat → Int32) (xa : Nat → Int32) (xb : Nat → Int32) (ma : Int32) (it : Nat → Int32) (vs : Nat → Int32) (se : Nat → Int32) (sm : Int64) (rs : Nat → Int64) (wk : Nat → Int32) (ors : Nat → Int64) (owk : Nat → Int32) (n : Nat) (j : Nat) (t : Int32) (hj : j < 4) (hlk : (f_Mo_lacks kn j t).1 = 0) (hk : kn j = 4) (hct : ct j = nI n) (hn : n ≤ 32) (R : Nat × Nat × (Nat → Int32) × (Nat → Int32) × (Nat → Int32) × Int64 × (Nat → Int64) × (Nat → Int32)) (hR : f_Mo_size_3 ti nm xa it vs se rs wk n j t = R) : Met l y_Md_size (k_Md_size :: gt) rm_Md_size (Pc0 D cI cJ cZ cO [.ref a, .int (nI j), .int t] (fun H => va_P D cls (wMo cI cJ cZ a code kn ed ct ti nm xa xb ma it vs se sm rs wk ors owk) H)) (Qd (blk a 15) (some (.int (nI R.1))) (fun H => va_P D cls (wMo cI cJ cZ a 0 kn ed ct ti nm xa xb (nI R.2.1) R.2.2.1 R.2.2.2.1 R.2.2.2.2.1 R.2.2.2.2.2.1 R.2.2.2.2.2.2.1 R.2.2.2.2.2.2.2 ors owk) H)) 0 0 (blk a 15) := by
  refine Met.ofW (cc := c_Md_size) (maxL := 3) (ret := (Option.some FieldType.int)) (by decide) rfl ?_
  intro p e s m args below meth c s₁ B hml hv
  obtain ⟨rfl, hKn, hP⟩ := hv
  have hx := B.exec
  have hb := B.bytes
  have hr := B.returns
  have hts := atoms_spec (ws := k_Md_size :: gt) B.pre
  have hg : ∀ w ∈ gt, w.before _ s = true := fun w h => hts w (List.mem_cons_of_mem _ h)
  have hown : s.vm.findClass R_Md = some m.cls := findClass_of_methodNamed B.named
  have hlocks := B.notSynchronized
  have hK := hKn.1
  have hl := lv_entry ([.ref a, .int (nI j), .int t]) (n := 3) (Nat.le_of_ble_eq_true rfl)
  rw [lg_entry_eq]
  generalize (lg_sl ([.ref a, .int (nI j), .int t]) ++ List.replicate (3 - (lg_sl ([.ref a, .int (nI j), .int t])).length) Slot.unset).toArray = ls at hl ⊢
  have hl : lv_has ls 3 [(0, .ref a), (1, .int (nI j)), (2, .int t)] := hl
  have hS : va_S (blk a 15) s.heap s.heap [] := va_S.rf
  have hD : va_D (blk a 15) (wMo cI cJ cZ a code kn ed ct ti nm xa xb ma it vs se sm rs wk ors owk) := (blk_D (wMo_in))
  have hR : (((f_Mo_isNotFor_3_47 ti nm xa it vs se rs wk n j t).1, (f_Mo_isNotFor_3_47 ti nm xa it vs se rs wk n j t).1, (f_Mo_isNotFor_3_47 ti nm xa it vs se rs wk n j t).2.1, (f_Mo_isNotFor_3_47 ti nm xa it vs se rs wk n j t).2.2.1, (f_Mo_isNotFor_3_47 ti nm xa it vs se rs wk n j t).2.2.2.1, (f_Mo_isNotFor_3_47 ti nm xa it vs se rs wk n j t).2.2.2.2.1, (f_Mo_isNotFor_3_47 ti nm xa it vs se rs wk n j t).2.2.2.2.2.1, (f_Mo_isNotFor_3_47 ti nm xa it vs se rs wk n j t).2.2.2.2.2.2)) = R := hR
  refine lv_aload_n hx hb d_Md_size_0 rfl (lv_at hl 0 rfl) ?_
  refine lv_iload_n hx hb d_Md_size_1 rfl (lv_at hl 1 rfl) ?_
  refine lv_iload_n hx hb d_Md_size_2 rfl (lv_at hl 2 rfl) ?_
  refine lv_bipush (v := 47) hx hb d_Md_size_3 (by decide) ?_
  refine ep_callH (W.runV (As := [.int (nI j), .int t, .int 47]) (rest := []) ⟨hx, hb, hml, hown, hg⟩ (m_Mo_isNotFor_3_47 l D cI cJ cZ cO a code kn ed ct ti nm xa xb ma it vs se sm rs wk ors owk n j t (by omega) hlk hk hct (by omega) _ rfl) (ep_cwV 3 hg tw_828 tw_830 ts_16 tw_12 tk_Md_isNotFor rfl rfl (by decide +kernel) ⟨(Nat.le_of_ble_eq_true rfl), (Nat.le_of_ble_eq_true rfl)⟩) ⟨ep_blind, va_recv (q0 := 0) (ci := 9) hK hP rfl rfl, ep_pre hKn (hP)⟩ rfl rfl hl.1 rfl (lv_room (Nat.le_of_ble_eq_true rfl)) d_Md_size_5 ⟨Nat.zero_le _, Nat.zero_le _⟩) hS (fun q h => h) (fun H locs hsz9 hk1 hP1 hS => ?_)
  refine W.eq (g2 := F0 m 8 ls [.int 0]) rfl ?_
  have hP : va_P D cls (wMo cI cJ cZ a 0 kn ed ct ti nm xa xb (nI ((f_Mo_isNotFor_3_47 ti nm xa it vs se rs wk n j t).1)) ((f_Mo_isNotFor_3_47 ti nm xa it vs se rs wk n j t).2.1) ((f_Mo_isNotFor_3_47 ti nm xa it vs se rs wk n j t).2.2.1) ((f_Mo_isNotFor_3_47 ti nm xa it vs se rs wk n j t).2.2.2.1) ((f_Mo_isNotFor_3_47 ti nm xa it vs se rs wk n j t).2.2.2.2.1) ((f_Mo_isNotFor_3_47 ti nm xa it vs se rs wk n j t).2.2.2.2.2.1) ((f_Mo_isNotFor_3_47 ti nm xa it vs se rs wk n j t).2.2.2.2.2.2) ors owk) H := hP1
  have hD : va_D (blk a 15) (wMo cI cJ cZ a 0 kn ed ct ti nm xa xb (nI ((f_Mo_isNotFor_3_47 ti nm xa it vs se rs wk n j t).1)) ((f_Mo_isNotFor_3_47 ti nm xa it vs se rs wk n j t).2.1) ((f_Mo_isNotFor_3_47 ti nm xa it vs se rs wk n j t).2.2.1) ((f_Mo_isNotFor_3_47 ti nm xa it vs se rs wk n j t).2.2.2.1) ((f_Mo_isNotFor_3_47 ti nm xa it vs se rs wk n j t).2.2.2.2.1) ((f_Mo_isNotFor_3_47 ti nm xa it vs se rs wk n j t).2.2.2.2.2.1) ((f_Mo_isNotFor_3_47 ti nm xa it vs se rs wk n j t).2.2.2.2.2.2) ors owk) := (blk_D (wMo_in))
  refine lv_if_eq (tgt := 15) hx hb d_Md_size_8 (by decide) (fun hc => ?_) (fun hc => False.elim (by revert hc; decide))
  refine lv_aload_n hx hb d_Md_size_15 rfl (lv_at hl 0 rfl) ?_
  refine va_get (D := D) (ci := 9) (v := .int (nI ((f_Mo_isNotFor_3_47 ti nm xa it vs se rs wk n j t).1))) (C := R_Md) (T := F_Md) (N := 17) hx hb hg in_Md hown hK hP 0 rfl rfl 8 (Nat.le_of_ble_eq_true rfl) (hg _ tw_714) (fun _ h9 => h9) rfl d_Md_size_16 ?_
  subst hR
  exact W.iret (v := (nI ((f_Mo_isNotFor_3_47 ti nm xa it vs se rs wk n j t).1))) hx hb hr (fun t9 ht hW => ⟨rfl, hS.F ht, by rw [ht]; exact hP⟩) hS.2.2 d_Md_size_19

def f_Mo_size_5 (ti : Nat → Int32) (xa : Nat → Int32) (xb : Nat → Int32) (it : Nat → Int32) (vs : Nat → Int32) (se : Nat → Int32) (rs : Nat → Int64) (wk : Nat → Int32) (n : Nat) (j : Nat) (t : Int32) : Int32 × Int32 × (Nat → Int32) × (Nat → Int32) × (Nat → Int32) × Int64 × (Nat → Int64) × (Nat → Int32) := ((f_Mo_isNotFor_5_47 ti xa xb it vs se rs wk n j t).1, (f_Mo_isNotFor_5_47 ti xa xb it vs se rs wk n j t).1, (f_Mo_isNotFor_5_47 ti xa xb it vs se rs wk n j t).2.1, (f_Mo_isNotFor_5_47 ti xa xb it vs se rs wk n j t).2.2.1, (f_Mo_isNotFor_5_47 ti xa xb it vs se rs wk n j t).2.2.2.1, (f_Mo_isNotFor_5_47 ti xa xb it vs se rs wk n j t).2.2.2.2.1, (f_Mo_isNotFor_5_47 ti xa xb it vs se rs wk n j t).2.2.2.2.2.1, (f_Mo_isNotFor_5_47 ti xa xb it vs se rs wk n j t).2.2.2.2.2.2)
set_option maxHeartbeats 4000000 in
set_option maxRecDepth 100000 in
theorem m_Mo_size_5 (l : Launch) (D : va_G) (cI cJ cZ cO : ClassId) (a : Nat) (code : Int32) (kn : Nat → Int32) (ed : Nat → Int32) (ct : Nat → Int32) (ti : Nat → Int32) (nm : Nat → Int32) (xa : Nat → Int32) (xb : Nat → Int32) (ma : Int32) (it : Nat → Int32) (vs : Nat → Int32) (se : Nat → Int32) (sm : Int64) (rs : Nat → Int64) (wk : Nat → Int32) (ors : Nat → Int64) (owk : Nat → Int32) (n : Nat) (j : Nat) (t : Int32) (hj : j < 4) (hlk : (f_Mo_lacks kn j t).1 = 0) (hk : kn j = 6) (hct : ct j = nI n) (hn : n ≤ 32) (hop : ∀ i, i < n → (xa (32 * j + i) = nI (xa (32 * j + i)).toNatClampNeg ∧ (xa (32 * j + i)).toNatClampNeg < 16) ∧ (xb (32 * j + i) = nI (xb (32 * j + i)).toNatClampNeg ∧ (xb (32 * j + i)).toNatClampNeg < 16)) (R : Int32 × Int32 × (Nat → Int32) × (Nat → Int32) × (Nat → Int32) × Int64 × (Nat → Int64) × (Nat → Int32)) (hR : f_Mo_size_5 ti xa xb it vs se rs wk n j t = R) : Met l y_Md_size (k_Md_size :: gt) rm_Md_size (Pc0 D cI cJ cZ cO [.ref a, .int (nI j), .int t] (fun H => va_P D cls (wMo cI cJ cZ a code kn ed ct ti nm xa xb ma it vs se sm rs wk ors owk) H)) (Qd (blk a 15) (some (.int R.1)) (fun H => va_P D cls (wMo cI cJ cZ a 0 kn ed ct ti nm xa xb R.2.1 R.2.2.1 R.2.2.2.1 R.2.2.2.2.1 R.2.2.2.2.2.1 R.2.2.2.2.2.2.1 R.2.2.2.2.2.2.2 ors owk) H)) 0 0 (blk a 15) := by
  refine Met.ofW (cc := c_Md_size) (maxL := 3) (ret := (Option.some FieldType.int)) (by decide) rfl ?_
  intro p e s m args below meth c s₁ B hml hv
  obtain ⟨rfl, hKn, hP⟩ := hv
  have hx := B.exec
  have hb := B.bytes
  have hr := B.returns
  have hts := atoms_spec (ws := k_Md_size :: gt) B.pre
  have hg : ∀ w ∈ gt, w.before _ s = true := fun w h => hts w (List.mem_cons_of_mem _ h)
  have hown : s.vm.findClass R_Md = some m.cls := findClass_of_methodNamed B.named
  have hlocks := B.notSynchronized
  have hK := hKn.1
  have hl := lv_entry ([.ref a, .int (nI j), .int t]) (n := 3) (Nat.le_of_ble_eq_true rfl)
  rw [lg_entry_eq]
  generalize (lg_sl ([.ref a, .int (nI j), .int t]) ++ List.replicate (3 - (lg_sl ([.ref a, .int (nI j), .int t])).length) Slot.unset).toArray = ls at hl ⊢
  have hl : lv_has ls 3 [(0, .ref a), (1, .int (nI j)), (2, .int t)] := hl
  have hS : va_S (blk a 15) s.heap s.heap [] := va_S.rf
  have hD : va_D (blk a 15) (wMo cI cJ cZ a code kn ed ct ti nm xa xb ma it vs se sm rs wk ors owk) := (blk_D (wMo_in))
  have hR : (((f_Mo_isNotFor_5_47 ti xa xb it vs se rs wk n j t).1, (f_Mo_isNotFor_5_47 ti xa xb it vs se rs wk n j t).1, (f_Mo_isNotFor_5_47 ti xa xb it vs se rs wk n j t).2.1, (f_Mo_isNotFor_5_47 ti xa xb it vs se rs wk n j t).2.2.1, (f_Mo_isNotFor_5_47 ti xa xb it vs se rs wk n j t).2.2.2.1, (f_Mo_isNotFor_5_47 ti xa xb it vs se rs wk n j t).2.2.2.2.1, (f_Mo_isNotFor_5_47 ti xa xb it vs se rs wk n j t).2.2.2.2.2.1, (f_Mo_isNotFor_5_47 ti xa xb it vs se rs wk n j t).2.2.2.2.2.2)) = R := hR
  refine lv_aload_n hx hb d_Md_size_0 rfl (lv_at hl 0 rfl) ?_
  refine lv_iload_n hx hb d_Md_size_1 rfl (lv_at hl 1 rfl) ?_
  refine lv_iload_n hx hb d_Md_size_2 rfl (lv_at hl 2 rfl) ?_
  refine lv_bipush (v := 47) hx hb d_Md_size_3 (by decide) ?_
  refine ep_callH (W.runV (As := [.int (nI j), .int t, .int 47]) (rest := []) ⟨hx, hb, hml, hown, hg⟩ (m_Mo_isNotFor_5_47 l D cI cJ cZ cO a code kn ed ct ti nm xa xb ma it vs se sm rs wk ors owk n j t (by omega) hlk hk hct (by omega) hop _ rfl) (ep_cwV 3 hg tw_828 tw_830 ts_16 tw_12 tk_Md_isNotFor rfl rfl (by decide +kernel) ⟨(Nat.le_of_ble_eq_true rfl), (Nat.le_of_ble_eq_true rfl)⟩) ⟨ep_blind, va_recv (q0 := 0) (ci := 9) hK hP rfl rfl, ep_pre hKn (hP)⟩ rfl rfl hl.1 rfl (lv_room (Nat.le_of_ble_eq_true rfl)) d_Md_size_5 ⟨Nat.zero_le _, Nat.zero_le _⟩) hS (fun q h => h) (fun H locs hsz9 hk1 hP1 hS => ?_)
  refine W.eq (g2 := F0 m 8 ls [.int 0]) rfl ?_
  have hP : va_P D cls (wMo cI cJ cZ a 0 kn ed ct ti nm xa xb ((f_Mo_isNotFor_5_47 ti xa xb it vs se rs wk n j t).1) ((f_Mo_isNotFor_5_47 ti xa xb it vs se rs wk n j t).2.1) ((f_Mo_isNotFor_5_47 ti xa xb it vs se rs wk n j t).2.2.1) ((f_Mo_isNotFor_5_47 ti xa xb it vs se rs wk n j t).2.2.2.1) ((f_Mo_isNotFor_5_47 ti xa xb it vs se rs wk n j t).2.2.2.2.1) ((f_Mo_isNotFor_5_47 ti xa xb it vs se rs wk n j t).2.2.2.2.2.1) ((f_Mo_isNotFor_5_47 ti xa xb it vs se rs wk n j t).2.2.2.2.2.2) ors owk) H := hP1
  have hD : va_D (blk a 15) (wMo cI cJ cZ a 0 kn ed ct ti nm xa xb ((f_Mo_isNotFor_5_47 ti xa xb it vs se rs wk n j t).1) ((f_Mo_isNotFor_5_47 ti xa xb it vs se rs wk n j t).2.1) ((f_Mo_isNotFor_5_47 ti xa xb it vs se rs wk n j t).2.2.1) ((f_Mo_isNotFor_5_47 ti xa xb it vs se rs wk n j t).2.2.2.1) ((f_Mo_isNotFor_5_47 ti xa xb it vs se rs wk n j t).2.2.2.2.1) ((f_Mo_isNotFor_5_47 ti xa xb it vs se rs wk n j t).2.2.2.2.2.1) ((f_Mo_isNotFor_5_47 ti xa xb it vs se rs wk n j t).2.2.2.2.2.2) ors owk) := (blk_D (wMo_in))
  refine lv_if_eq (tgt := 15) hx hb d_Md_size_8 (by decide) (fun hc => ?_) (fun hc => False.elim (by revert hc; decide))
  refine lv_aload_n hx hb d_Md_size_15 rfl (lv_at hl 0 rfl) ?_
  refine va_get (D := D) (ci := 9) (v := .int ((f_Mo_isNotFor_5_47 ti xa xb it vs se rs wk n j t).1)) (C := R_Md) (T := F_Md) (N := 17) hx hb hg in_Md hown hK hP 0 rfl rfl 8 (Nat.le_of_ble_eq_true rfl) (hg _ tw_714) (fun _ h9 => h9) rfl d_Md_size_16 ?_
  subst hR
  exact W.iret (v := ((f_Mo_isNotFor_5_47 ti xa xb it vs se rs wk n j t).1)) hx hb hr (fun t9 ht hW => ⟨rfl, hS.F ht, by rw [ht]; exact hP⟩) hS.2.2 d_Md_size_19

def f_Mo_at_e (kn : Nat → Int32) (j : Nat) (t : Int32) : Int32 := (f_Mo_isNotFor_e kn j t)
set_option maxHeartbeats 4000000 in
set_option maxRecDepth 100000 in
theorem m_Mo_at_e (l : Launch) (D : va_G) (cI cJ cZ cO : ClassId) (a : Nat) (code : Int32) (kn : Nat → Int32) (ed : Nat → Int32) (ct : Nat → Int32) (ti : Nat → Int32) (nm : Nat → Int32) (xa : Nat → Int32) (xb : Nat → Int32) (ma : Int32) (it : Nat → Int32) (vs : Nat → Int32) (se : Nat → Int32) (sm : Int64) (rs : Nat → Int64) (wk : Nat → Int32) (ors : Nat → Int64) (owk : Nat → Int32) (j : Nat) (t : Int32) (x : Int32) (hj : j < 4) (hlk : ¬ (f_Mo_lacks kn j t).1 = 0) (R : Int32) (hR : f_Mo_at_e kn j t = R) : Met l y_Md_at (k_Md_at :: gt) rm_Md_at (Pc0 D cI cJ cZ cO [.ref a, .int (nI j), .int t, .int x] (fun H => va_P D cls (wMo cI cJ cZ a code kn ed ct ti nm xa xb ma it vs se sm rs wk ors owk) H)) (Qd (blk a 15) (some (.int 0)) (fun H => va_P D cls (wMo cI cJ cZ a R kn ed ct ti nm xa xb ma it vs se sm rs wk ors owk) H)) 0 0 (blk a 15) := by
  refine Met.ofW (cc := c_Md_at) (maxL := 4) (ret := (Option.some FieldType.int)) (by decide) rfl ?_
  intro p e s m args below meth c s₁ B hml hv
  obtain ⟨rfl, hKn, hP⟩ := hv
  have hx := B.exec
  have hb := B.bytes
  have hr := B.returns
  have hts := atoms_spec (ws := k_Md_at :: gt) B.pre
  have hg : ∀ w ∈ gt, w.before _ s = true := fun w h => hts w (List.mem_cons_of_mem _ h)
  have hown : s.vm.findClass R_Md = some m.cls := findClass_of_methodNamed B.named
  have hlocks := B.notSynchronized
  have hK := hKn.1
  have hl := lv_entry ([.ref a, .int (nI j), .int t, .int x]) (n := 4) (Nat.le_of_ble_eq_true rfl)
  rw [lg_entry_eq]
  generalize (lg_sl ([.ref a, .int (nI j), .int t, .int x]) ++ List.replicate (4 - (lg_sl ([.ref a, .int (nI j), .int t, .int x])).length) Slot.unset).toArray = ls at hl ⊢
  have hl : lv_has ls 4 [(0, .ref a), (1, .int (nI j)), (2, .int t), (3, .int x)] := hl
  have hS : va_S (blk a 15) s.heap s.heap [] := va_S.rf
  have hD : va_D (blk a 15) (wMo cI cJ cZ a code kn ed ct ti nm xa xb ma it vs se sm rs wk ors owk) := (blk_D (wMo_in))
  have hR : ((f_Mo_isNotFor_e kn j t)) = R := hR
  refine lv_aload_n hx hb d_Md_at_0 rfl (lv_at hl 0 rfl) ?_
  refine lv_iload_n hx hb d_Md_at_1 rfl (lv_at hl 1 rfl) ?_
  refine lv_iload_n hx hb d_Md_at_2 rfl (lv_at hl 2 rfl) ?_
  refine lv_iconst (v := 4) hx hb d_Md_at_3 (by decide) ?_
  refine ep_callH (W.runV (As := [.int (nI j), .int t, .int 4]) (rest := []) ⟨hx, hb, hml, hown, hg⟩ (m_Mo_isNotFor_e l D cI cJ cZ cO a code kn ed ct ti nm xa xb ma it vs se sm rs wk ors owk j t 4 (by omega) hlk _ rfl) (ep_cwV 3 hg tw_828 tw_830 ts_16 tw_12 tk_Md_isNotFor rfl rfl (by decide +kernel) ⟨(Nat.le_of_ble_eq_true rfl), (Nat.le_of_ble_eq_true rfl)⟩) ⟨ep_blind, va_recv (q0 := 0) (ci := 9) hK hP rfl rfl, ep_pre hKn (hP)⟩ rfl rfl hl.1 rfl (lv_room (Nat.le_of_ble_eq_true rfl)) d_Md_at_4 ⟨Nat.zero_le _, Nat.zero_le _⟩) hS (fun q h => h) (fun H locs hsz9 hk1 hP1 hS => ?_)
  refine W.eq (g2 := F0 m 7 ls [.int 1]) rfl ?_
  have hP : va_P D cls (wMo cI cJ cZ a (f_Mo_isNotFor_e kn j t) kn ed ct ti nm xa xb ma it vs se sm rs wk ors owk) H := hP1
  have hD : va_D (blk a 15) (wMo cI cJ cZ a (f_Mo_isNotFor_e kn j t) kn ed ct ti nm xa xb ma it vs se sm rs wk ors owk) := (blk_D (wMo_in))
  refine lv_if_eq (tgt := 12) hx hb d_Md_at_7 (by decide) (fun hc => False.elim (by revert hc; decide)) (fun hc => ?_)
  refine lv_iconst (v := 0) hx hb d_Md_at_10 (by decide) ?_
  subst hR
  exact W.iret (v := 0) hx hb hr (fun t9 ht hW => ⟨rfl, hS.F ht, by rw [ht]; exact hP⟩) hS.2.2 d_Md_at_11

def f_Mo_at_b  : Int32 := f_Mo_isNotFor_b
set_option maxHeartbeats 4000000 in
set_option maxRecDepth 100000 in
theorem m_Mo_at_b (l : Launch) (D : va_G) (cI cJ cZ cO : ClassId) (a : Nat) (code : Int32) (kn : Nat → Int32) (ed : Nat → Int32) (ct : Nat → Int32) (ti : Nat → Int32) (nm : Nat → Int32) (xa : Nat → Int32) (xb : Nat → Int32) (ma : Int32) (it : Nat → Int32) (vs : Nat → Int32) (se : Nat → Int32) (sm : Int64) (rs : Nat → Int64) (wk : Nat → Int32) (ors : Nat → Int64) (owk : Nat → Int32) (id : Int32) (t : Int32) (x : Int32) (hid : ¬ okI id) (R : Int32) (hR : f_Mo_at_b = R) : Met l y_Md_at (k_Md_at :: gt) rm_Md_at (Pc0 D cI cJ cZ cO [.ref a, .int id, .int t, .int x] (fun H => va_P D cls (wMo cI cJ cZ a code kn ed ct ti nm xa xb ma it vs se sm rs wk ors owk) H)) (Qd (blk a 15) (some (.int 0)) (fun H => va_P D cls (wMo cI cJ cZ a R kn ed ct ti nm xa xb ma it vs se sm rs wk ors owk) H)) 0 0 (blk a 15) := by
  refine Met.ofW (cc := c_Md_at) (maxL := 4) (ret := (Option.some FieldType.int)) (by decide) rfl ?_
  intro p e s m args below meth c s₁ B hml hv
  obtain ⟨rfl, hKn, hP⟩ := hv
  have hx := B.exec
  have hb := B.bytes
  have hr := B.returns
  have hts := atoms_spec (ws := k_Md_at :: gt) B.pre
  have hg : ∀ w ∈ gt, w.before _ s = true := fun w h => hts w (List.mem_cons_of_mem _ h)
  have hown : s.vm.findClass R_Md = some m.cls := findClass_of_methodNamed B.named
  have hlocks := B.notSynchronized
  have hK := hKn.1
  have hl := lv_entry ([.ref a, .int id, .int t, .int x]) (n := 4) (Nat.le_of_ble_eq_true rfl)
  rw [lg_entry_eq]
  generalize (lg_sl ([.ref a, .int id, .int t, .int x]) ++ List.replicate (4 - (lg_sl ([.ref a, .int id, .int t, .int x])).length) Slot.unset).toArray = ls at hl ⊢
  have hl : lv_has ls 4 [(0, .ref a), (1, .int id), (2, .int t), (3, .int x)] := hl
  have hS : va_S (blk a 15) s.heap s.heap [] := va_S.rf
  have hD : va_D (blk a 15) (wMo cI cJ cZ a code kn ed ct ti nm xa xb ma it vs se sm rs wk ors owk) := (blk_D (wMo_in))
  have hR : (f_Mo_isNotFor_b) = R := hR
  refine lv_aload_n hx hb d_Md_at_0 rfl (lv_at hl 0 rfl) ?_
  refine lv_iload_n hx hb d_Md_at_1 rfl (lv_at hl 1 rfl) ?_
  refine lv_iload_n hx hb d_Md_at_2 rfl (lv_at hl 2 rfl) ?_
  refine lv_iconst (v := 4) hx hb d_Md_at_3 (by decide) ?_
  refine ep_callH (W.runV (As := [.int id, .int t, .int 4]) (rest := []) ⟨hx, hb, hml, hown, hg⟩ (m_Mo_isNotFor_b l D cI cJ cZ cO a code kn ed ct ti nm xa xb ma it vs se sm rs wk ors owk id t 4 hid _ rfl) (ep_cwV 3 hg tw_828 tw_830 ts_16 tw_12 tk_Md_isNotFor rfl rfl (by decide +kernel) ⟨(Nat.le_of_ble_eq_true rfl), (Nat.le_of_ble_eq_true rfl)⟩) ⟨ep_blind, va_recv (q0 := 0) (ci := 9) hK hP rfl rfl, ep_pre hKn (hP)⟩ rfl rfl hl.1 rfl (lv_room (Nat.le_of_ble_eq_true rfl)) d_Md_at_4 ⟨Nat.zero_le _, Nat.zero_le _⟩) hS (fun q h => h) (fun H locs hsz9 hk1 hP1 hS => ?_)
  refine W.eq (g2 := F0 m 7 ls [.int 1]) rfl ?_
  have hP : va_P D cls (wMo cI cJ cZ a f_Mo_isNotFor_b kn ed ct ti nm xa xb ma it vs se sm rs wk ors owk) H := hP1
  have hD : va_D (blk a 15) (wMo cI cJ cZ a f_Mo_isNotFor_b kn ed ct ti nm xa xb ma it vs se sm rs wk ors owk) := (blk_D (wMo_in))
  refine lv_if_eq (tgt := 12) hx hb d_Md_at_7 (by decide) (fun hc => False.elim (by revert hc; decide)) (fun hc => ?_)
  refine lv_iconst (v := 0) hx hb d_Md_at_10 (by decide) ?_
  subst hR
  exact W.iret (v := 0) hx hb hr (fun t9 ht hW => ⟨rfl, hS.F ht, by rw [ht]; exact hP⟩) hS.2.2 d_Md_at_11

def f_Mo_at_w  : Unit := ()
set_option maxHeartbeats 4000000 in
set_option maxRecDepth 100000 in
theorem m_Mo_at_w (l : Launch) (D : va_G) (cI cJ cZ cO : ClassId) (a : Nat) (code : Int32) (kn : Nat → Int32) (ed : Nat → Int32) (ct : Nat → Int32) (ti : Nat → Int32) (nm : Nat → Int32) (xa : Nat → Int32) (xb : Nat → Int32) (ma : Int32) (it : Nat → Int32) (vs : Nat → Int32) (se : Nat → Int32) (sm : Int64) (rs : Nat → Int64) (wk : Nat → Int32) (ors : Nat → Int64) (owk : Nat → Int32) (j : Nat) (t : Int32) (x : Int32) (hj : j < 4) (hlk : (f_Mo_lacks kn j t).1 = 0) (hw : ¬ ((4 >>> (((kn j) - 1) &&& 31)) &&& 1) = 1) (R : Unit) (hR : f_Mo_at_w = R) : Met l y_Md_at (k_Md_at :: gt) rm_Md_at (Pc0 D cI cJ cZ cO [.ref a, .int (nI j), .int t, .int x] (fun H => va_P D cls (wMo cI cJ cZ a code kn ed ct ti nm xa xb ma it vs se sm rs wk ors owk) H)) (Qd (blk a 15) (some (.int 0)) (fun H => va_P D cls (wMo cI cJ cZ a 2 kn ed ct ti nm xa xb ma it vs se sm rs wk ors owk) H)) 0 0 (blk a 15) := by
  refine Met.ofW (cc := c_Md_at) (maxL := 4) (ret := (Option.some FieldType.int)) (by decide) rfl ?_
  intro p e s m args below meth c s₁ B hml hv
  obtain ⟨rfl, hKn, hP⟩ := hv
  have hx := B.exec
  have hb := B.bytes
  have hr := B.returns
  have hts := atoms_spec (ws := k_Md_at :: gt) B.pre
  have hg : ∀ w ∈ gt, w.before _ s = true := fun w h => hts w (List.mem_cons_of_mem _ h)
  have hown : s.vm.findClass R_Md = some m.cls := findClass_of_methodNamed B.named
  have hlocks := B.notSynchronized
  have hK := hKn.1
  have hl := lv_entry ([.ref a, .int (nI j), .int t, .int x]) (n := 4) (Nat.le_of_ble_eq_true rfl)
  rw [lg_entry_eq]
  generalize (lg_sl ([.ref a, .int (nI j), .int t, .int x]) ++ List.replicate (4 - (lg_sl ([.ref a, .int (nI j), .int t, .int x])).length) Slot.unset).toArray = ls at hl ⊢
  have hl : lv_has ls 4 [(0, .ref a), (1, .int (nI j)), (2, .int t), (3, .int x)] := hl
  have hS : va_S (blk a 15) s.heap s.heap [] := va_S.rf
  have hD : va_D (blk a 15) (wMo cI cJ cZ a code kn ed ct ti nm xa xb ma it vs se sm rs wk ors owk) := (blk_D (wMo_in))
  have hR : (()) = R := hR
  refine lv_aload_n hx hb d_Md_at_0 rfl (lv_at hl 0 rfl) ?_
  refine lv_iload_n hx hb d_Md_at_1 rfl (lv_at hl 1 rfl) ?_
  refine lv_iload_n hx hb d_Md_at_2 rfl (lv_at hl 2 rfl) ?_
  refine lv_iconst (v := 4) hx hb d_Md_at_3 (by decide) ?_
  refine ep_callH (W.runV (As := [.int (nI j), .int t, .int 4]) (rest := []) ⟨hx, hb, hml, hown, hg⟩ (m_Mo_isNotFor_w l D cI cJ cZ cO a code kn ed ct ti nm xa xb ma it vs se sm rs wk ors owk j t 4 (by omega) hlk hw _ rfl) (ep_cwV 3 hg tw_828 tw_830 ts_16 tw_12 tk_Md_isNotFor rfl rfl (by decide +kernel) ⟨(Nat.le_of_ble_eq_true rfl), (Nat.le_of_ble_eq_true rfl)⟩) ⟨ep_blind, va_recv (q0 := 0) (ci := 9) hK hP rfl rfl, ep_pre hKn (hP)⟩ rfl rfl hl.1 rfl (lv_room (Nat.le_of_ble_eq_true rfl)) d_Md_at_4 ⟨Nat.zero_le _, Nat.zero_le _⟩) hS (fun q h => h) (fun H locs hsz9 hk1 hP1 hS => ?_)
  refine W.eq (g2 := F0 m 7 ls [.int 1]) rfl ?_
  have hP : va_P D cls (wMo cI cJ cZ a 2 kn ed ct ti nm xa xb ma it vs se sm rs wk ors owk) H := hP1
  have hD : va_D (blk a 15) (wMo cI cJ cZ a 2 kn ed ct ti nm xa xb ma it vs se sm rs wk ors owk) := (blk_D (wMo_in))
  refine lv_if_eq (tgt := 12) hx hb d_Md_at_7 (by decide) (fun hc => False.elim (by revert hc; decide)) (fun hc => ?_)
  refine lv_iconst (v := 0) hx hb d_Md_at_10 (by decide) ?_
  subst hR
  exact W.iret (v := 0) hx hb hr (fun t9 ht hW => ⟨rfl, hS.F ht, by rw [ht]; exact hP⟩) hS.2.2 d_Md_at_11

def f_Mo_at_2 (ti : Nat → Int32) (nm : Nat → Int32) (xa : Nat → Int32) (xb : Nat → Int32) (it : Nat → Int32) (vs : Nat → Int32) (se : Nat → Int32) (rs : Nat → Int64) (wk : Nat → Int32) (n : Nat) (j : Nat) (t : Int32) (x : Int32) : Int32 × Int32 × Nat × (Nat → Int32) × (Nat → Int32) × (Nat → Int32) × Int64 × (Nat → Int64) × (Nat → Int32) := if ¬ (f_Mo_keyAt ((f_Mo_isNotFor_2_4 ti nm xa xb it vs se rs wk n j t).1) ((f_Mo_isNotFor_2_4 ti nm xa xb it vs se rs wk n j t).2.1) x) = -1 then ((((f_Mo_isNotFor_2_4 ti nm xa xb it vs se rs wk n j t).2.2.1) (((f_Mo_keyAt ((f_Mo_isNotFor_2_4 ti nm xa xb it vs se rs wk n j t).1) ((f_Mo_isNotFor_2_4 ti nm xa xb it vs se rs wk n j t).2.1) x)).toNatClampNeg), 0, (f_Mo_isNotFor_2_4 ti nm xa xb it vs se rs wk n j t).1, (f_Mo_isNotFor_2_4 ti nm xa xb it vs se rs wk n j t).2.1, (f_Mo_isNotFor_2_4 ti nm xa xb it vs se rs wk n j t).2.2.1, (f_Mo_isNotFor_2_4 ti nm xa xb it vs se rs wk n j t).2.2.2.1, (f_Mo_isNotFor_2_4 ti nm xa xb it vs se rs wk n j t).2.2.2.2.1, (f_Mo_isNotFor_2_4 ti nm xa xb it vs se rs wk n j t).2.2.2.2.2.1, (f_Mo_isNotFor_2_4 ti nm xa xb it vs se rs wk n j t).2.2.2.2.2.2)) else ((0, 3, (f_Mo_isNotFor_2_4 ti nm xa xb it vs se rs wk n j t).1, (f_Mo_isNotFor_2_4 ti nm xa xb it vs se rs wk n j t).2.1, (f_Mo_isNotFor_2_4 ti nm xa xb it vs se rs wk n j t).2.2.1, (f_Mo_isNotFor_2_4 ti nm xa xb it vs se rs wk n j t).2.2.2.1, (f_Mo_isNotFor_2_4 ti nm xa xb it vs se rs wk n j t).2.2.2.2.1, (f_Mo_isNotFor_2_4 ti nm xa xb it vs se rs wk n j t).2.2.2.2.2.1, (f_Mo_isNotFor_2_4 ti nm xa xb it vs se rs wk n j t).2.2.2.2.2.2))
set_option maxHeartbeats 4000000 in
set_option maxRecDepth 100000 in
theorem m_Mo_at_2 (l : Launch) (D : va_G) (cI cJ cZ cO : ClassId) (a : Nat) (code : Int32) (kn : Nat → Int32) (ed : Nat → Int32) (ct : Nat → Int32) (ti : Nat → Int32) (nm : Nat → Int32) (xa : Nat → Int32) (xb : Nat → Int32) (ma : Int32) (it : Nat → Int32) (vs : Nat → Int32) (se : Nat → Int32) (sm : Int64) (rs : Nat → Int64) (wk : Nat → Int32) (ors : Nat → Int64) (owk : Nat → Int32) (n : Nat) (j : Nat) (t : Int32) (x : Int32) (hj : j < 4) (hlk : (f_Mo_lacks kn j t).1 = 0) (hk : kn j = 3) (hct : ct j = nI n) (hn : n ≤ 32) (R : Int32 × Int32 × Nat × (Nat → Int32) × (Nat → Int32) × (Nat → Int32) × Int64 × (Nat → Int64) × (Nat → Int32)) (hR : f_Mo_at_2 ti nm xa xb it vs se rs wk n j t x = R) : Met l y_Md_at (k_Md_at :: gt) rm_Md_at (Pc0 D cI cJ cZ cO [.ref a, .int (nI j), .int t, .int x] (fun H => va_P D cls (wMo cI cJ cZ a code kn ed ct ti nm xa xb ma it vs se sm rs wk ors owk) H)) (Qd (blk a 15) (some (.int R.1)) (fun H => va_P D cls (wMo cI cJ cZ a R.2.1 kn ed ct ti nm xa xb (nI R.2.2.1) R.2.2.2.1 R.2.2.2.2.1 R.2.2.2.2.2.1 R.2.2.2.2.2.2.1 R.2.2.2.2.2.2.2.1 R.2.2.2.2.2.2.2.2 ors owk) H)) 0 0 (blk a 15) := by
  refine Met.ofW (cc := c_Md_at) (maxL := 4) (ret := (Option.some FieldType.int)) (by decide) rfl ?_
  intro p e s m args below meth c s₁ B hml hv
  obtain ⟨rfl, hKn, hP⟩ := hv
  have hx := B.exec
  have hb := B.bytes
  have hr := B.returns
  have hts := atoms_spec (ws := k_Md_at :: gt) B.pre
  have hg : ∀ w ∈ gt, w.before _ s = true := fun w h => hts w (List.mem_cons_of_mem _ h)
  have hown : s.vm.findClass R_Md = some m.cls := findClass_of_methodNamed B.named
  have hlocks := B.notSynchronized
  have hK := hKn.1
  have hl := lv_entry ([.ref a, .int (nI j), .int t, .int x]) (n := 4) (Nat.le_of_ble_eq_true rfl)
  rw [lg_entry_eq]
  generalize (lg_sl ([.ref a, .int (nI j), .int t, .int x]) ++ List.replicate (4 - (lg_sl ([.ref a, .int (nI j), .int t, .int x])).length) Slot.unset).toArray = ls at hl ⊢
  have hl : lv_has ls 4 [(0, .ref a), (1, .int (nI j)), (2, .int t), (3, .int x)] := hl
  have hS : va_S (blk a 15) s.heap s.heap [] := va_S.rf
  have hD : va_D (blk a 15) (wMo cI cJ cZ a code kn ed ct ti nm xa xb ma it vs se sm rs wk ors owk) := (blk_D (wMo_in))
  have hR : (if ¬ (f_Mo_keyAt ((f_Mo_isNotFor_2_4 ti nm xa xb it vs se rs wk n j t).1) ((f_Mo_isNotFor_2_4 ti nm xa xb it vs se rs wk n j t).2.1) x) = -1 then ((((f_Mo_isNotFor_2_4 ti nm xa xb it vs se rs wk n j t).2.2.1) (((f_Mo_keyAt ((f_Mo_isNotFor_2_4 ti nm xa xb it vs se rs wk n j t).1) ((f_Mo_isNotFor_2_4 ti nm xa xb it vs se rs wk n j t).2.1) x)).toNatClampNeg), 0, (f_Mo_isNotFor_2_4 ti nm xa xb it vs se rs wk n j t).1, (f_Mo_isNotFor_2_4 ti nm xa xb it vs se rs wk n j t).2.1, (f_Mo_isNotFor_2_4 ti nm xa xb it vs se rs wk n j t).2.2.1, (f_Mo_isNotFor_2_4 ti nm xa xb it vs se rs wk n j t).2.2.2.1, (f_Mo_isNotFor_2_4 ti nm xa xb it vs se rs wk n j t).2.2.2.2.1, (f_Mo_isNotFor_2_4 ti nm xa xb it vs se rs wk n j t).2.2.2.2.2.1, (f_Mo_isNotFor_2_4 ti nm xa xb it vs se rs wk n j t).2.2.2.2.2.2)) else ((0, 3, (f_Mo_isNotFor_2_4 ti nm xa xb it vs se rs wk n j t).1, (f_Mo_isNotFor_2_4 ti nm xa xb it vs se rs wk n j t).2.1, (f_Mo_isNotFor_2_4 ti nm xa xb it vs se rs wk n j t).2.2.1, (f_Mo_isNotFor_2_4 ti nm xa xb it vs se rs wk n j t).2.2.2.1, (f_Mo_isNotFor_2_4 ti nm xa xb it vs se rs wk n j t).2.2.2.2.1, (f_Mo_isNotFor_2_4 ti nm xa xb it vs se rs wk n j t).2.2.2.2.2.1, (f_Mo_isNotFor_2_4 ti nm xa xb it vs se rs wk n j t).2.2.2.2.2.2))) = R := hR
  refine lv_aload_n hx hb d_Md_at_0 rfl (lv_at hl 0 rfl) ?_
  refine lv_iload_n hx hb d_Md_at_1 rfl (lv_at hl 1 rfl) ?_
  refine lv_iload_n hx hb d_Md_at_2 rfl (lv_at hl 2 rfl) ?_
  refine lv_iconst (v := 4) hx hb d_Md_at_3 (by decide) ?_
  refine ep_callH (W.runV (As := [.int (nI j), .int t, .int 4]) (rest := []) ⟨hx, hb, hml, hown, hg⟩ (m_Mo_isNotFor_2_4 l D cI cJ cZ cO a code kn ed ct ti nm xa xb ma it vs se sm rs wk ors owk n j t (by omega) hlk hk hct (by omega) _ rfl) (ep_cwV 3 hg tw_828 tw_830 ts_16 tw_12 tk_Md_isNotFor rfl rfl (by decide +kernel) ⟨(Nat.le_of_ble_eq_true rfl), (Nat.le_of_ble_eq_true rfl)⟩) ⟨ep_blind, va_recv (q0 := 0) (ci := 9) hK hP rfl rfl, ep_pre hKn (hP)⟩ rfl rfl hl.1 rfl (lv_room (Nat.le_of_ble_eq_true rfl)) d_Md_at_4 ⟨Nat.zero_le _, Nat.zero_le _⟩) hS (fun q h => h) (fun H locs hsz9 hk1 hP1 hS => ?_)
  refine W.eq (g2 := F0 m 7 ls [.int 0]) rfl ?_
  have hP : va_P D cls (wMo cI cJ cZ a 0 kn ed ct ti nm xa xb (nI ((f_Mo_isNotFor_2_4 ti nm xa xb it vs se rs wk n j t).1)) ((f_Mo_isNotFor_2_4 ti nm xa xb it vs se rs wk n j t).2.1) ((f_Mo_isNotFor_2_4 ti nm xa xb it vs se rs wk n j t).2.2.1) ((f_Mo_isNotFor_2_4 ti nm xa xb it vs se rs wk n j t).2.2.2.1) ((f_Mo_isNotFor_2_4 ti nm xa xb it vs se rs wk n j t).2.2.2.2.1) ((f_Mo_isNotFor_2_4 ti nm xa xb it vs se rs wk n j t).2.2.2.2.2.1) ((f_Mo_isNotFor_2_4 ti nm xa xb it vs se rs wk n j t).2.2.2.2.2.2) ors owk) H := hP1
  have hD : va_D (blk a 15) (wMo cI cJ cZ a 0 kn ed ct ti nm xa xb (nI ((f_Mo_isNotFor_2_4 ti nm xa xb it vs se rs wk n j t).1)) ((f_Mo_isNotFor_2_4 ti nm xa xb it vs se rs wk n j t).2.1) ((f_Mo_isNotFor_2_4 ti nm xa xb it vs se rs wk n j t).2.2.1) ((f_Mo_isNotFor_2_4 ti nm xa xb it vs se rs wk n j t).2.2.2.1) ((f_Mo_isNotFor_2_4 ti nm xa xb it vs se rs wk n j t).2.2.2.2.1) ((f_Mo_isNotFor_2_4 ti nm xa xb it vs se rs wk n j t).2.2.2.2.2.1) ((f_Mo_isNotFor_2_4 ti nm xa xb it vs se rs wk n j t).2.2.2.2.2.2) ors owk) := (blk_D (wMo_in))
  have hm9 : (f_Mo_isNotFor_2_4 ti nm xa xb it vs se rs wk n j t).1 ≤ n := run_le_2 _ _ _ _ _ _ _ _ _ _ _ _
  refine lv_if_eq (tgt := 12) hx hb d_Md_at_7 (by decide) (fun hc => ?_) (fun hc => False.elim (by revert hc; decide))
  refine lv_aload_n hx hb d_Md_at_12 rfl (lv_at hl 0 rfl) ?_
  refine lv_aload_n hx hb d_Md_at_13 rfl (lv_at hl 0 rfl) ?_
  refine lv_iload_n hx hb d_Md_at_14 rfl (lv_at hl 3 rfl) ?_
  refine ep_callP (W.runV (As := [.int x]) (rest := [.ref a]) ⟨hx, hb, hml, hown, hg⟩ (m_Mo_keyAt l D cI cJ cZ cO a 0 kn ed ct ti nm xa xb ((f_Mo_isNotFor_2_4 ti nm xa xb it vs se rs wk n j t).1) ((f_Mo_isNotFor_2_4 ti nm xa xb it vs se rs wk n j t).2.1) ((f_Mo_isNotFor_2_4 ti nm xa xb it vs se rs wk n j t).2.2.1) ((f_Mo_isNotFor_2_4 ti nm xa xb it vs se rs wk n j t).2.2.2.1) ((f_Mo_isNotFor_2_4 ti nm xa xb it vs se rs wk n j t).2.2.2.2.1) ((f_Mo_isNotFor_2_4 ti nm xa xb it vs se rs wk n j t).2.2.2.2.2.1) ((f_Mo_isNotFor_2_4 ti nm xa xb it vs se rs wk n j t).2.2.2.2.2.2) ors owk x (by omega) _ rfl) (ep_cwV 1 hg tw_844 tw_846 ts_20 tw_12 tk_Md_keyAt rfl rfl (by decide +kernel) ⟨(Nat.le_of_ble_eq_true rfl), (Nat.le_of_ble_eq_true rfl)⟩) ⟨ep_blind, va_recv (q0 := 0) (ci := 9) hK hP rfl rfl, ep_pre hKn (hP)⟩ rfl rfl hl.1 rfl (lv_room (Nat.le_of_ble_eq_true rfl)) d_Md_at_15 ⟨Nat.zero_le _, Nat.zero_le _⟩) ?_
  refine W.eq (g2 := F0 m 18 ls [.int (f_Mo_keyAt ((f_Mo_isNotFor_2_4 ti nm xa xb it vs se rs wk n j t).1) ((f_Mo_isNotFor_2_4 ti nm xa xb it vs se rs wk n j t).2.1) x), .ref a]) rfl ?_
  refine lv_topi (fun z8 e_z8 => ?_)
  obtain rfl : z8 = oI (¬ (f_Mo_keyAt ((f_Mo_isNotFor_2_4 ti nm xa xb it vs se rs wk n j t).1) ((f_Mo_isNotFor_2_4 ti nm xa xb it vs se rs wk n j t).2.1) x) = -1) ((f_Mo_keyAt ((f_Mo_isNotFor_2_4 ti nm xa xb it vs se rs wk n j t).1) ((f_Mo_isNotFor_2_4 ti nm xa xb it vs se rs wk n j t).2.1) x).toNatClampNeg) := by rw [e_z8]; exact (oI_of (ka_at _ _ _ (by omega)))
  by_cases hc1 : ¬ (f_Mo_keyAt ((f_Mo_isNotFor_2_4 ti nm xa xb it vs se rs wk n j t).1) ((f_Mo_isNotFor_2_4 ti nm xa xb it vs se rs wk n j t).2.1) x) = -1
  · rw [show oI (¬ (f_Mo_keyAt ((f_Mo_isNotFor_2_4 ti nm xa xb it vs se rs wk n j t).1) ((f_Mo_isNotFor_2_4 ti nm xa xb it vs se rs wk n j t).2.1) x) = -1) ((f_Mo_keyAt ((f_Mo_isNotFor_2_4 ti nm xa xb it vs se rs wk n j t).1) ((f_Mo_isNotFor_2_4 ti nm xa xb it vs se rs wk n j t).2.1) x).toNatClampNeg) = nI ((f_Mo_keyAt ((f_Mo_isNotFor_2_4 ti nm xa xb it vs se rs wk n j t).1) ((f_Mo_isNotFor_2_4 ti nm xa xb it vs se rs wk n j t).2.1) x).toNatClampNeg) from if_pos hc1]
    have hp9 : ((f_Mo_keyAt ((f_Mo_isNotFor_2_4 ti nm xa xb it vs se rs wk n j t).1) ((f_Mo_isNotFor_2_4 ti nm xa xb it vs se rs wk n j t).2.1) x)).toNatClampNeg < (f_Mo_isNotFor_2_4 ti nm xa xb it vs se rs wk n j t).1 := ka_lt _ _ _ (by omega) hc1
    refine lv_if_ge (tgt := 25) hx hb d_Md_at_18 (by decide) (fun hc => ?_) (fun hc => False.elim (by have hc : ¬ (0 ≤ (f_Mo_keyAt ((f_Mo_isNotFor_2_4 ti nm xa xb it vs se rs wk n j t).1) ((f_Mo_isNotFor_2_4 ti nm xa xb it vs se rs wk n j t).2.1) x).toNatClampNeg) := fun h => hc (by exact (nI_leI (a := 0) (b := (f_Mo_keyAt ((f_Mo_isNotFor_2_4 ti nm xa xb it vs se rs wk n j t).1) ((f_Mo_isNotFor_2_4 ti nm xa xb it vs se rs wk n j t).2.1) x).toNatClampNeg) (by omega) (by omega)).mpr h); omega))
    refine lv_iconst (v := 0) hx hb d_Md_at_25 (by decide) ?_
    refine va_put (D := D) (ci := 9) (v := .int 0) (ty := .int) (C := R_Md) (T := F_Md) (N := 17) hx hb hg in_Md t_Md t_Md_ok n_Md hown hK hP hD hS 0 rfl rfl 0 (Nat.le_of_ble_eq_true rfl) (hg _ tw_706) (fun _ h9 => h9) rfl (by decide +kernel) rfl rfl (Nat.le_of_ble_eq_true rfl) d_Md_at_26 (fun H locs hP hD hS => ?_)
    have hP : va_P D cls (wMo cI cJ cZ a 0 kn ed ct ti nm xa xb (nI ((f_Mo_isNotFor_2_4 ti nm xa xb it vs se rs wk n j t).1)) ((f_Mo_isNotFor_2_4 ti nm xa xb it vs se rs wk n j t).2.1) ((f_Mo_isNotFor_2_4 ti nm xa xb it vs se rs wk n j t).2.2.1) ((f_Mo_isNotFor_2_4 ti nm xa xb it vs se rs wk n j t).2.2.2.1) ((f_Mo_isNotFor_2_4 ti nm xa xb it vs se rs wk n j t).2.2.2.2.1) ((f_Mo_isNotFor_2_4 ti nm xa xb it vs se rs wk n j t).2.2.2.2.2.1) ((f_Mo_isNotFor_2_4 ti nm xa xb it vs se rs wk n j t).2.2.2.2.2.2) ors owk) H := hP
    have hD : va_D (blk a 15) (wMo cI cJ cZ a 0 kn ed ct ti nm xa xb (nI ((f_Mo_isNotFor_2_4 ti nm xa xb it vs se rs wk n j t).1)) ((f_Mo_isNotFor_2_4 ti nm xa xb it vs se rs wk n j t).2.1) ((f_Mo_isNotFor_2_4 ti nm xa xb it vs se rs wk n j t).2.2.1) ((f_Mo_isNotFor_2_4 ti nm xa xb it vs se rs wk n j t).2.2.2.1) ((f_Mo_isNotFor_2_4 ti nm xa xb it vs se rs wk n j t).2.2.2.2.1) ((f_Mo_isNotFor_2_4 ti nm xa xb it vs se rs wk n j t).2.2.2.2.2.1) ((f_Mo_isNotFor_2_4 ti nm xa xb it vs se rs wk n j t).2.2.2.2.2.2) ors owk) := hD
    refine lv_aload_n hx hb d_Md_at_29 rfl (lv_at hl 0 rfl) ?_
    refine va_get (D := D) (ci := 9) (v := .int 0) (C := R_Md) (T := F_Md) (N := 17) hx hb hg in_Md hown hK hP 0 rfl rfl 0 (Nat.le_of_ble_eq_true rfl) (hg _ tw_706) (fun _ h9 => h9) rfl d_Md_at_30 ?_
    refine lv_if_le (tgt := 40) hx hb d_Md_at_33 (by decide) (fun hc => ?_) (fun hc => False.elim (by revert hc; decide))
    refine lv_aload_n hx hb d_Md_at_40 rfl (lv_at hl 0 rfl) ?_
    refine va_get (D := D) (ci := 9) (v := .ref (a + 9)) (C := R_Md) (T := F_Md) (N := 17) hx hb hg in_Md hown hK hP 0 rfl rfl 10 (Nat.le_of_ble_eq_true rfl) (hg _ tw_716) (fun _ h9 => h9) rfl d_Md_at_41 ?_
    refine lv_aload_n hx hb d_Md_at_44 rfl (lv_at hl 0 rfl) ?_
    refine lv_iload_n hx hb d_Md_at_45 rfl (lv_at hl 3 rfl) ?_
    refine ep_callP (W.runV (As := [.int x]) (rest := [.ref (a + 9)]) ⟨hx, hb, hml, hown, hg⟩ (m_Mo_keyAt l D cI cJ cZ cO a 0 kn ed ct ti nm xa xb ((f_Mo_isNotFor_2_4 ti nm xa xb it vs se rs wk n j t).1) ((f_Mo_isNotFor_2_4 ti nm xa xb it vs se rs wk n j t).2.1) ((f_Mo_isNotFor_2_4 ti nm xa xb it vs se rs wk n j t).2.2.1) ((f_Mo_isNotFor_2_4 ti nm xa xb it vs se rs wk n j t).2.2.2.1) ((f_Mo_isNotFor_2_4 ti nm xa xb it vs se rs wk n j t).2.2.2.2.1) ((f_Mo_isNotFor_2_4 ti nm xa xb it vs se rs wk n j t).2.2.2.2.2.1) ((f_Mo_isNotFor_2_4 ti nm xa xb it vs se rs wk n j t).2.2.2.2.2.2) ors owk x (by omega) _ rfl) (ep_cwV 1 hg tw_844 tw_846 ts_20 tw_12 tk_Md_keyAt rfl rfl (by decide +kernel) ⟨(Nat.le_of_ble_eq_true rfl), (Nat.le_of_ble_eq_true rfl)⟩) ⟨ep_blind, va_recv (q0 := 0) (ci := 9) hK hP rfl rfl, ep_pre hKn (hP)⟩ rfl rfl hl.1 rfl (lv_room (Nat.le_of_ble_eq_true rfl)) d_Md_at_46 ⟨Nat.zero_le _, Nat.zero_le _⟩) ?_
    refine W.eq (g2 := F0 m 49 ls [.int (f_Mo_keyAt ((f_Mo_isNotFor_2_4 ti nm xa xb it vs se rs wk n j t).1) ((f_Mo_isNotFor_2_4 ti nm xa xb it vs se rs wk n j t).2.1) x), .ref (a + 9)]) rfl ?_
    refine lv_topi (fun z8 e_z8 => ?_)
    obtain rfl : z8 = nI (((f_Mo_keyAt ((f_Mo_isNotFor_2_4 ti nm xa xb it vs se rs wk n j t).1) ((f_Mo_isNotFor_2_4 ti nm xa xb it vs se rs wk n j t).2.1) x)).toNatClampNeg) := by rw [e_z8]; exact (nI_back (ka_at _ _ _ (by omega)) hc1)
    refine ep_iald hx hb hK hP 9 0 rfl rfl (i := (((f_Mo_keyAt ((f_Mo_isNotFor_2_4 ti nm xa xb it vs se rs wk n j t).1) ((f_Mo_isNotFor_2_4 ti nm xa xb it vs se rs wk n j t).2.1) x)).toNatClampNeg)) (by omega) (by decide) d_Md_at_49 ?_
    rw [if_pos hc1] at hR
    subst hR
    exact W.iret (v := (((f_Mo_isNotFor_2_4 ti nm xa xb it vs se rs wk n j t).2.2.1) (((f_Mo_keyAt ((f_Mo_isNotFor_2_4 ti nm xa xb it vs se rs wk n j t).1) ((f_Mo_isNotFor_2_4 ti nm xa xb it vs se rs wk n j t).2.1) x)).toNatClampNeg))) hx hb hr (fun t9 ht hW => ⟨rfl, hS.F ht, by rw [ht]; exact hP⟩) hS.2.2 d_Md_at_50
  · rw [show oI (¬ (f_Mo_keyAt ((f_Mo_isNotFor_2_4 ti nm xa xb it vs se rs wk n j t).1) ((f_Mo_isNotFor_2_4 ti nm xa xb it vs se rs wk n j t).2.1) x) = -1) ((f_Mo_keyAt ((f_Mo_isNotFor_2_4 ti nm xa xb it vs se rs wk n j t).1) ((f_Mo_isNotFor_2_4 ti nm xa xb it vs se rs wk n j t).2.1) x).toNatClampNeg) = -1 from if_neg hc1]
    refine lv_if_ge (tgt := 25) hx hb d_Md_at_18 (by decide) (fun hc => False.elim (by revert hc; decide)) (fun hc => ?_)
    refine lv_iconst (v := 3) hx hb d_Md_at_21 (by decide) ?_
    refine lv_goto (tgt := 26) hx hb d_Md_at_22 (by decide) ?_
    refine va_put (D := D) (ci := 9) (v := .int 3) (ty := .int) (C := R_Md) (T := F_Md) (N := 17) hx hb hg in_Md t_Md t_Md_ok n_Md hown hK hP hD hS 0 rfl rfl 0 (Nat.le_of_ble_eq_true rfl) (hg _ tw_706) (fun _ h9 => h9) rfl (by decide +kernel) rfl rfl (Nat.le_of_ble_eq_true rfl) d_Md_at_26 (fun H locs hP hD hS => ?_)
    have hP : va_P D cls (wMo cI cJ cZ a 3 kn ed ct ti nm xa xb (nI ((f_Mo_isNotFor_2_4 ti nm xa xb it vs se rs wk n j t).1)) ((f_Mo_isNotFor_2_4 ti nm xa xb it vs se rs wk n j t).2.1) ((f_Mo_isNotFor_2_4 ti nm xa xb it vs se rs wk n j t).2.2.1) ((f_Mo_isNotFor_2_4 ti nm xa xb it vs se rs wk n j t).2.2.2.1) ((f_Mo_isNotFor_2_4 ti nm xa xb it vs se rs wk n j t).2.2.2.2.1) ((f_Mo_isNotFor_2_4 ti nm xa xb it vs se rs wk n j t).2.2.2.2.2.1) ((f_Mo_isNotFor_2_4 ti nm xa xb it vs se rs wk n j t).2.2.2.2.2.2) ors owk) H := hP
    have hD : va_D (blk a 15) (wMo cI cJ cZ a 3 kn ed ct ti nm xa xb (nI ((f_Mo_isNotFor_2_4 ti nm xa xb it vs se rs wk n j t).1)) ((f_Mo_isNotFor_2_4 ti nm xa xb it vs se rs wk n j t).2.1) ((f_Mo_isNotFor_2_4 ti nm xa xb it vs se rs wk n j t).2.2.1) ((f_Mo_isNotFor_2_4 ti nm xa xb it vs se rs wk n j t).2.2.2.1) ((f_Mo_isNotFor_2_4 ti nm xa xb it vs se rs wk n j t).2.2.2.2.1) ((f_Mo_isNotFor_2_4 ti nm xa xb it vs se rs wk n j t).2.2.2.2.2.1) ((f_Mo_isNotFor_2_4 ti nm xa xb it vs se rs wk n j t).2.2.2.2.2.2) ors owk) := hD
    refine lv_aload_n hx hb d_Md_at_29 rfl (lv_at hl 0 rfl) ?_
    refine va_get (D := D) (ci := 9) (v := .int 3) (C := R_Md) (T := F_Md) (N := 17) hx hb hg in_Md hown hK hP 0 rfl rfl 0 (Nat.le_of_ble_eq_true rfl) (hg _ tw_706) (fun _ h9 => h9) rfl d_Md_at_30 ?_
    refine lv_if_le (tgt := 40) hx hb d_Md_at_33 (by decide) (fun hc => False.elim (by revert hc; decide)) (fun hc => ?_)
    refine lv_iconst (v := 0) hx hb d_Md_at_36 (by decide) ?_
    refine lv_goto (tgt := 50) hx hb d_Md_at_37 (by decide) ?_
    rw [if_neg hc1] at hR
    subst hR
    exact W.iret (v := 0) hx hb hr (fun t9 ht hW => ⟨rfl, hS.F ht, by rw [ht]; exact hP⟩) hS.2.2 d_Md_at_50

def f_Mo_sum_e (kn : Nat → Int32) (j : Nat) (t : Int32) : Int32 := (f_Mo_isNotFor_e kn j t)
set_option maxHeartbeats 4000000 in
set_option maxRecDepth 100000 in
theorem m_Mo_sum_e (l : Launch) (D : va_G) (cI cJ cZ cO : ClassId) (a : Nat) (code : Int32) (kn : Nat → Int32) (ed : Nat → Int32) (ct : Nat → Int32) (ti : Nat → Int32) (nm : Nat → Int32) (xa : Nat → Int32) (xb : Nat → Int32) (ma : Int32) (it : Nat → Int32) (vs : Nat → Int32) (se : Nat → Int32) (sm : Int64) (rs : Nat → Int64) (wk : Nat → Int32) (ors : Nat → Int64) (owk : Nat → Int32) (j : Nat) (t : Int32) (hj : j < 4) (hlk : ¬ (f_Mo_lacks kn j t).1 = 0) (R : Int32) (hR : f_Mo_sum_e kn j t = R) : Met l y_Md_sum (k_Md_sum :: gt) rm_Md_sum (Pc0 D cI cJ cZ cO [.ref a, .int (nI j), .int t] (fun H => va_P D cls (wMo cI cJ cZ a code kn ed ct ti nm xa xb ma it vs se sm rs wk ors owk) H)) (Qd (blk a 15) (some (.long 0)) (fun H => va_P D cls (wMo cI cJ cZ a R kn ed ct ti nm xa xb ma it vs se sm rs wk ors owk) H)) 0 0 (blk a 15) := by
  refine Met.ofW (cc := c_Md_sum) (maxL := 3) (ret := (Option.some FieldType.long)) (by decide) rfl ?_
  intro p e s m args below meth c s₁ B hml hv
  obtain ⟨rfl, hKn, hP⟩ := hv
  have hx := B.exec
  have hb := B.bytes
  have hr := B.returns
  have hts := atoms_spec (ws := k_Md_sum :: gt) B.pre
  have hg : ∀ w ∈ gt, w.before _ s = true := fun w h => hts w (List.mem_cons_of_mem _ h)
  have hown : s.vm.findClass R_Md = some m.cls := findClass_of_methodNamed B.named
  have hlocks := B.notSynchronized
  have hK := hKn.1
  have hl := lv_entry ([.ref a, .int (nI j), .int t]) (n := 3) (Nat.le_of_ble_eq_true rfl)
  rw [lg_entry_eq]
  generalize (lg_sl ([.ref a, .int (nI j), .int t]) ++ List.replicate (3 - (lg_sl ([.ref a, .int (nI j), .int t])).length) Slot.unset).toArray = ls at hl ⊢
  have hl : lv_has ls 3 [(0, .ref a), (1, .int (nI j)), (2, .int t)] := hl
  have hS : va_S (blk a 15) s.heap s.heap [] := va_S.rf
  have hD : va_D (blk a 15) (wMo cI cJ cZ a code kn ed ct ti nm xa xb ma it vs se sm rs wk ors owk) := (blk_D (wMo_in))
  have hR : ((f_Mo_isNotFor_e kn j t)) = R := hR
  refine lv_aload_n hx hb d_Md_sum_0 rfl (lv_at hl 0 rfl) ?_
  refine lv_iload_n hx hb d_Md_sum_1 rfl (lv_at hl 1 rfl) ?_
  refine lv_iload_n hx hb d_Md_sum_2 rfl (lv_at hl 2 rfl) ?_
  refine lv_bipush (v := 16) hx hb d_Md_sum_3 (by decide) ?_
  refine ep_callH (W.runV (As := [.int (nI j), .int t, .int 16]) (rest := []) ⟨hx, hb, hml, hown, hg⟩ (m_Mo_isNotFor_e l D cI cJ cZ cO a code kn ed ct ti nm xa xb ma it vs se sm rs wk ors owk j t 16 (by omega) hlk _ rfl) (ep_cwV 3 hg tw_828 tw_830 ts_16 tw_12 tk_Md_isNotFor rfl rfl (by decide +kernel) ⟨(Nat.le_of_ble_eq_true rfl), (Nat.le_of_ble_eq_true rfl)⟩) ⟨ep_blind, va_recv (q0 := 0) (ci := 9) hK hP rfl rfl, ep_pre hKn (hP)⟩ rfl rfl hl.1 rfl (lv_room (Nat.le_of_ble_eq_true rfl)) d_Md_sum_5 ⟨Nat.zero_le _, Nat.zero_le _⟩) hS (fun q h => h) (fun H locs hsz9 hk1 hP1 hS => ?_)
  refine W.eq (g2 := F0 m 8 ls [.int 1]) rfl ?_
  have hP : va_P D cls (wMo cI cJ cZ a (f_Mo_isNotFor_e kn j t) kn ed ct ti nm xa xb ma it vs se sm rs wk ors owk) H := hP1
  have hD : va_D (blk a 15) (wMo cI cJ cZ a (f_Mo_isNotFor_e kn j t) kn ed ct ti nm xa xb ma it vs se sm rs wk ors owk) := (blk_D (wMo_in))
  refine lv_if_eq (tgt := 15) hx hb d_Md_sum_8 (by decide) (fun hc => False.elim (by revert hc; decide)) (fun hc => ?_)
  refine lv_lconst (v := 0) hx hb d_Md_sum_11 (by decide) ?_
  refine lv_goto (tgt := 19) hx hb d_Md_sum_12 (by decide) ?_
  subst hR
  exact W.lret (v := 0) hx hb hr (fun t9 ht hW => ⟨rfl, hS.F ht, by rw [ht]; exact hP⟩) hS.2.2 d_Md_sum_19

def f_Mo_sum_b  : Int32 := f_Mo_isNotFor_b
set_option maxHeartbeats 4000000 in
set_option maxRecDepth 100000 in
theorem m_Mo_sum_b (l : Launch) (D : va_G) (cI cJ cZ cO : ClassId) (a : Nat) (code : Int32) (kn : Nat → Int32) (ed : Nat → Int32) (ct : Nat → Int32) (ti : Nat → Int32) (nm : Nat → Int32) (xa : Nat → Int32) (xb : Nat → Int32) (ma : Int32) (it : Nat → Int32) (vs : Nat → Int32) (se : Nat → Int32) (sm : Int64) (rs : Nat → Int64) (wk : Nat → Int32) (ors : Nat → Int64) (owk : Nat → Int32) (id : Int32) (t : Int32) (hid : ¬ okI id) (R : Int32) (hR : f_Mo_sum_b = R) : Met l y_Md_sum (k_Md_sum :: gt) rm_Md_sum (Pc0 D cI cJ cZ cO [.ref a, .int id, .int t] (fun H => va_P D cls (wMo cI cJ cZ a code kn ed ct ti nm xa xb ma it vs se sm rs wk ors owk) H)) (Qd (blk a 15) (some (.long 0)) (fun H => va_P D cls (wMo cI cJ cZ a R kn ed ct ti nm xa xb ma it vs se sm rs wk ors owk) H)) 0 0 (blk a 15) := by
  refine Met.ofW (cc := c_Md_sum) (maxL := 3) (ret := (Option.some FieldType.long)) (by decide) rfl ?_
  intro p e s m args below meth c s₁ B hml hv
  obtain ⟨rfl, hKn, hP⟩ := hv
  have hx := B.exec
  have hb := B.bytes
  have hr := B.returns
  have hts := atoms_spec (ws := k_Md_sum :: gt) B.pre
  have hg : ∀ w ∈ gt, w.before _ s = true := fun w h => hts w (List.mem_cons_of_mem _ h)
  have hown : s.vm.findClass R_Md = some m.cls := findClass_of_methodNamed B.named
  have hlocks := B.notSynchronized
  have hK := hKn.1
  have hl := lv_entry ([.ref a, .int id, .int t]) (n := 3) (Nat.le_of_ble_eq_true rfl)
  rw [lg_entry_eq]
  generalize (lg_sl ([.ref a, .int id, .int t]) ++ List.replicate (3 - (lg_sl ([.ref a, .int id, .int t])).length) Slot.unset).toArray = ls at hl ⊢
  have hl : lv_has ls 3 [(0, .ref a), (1, .int id), (2, .int t)] := hl
  have hS : va_S (blk a 15) s.heap s.heap [] := va_S.rf
  have hD : va_D (blk a 15) (wMo cI cJ cZ a code kn ed ct ti nm xa xb ma it vs se sm rs wk ors owk) := (blk_D (wMo_in))
  have hR : (f_Mo_isNotFor_b) = R := hR
  refine lv_aload_n hx hb d_Md_sum_0 rfl (lv_at hl 0 rfl) ?_
  refine lv_iload_n hx hb d_Md_sum_1 rfl (lv_at hl 1 rfl) ?_
  refine lv_iload_n hx hb d_Md_sum_2 rfl (lv_at hl 2 rfl) ?_
  refine lv_bipush (v := 16) hx hb d_Md_sum_3 (by decide) ?_
  refine ep_callH (W.runV (As := [.int id, .int t, .int 16]) (rest := []) ⟨hx, hb, hml, hown, hg⟩ (m_Mo_isNotFor_b l D cI cJ cZ cO a code kn ed ct ti nm xa xb ma it vs se sm rs wk ors owk id t 16 hid _ rfl) (ep_cwV 3 hg tw_828 tw_830 ts_16 tw_12 tk_Md_isNotFor rfl rfl (by decide +kernel) ⟨(Nat.le_of_ble_eq_true rfl), (Nat.le_of_ble_eq_true rfl)⟩) ⟨ep_blind, va_recv (q0 := 0) (ci := 9) hK hP rfl rfl, ep_pre hKn (hP)⟩ rfl rfl hl.1 rfl (lv_room (Nat.le_of_ble_eq_true rfl)) d_Md_sum_5 ⟨Nat.zero_le _, Nat.zero_le _⟩) hS (fun q h => h) (fun H locs hsz9 hk1 hP1 hS => ?_)
  refine W.eq (g2 := F0 m 8 ls [.int 1]) rfl ?_
  have hP : va_P D cls (wMo cI cJ cZ a f_Mo_isNotFor_b kn ed ct ti nm xa xb ma it vs se sm rs wk ors owk) H := hP1
  have hD : va_D (blk a 15) (wMo cI cJ cZ a f_Mo_isNotFor_b kn ed ct ti nm xa xb ma it vs se sm rs wk ors owk) := (blk_D (wMo_in))
  refine lv_if_eq (tgt := 15) hx hb d_Md_sum_8 (by decide) (fun hc => False.elim (by revert hc; decide)) (fun hc => ?_)
  refine lv_lconst (v := 0) hx hb d_Md_sum_11 (by decide) ?_
  refine lv_goto (tgt := 19) hx hb d_Md_sum_12 (by decide) ?_
  subst hR
  exact W.lret (v := 0) hx hb hr (fun t9 ht hW => ⟨rfl, hS.F ht, by rw [ht]; exact hP⟩) hS.2.2 d_Md_sum_19

def f_Mo_sum_w  : Unit := ()
set_option maxHeartbeats 4000000 in
set_option maxRecDepth 100000 in
theorem m_Mo_sum_w (l : Launch) (D : va_G) (cI cJ cZ cO : ClassId) (a : Nat) (code : Int32) (kn : Nat → Int32) (ed : Nat → Int32) (ct : Nat → Int32) (ti : Nat → Int32) (nm : Nat → Int32) (xa : Nat → Int32) (xb : Nat → Int32) (ma : Int32) (it : Nat → Int32) (vs : Nat → Int32) (se : Nat → Int32) (sm : Int64) (rs : Nat → Int64) (wk : Nat → Int32) (ors : Nat → Int64) (owk : Nat → Int32) (j : Nat) (t : Int32) (hj : j < 4) (hlk : (f_Mo_lacks kn j t).1 = 0) (hw : ¬ ((16 >>> (((kn j) - 1) &&& 31)) &&& 1) = 1) (R : Unit) (hR : f_Mo_sum_w = R) : Met l y_Md_sum (k_Md_sum :: gt) rm_Md_sum (Pc0 D cI cJ cZ cO [.ref a, .int (nI j), .int t] (fun H => va_P D cls (wMo cI cJ cZ a code kn ed ct ti nm xa xb ma it vs se sm rs wk ors owk) H)) (Qd (blk a 15) (some (.long 0)) (fun H => va_P D cls (wMo cI cJ cZ a 2 kn ed ct ti nm xa xb ma it vs se sm rs wk ors owk) H)) 0 0 (blk a 15) := by
  refine Met.ofW (cc := c_Md_sum) (maxL := 3) (ret := (Option.some FieldType.long)) (by decide) rfl ?_
  intro p e s m args below meth c s₁ B hml hv
  obtain ⟨rfl, hKn, hP⟩ := hv
  have hx := B.exec
  have hb := B.bytes
  have hr := B.returns
  have hts := atoms_spec (ws := k_Md_sum :: gt) B.pre
  have hg : ∀ w ∈ gt, w.before _ s = true := fun w h => hts w (List.mem_cons_of_mem _ h)
  have hown : s.vm.findClass R_Md = some m.cls := findClass_of_methodNamed B.named
  have hlocks := B.notSynchronized
  have hK := hKn.1
  have hl := lv_entry ([.ref a, .int (nI j), .int t]) (n := 3) (Nat.le_of_ble_eq_true rfl)
  rw [lg_entry_eq]
  generalize (lg_sl ([.ref a, .int (nI j), .int t]) ++ List.replicate (3 - (lg_sl ([.ref a, .int (nI j), .int t])).length) Slot.unset).toArray = ls at hl ⊢
  have hl : lv_has ls 3 [(0, .ref a), (1, .int (nI j)), (2, .int t)] := hl
  have hS : va_S (blk a 15) s.heap s.heap [] := va_S.rf
  have hD : va_D (blk a 15) (wMo cI cJ cZ a code kn ed ct ti nm xa xb ma it vs se sm rs wk ors owk) := (blk_D (wMo_in))
  have hR : (()) = R := hR
  refine lv_aload_n hx hb d_Md_sum_0 rfl (lv_at hl 0 rfl) ?_
  refine lv_iload_n hx hb d_Md_sum_1 rfl (lv_at hl 1 rfl) ?_
  refine lv_iload_n hx hb d_Md_sum_2 rfl (lv_at hl 2 rfl) ?_
  refine lv_bipush (v := 16) hx hb d_Md_sum_3 (by decide) ?_
  refine ep_callH (W.runV (As := [.int (nI j), .int t, .int 16]) (rest := []) ⟨hx, hb, hml, hown, hg⟩ (m_Mo_isNotFor_w l D cI cJ cZ cO a code kn ed ct ti nm xa xb ma it vs se sm rs wk ors owk j t 16 (by omega) hlk hw _ rfl) (ep_cwV 3 hg tw_828 tw_830 ts_16 tw_12 tk_Md_isNotFor rfl rfl (by decide +kernel) ⟨(Nat.le_of_ble_eq_true rfl), (Nat.le_of_ble_eq_true rfl)⟩) ⟨ep_blind, va_recv (q0 := 0) (ci := 9) hK hP rfl rfl, ep_pre hKn (hP)⟩ rfl rfl hl.1 rfl (lv_room (Nat.le_of_ble_eq_true rfl)) d_Md_sum_5 ⟨Nat.zero_le _, Nat.zero_le _⟩) hS (fun q h => h) (fun H locs hsz9 hk1 hP1 hS => ?_)
  refine W.eq (g2 := F0 m 8 ls [.int 1]) rfl ?_
  have hP : va_P D cls (wMo cI cJ cZ a 2 kn ed ct ti nm xa xb ma it vs se sm rs wk ors owk) H := hP1
  have hD : va_D (blk a 15) (wMo cI cJ cZ a 2 kn ed ct ti nm xa xb ma it vs se sm rs wk ors owk) := (blk_D (wMo_in))
  refine lv_if_eq (tgt := 15) hx hb d_Md_sum_8 (by decide) (fun hc => False.elim (by revert hc; decide)) (fun hc => ?_)
  refine lv_lconst (v := 0) hx hb d_Md_sum_11 (by decide) ?_
  refine lv_goto (tgt := 19) hx hb d_Md_sum_12 (by decide) ?_
  subst hR
  exact W.lret (v := 0) hx hb hr (fun t9 ht hW => ⟨rfl, hS.F ht, by rw [ht]; exact hP⟩) hS.2.2 d_Md_sum_19

def f_Mo_sum_4 (ti : Nat → Int32) (xa : Nat → Int32) (it : Nat → Int32) (vs : Nat → Int32) (se : Nat → Int32) (rs : Nat → Int64) (wk : Nat → Int32) (n : Nat) (j : Nat) (t : Int32) : Int64 × Int32 × (Nat → Int32) × (Nat → Int32) × (Nat → Int32) × Int64 × (Nat → Int64) × (Nat → Int32) := ((f_Mo_isNotFor_4_16 ti xa it vs se rs wk n j t).2.2.2.2.1, (f_Mo_isNotFor_4_16 ti xa it vs se rs wk n j t).1, (f_Mo_isNotFor_4_16 ti xa it vs se rs wk n j t).2.1, (f_Mo_isNotFor_4_16 ti xa it vs se rs wk n j t).2.2.1, (f_Mo_isNotFor_4_16 ti xa it vs se rs wk n j t).2.2.2.1, (f_Mo_isNotFor_4_16 ti xa it vs se rs wk n j t).2.2.2.2.1, (f_Mo_isNotFor_4_16 ti xa it vs se rs wk n j t).2.2.2.2.2.1, (f_Mo_isNotFor_4_16 ti xa it vs se rs wk n j t).2.2.2.2.2.2)
set_option maxHeartbeats 4000000 in
set_option maxRecDepth 100000 in
theorem m_Mo_sum_4 (l : Launch) (D : va_G) (cI cJ cZ cO : ClassId) (a : Nat) (code : Int32) (kn : Nat → Int32) (ed : Nat → Int32) (ct : Nat → Int32) (ti : Nat → Int32) (nm : Nat → Int32) (xa : Nat → Int32) (xb : Nat → Int32) (ma : Int32) (it : Nat → Int32) (vs : Nat → Int32) (se : Nat → Int32) (sm : Int64) (rs : Nat → Int64) (wk : Nat → Int32) (ors : Nat → Int64) (owk : Nat → Int32) (n : Nat) (j : Nat) (t : Int32) (hj : j < 4) (hlk : (f_Mo_lacks kn j t).1 = 0) (hk : kn j = 5) (hct : ct j = nI n) (hn : n ≤ 32) (R : Int64 × Int32 × (Nat → Int32) × (Nat → Int32) × (Nat → Int32) × Int64 × (Nat → Int64) × (Nat → Int32)) (hR : f_Mo_sum_4 ti xa it vs se rs wk n j t = R) : Met l y_Md_sum (k_Md_sum :: gt) rm_Md_sum (Pc0 D cI cJ cZ cO [.ref a, .int (nI j), .int t] (fun H => va_P D cls (wMo cI cJ cZ a code kn ed ct ti nm xa xb ma it vs se sm rs wk ors owk) H)) (Qd (blk a 15) (some (.long R.1)) (fun H => va_P D cls (wMo cI cJ cZ a 0 kn ed ct ti nm xa xb R.2.1 R.2.2.1 R.2.2.2.1 R.2.2.2.2.1 R.2.2.2.2.2.1 R.2.2.2.2.2.2.1 R.2.2.2.2.2.2.2 ors owk) H)) 0 0 (blk a 15) := by
  refine Met.ofW (cc := c_Md_sum) (maxL := 3) (ret := (Option.some FieldType.long)) (by decide) rfl ?_
  intro p e s m args below meth c s₁ B hml hv
  obtain ⟨rfl, hKn, hP⟩ := hv
  have hx := B.exec
  have hb := B.bytes
  have hr := B.returns
  have hts := atoms_spec (ws := k_Md_sum :: gt) B.pre
  have hg : ∀ w ∈ gt, w.before _ s = true := fun w h => hts w (List.mem_cons_of_mem _ h)
  have hown : s.vm.findClass R_Md = some m.cls := findClass_of_methodNamed B.named
  have hlocks := B.notSynchronized
  have hK := hKn.1
  have hl := lv_entry ([.ref a, .int (nI j), .int t]) (n := 3) (Nat.le_of_ble_eq_true rfl)
  rw [lg_entry_eq]
  generalize (lg_sl ([.ref a, .int (nI j), .int t]) ++ List.replicate (3 - (lg_sl ([.ref a, .int (nI j), .int t])).length) Slot.unset).toArray = ls at hl ⊢
  have hl : lv_has ls 3 [(0, .ref a), (1, .int (nI j)), (2, .int t)] := hl
  have hS : va_S (blk a 15) s.heap s.heap [] := va_S.rf
  have hD : va_D (blk a 15) (wMo cI cJ cZ a code kn ed ct ti nm xa xb ma it vs se sm rs wk ors owk) := (blk_D (wMo_in))
  have hR : (((f_Mo_isNotFor_4_16 ti xa it vs se rs wk n j t).2.2.2.2.1, (f_Mo_isNotFor_4_16 ti xa it vs se rs wk n j t).1, (f_Mo_isNotFor_4_16 ti xa it vs se rs wk n j t).2.1, (f_Mo_isNotFor_4_16 ti xa it vs se rs wk n j t).2.2.1, (f_Mo_isNotFor_4_16 ti xa it vs se rs wk n j t).2.2.2.1, (f_Mo_isNotFor_4_16 ti xa it vs se rs wk n j t).2.2.2.2.1, (f_Mo_isNotFor_4_16 ti xa it vs se rs wk n j t).2.2.2.2.2.1, (f_Mo_isNotFor_4_16 ti xa it vs se rs wk n j t).2.2.2.2.2.2)) = R := hR
  refine lv_aload_n hx hb d_Md_sum_0 rfl (lv_at hl 0 rfl) ?_
  refine lv_iload_n hx hb d_Md_sum_1 rfl (lv_at hl 1 rfl) ?_
  refine lv_iload_n hx hb d_Md_sum_2 rfl (lv_at hl 2 rfl) ?_
  refine lv_bipush (v := 16) hx hb d_Md_sum_3 (by decide) ?_
  refine ep_callH (W.runV (As := [.int (nI j), .int t, .int 16]) (rest := []) ⟨hx, hb, hml, hown, hg⟩ (m_Mo_isNotFor_4_16 l D cI cJ cZ cO a code kn ed ct ti nm xa xb ma it vs se sm rs wk ors owk n j t (by omega) hlk hk hct (by omega) _ rfl) (ep_cwV 3 hg tw_828 tw_830 ts_16 tw_12 tk_Md_isNotFor rfl rfl (by decide +kernel) ⟨(Nat.le_of_ble_eq_true rfl), (Nat.le_of_ble_eq_true rfl)⟩) ⟨ep_blind, va_recv (q0 := 0) (ci := 9) hK hP rfl rfl, ep_pre hKn (hP)⟩ rfl rfl hl.1 rfl (lv_room (Nat.le_of_ble_eq_true rfl)) d_Md_sum_5 ⟨Nat.zero_le _, Nat.zero_le _⟩) hS (fun q h => h) (fun H locs hsz9 hk1 hP1 hS => ?_)
  refine W.eq (g2 := F0 m 8 ls [.int 0]) rfl ?_
  have hP : va_P D cls (wMo cI cJ cZ a 0 kn ed ct ti nm xa xb ((f_Mo_isNotFor_4_16 ti xa it vs se rs wk n j t).1) ((f_Mo_isNotFor_4_16 ti xa it vs se rs wk n j t).2.1) ((f_Mo_isNotFor_4_16 ti xa it vs se rs wk n j t).2.2.1) ((f_Mo_isNotFor_4_16 ti xa it vs se rs wk n j t).2.2.2.1) ((f_Mo_isNotFor_4_16 ti xa it vs se rs wk n j t).2.2.2.2.1) ((f_Mo_isNotFor_4_16 ti xa it vs se rs wk n j t).2.2.2.2.2.1) ((f_Mo_isNotFor_4_16 ti xa it vs se rs wk n j t).2.2.2.2.2.2) ors owk) H := hP1
  have hD : va_D (blk a 15) (wMo cI cJ cZ a 0 kn ed ct ti nm xa xb ((f_Mo_isNotFor_4_16 ti xa it vs se rs wk n j t).1) ((f_Mo_isNotFor_4_16 ti xa it vs se rs wk n j t).2.1) ((f_Mo_isNotFor_4_16 ti xa it vs se rs wk n j t).2.2.1) ((f_Mo_isNotFor_4_16 ti xa it vs se rs wk n j t).2.2.2.1) ((f_Mo_isNotFor_4_16 ti xa it vs se rs wk n j t).2.2.2.2.1) ((f_Mo_isNotFor_4_16 ti xa it vs se rs wk n j t).2.2.2.2.2.1) ((f_Mo_isNotFor_4_16 ti xa it vs se rs wk n j t).2.2.2.2.2.2) ors owk) := (blk_D (wMo_in))
  refine lv_if_eq (tgt := 15) hx hb d_Md_sum_8 (by decide) (fun hc => ?_) (fun hc => False.elim (by revert hc; decide))
  refine lv_aload_n hx hb d_Md_sum_15 rfl (lv_at hl 0 rfl) ?_
  refine va_get (D := D) (ci := 9) (v := .long ((f_Mo_isNotFor_4_16 ti xa it vs se rs wk n j t).2.2.2.2.1)) (C := R_Md) (T := F_Md) (N := 17) hx hb hg in_Md hown hK hP 0 rfl rfl 12 (Nat.le_of_ble_eq_true rfl) (hg _ tw_718) (fun _ h9 => h9) rfl d_Md_sum_16 ?_
  subst hR
  exact W.lret (v := ((f_Mo_isNotFor_4_16 ti xa it vs se rs wk n j t).2.2.2.2.1)) hx hb hr (fun t9 ht hW => ⟨rfl, hS.F ht, by rw [ht]; exact hP⟩) hS.2.2 d_Md_sum_19

def f_Mo_least_e (kn : Nat → Int32) (j : Nat) (t : Int32) : Int32 := (f_Mo_isNotFor_e kn j t)
set_option maxHeartbeats 4000000 in
set_option maxRecDepth 100000 in
theorem m_Mo_least_e (l : Launch) (D : va_G) (cI cJ cZ cO : ClassId) (a : Nat) (code : Int32) (kn : Nat → Int32) (ed : Nat → Int32) (ct : Nat → Int32) (ti : Nat → Int32) (nm : Nat → Int32) (xa : Nat → Int32) (xb : Nat → Int32) (ma : Int32) (it : Nat → Int32) (vs : Nat → Int32) (se : Nat → Int32) (sm : Int64) (rs : Nat → Int64) (wk : Nat → Int32) (ors : Nat → Int64) (owk : Nat → Int32) (j : Nat) (t : Int32) (x : Int32) (hj : j < 4) (hlk : ¬ (f_Mo_lacks kn j t).1 = 0) (R : Int32) (hR : f_Mo_least_e kn j t = R) : Met l y_Md_least (k_Md_least :: gt) rm_Md_least (Pc0 D cI cJ cZ cO [.ref a, .int (nI j), .int t, .int x] (fun H => va_P D cls (wMo cI cJ cZ a code kn ed ct ti nm xa xb ma it vs se sm rs wk ors owk) H)) (Qd (blk a 15) (some (.int 0)) (fun H => va_P D cls (wMo cI cJ cZ a R kn ed ct ti nm xa xb ma it vs se sm rs wk ors owk) H)) 0 0 (blk a 15) := by
  refine Met.ofW (cc := c_Md_least) (maxL := 5) (ret := (Option.some FieldType.int)) (by decide) rfl ?_
  intro p e s m args below meth c s₁ B hml hv
  obtain ⟨rfl, hKn, hP⟩ := hv
  have hx := B.exec
  have hb := B.bytes
  have hr := B.returns
  have hts := atoms_spec (ws := k_Md_least :: gt) B.pre
  have hg : ∀ w ∈ gt, w.before _ s = true := fun w h => hts w (List.mem_cons_of_mem _ h)
  have hown : s.vm.findClass R_Md = some m.cls := findClass_of_methodNamed B.named
  have hlocks := B.notSynchronized
  have hK := hKn.1
  have hl := lv_entry ([.ref a, .int (nI j), .int t, .int x]) (n := 5) (Nat.le_of_ble_eq_true rfl)
  rw [lg_entry_eq]
  generalize (lg_sl ([.ref a, .int (nI j), .int t, .int x]) ++ List.replicate (5 - (lg_sl ([.ref a, .int (nI j), .int t, .int x])).length) Slot.unset).toArray = ls at hl ⊢
  have hl : lv_has ls 5 [(0, .ref a), (1, .int (nI j)), (2, .int t), (3, .int x)] := hl
  have hS : va_S (blk a 15) s.heap s.heap [] := va_S.rf
  have hD : va_D (blk a 15) (wMo cI cJ cZ a code kn ed ct ti nm xa xb ma it vs se sm rs wk ors owk) := (blk_D (wMo_in))
  have hR : ((f_Mo_isNotFor_e kn j t)) = R := hR
  refine lv_aload_n hx hb d_Md_least_0 rfl (lv_at hl 0 rfl) ?_
  refine lv_iload_n hx hb d_Md_least_1 rfl (lv_at hl 1 rfl) ?_
  refine lv_iload_n hx hb d_Md_least_2 rfl (lv_at hl 2 rfl) ?_
  refine lv_bipush (v := 8) hx hb d_Md_least_3 (by decide) ?_
  refine ep_callH (W.runV (As := [.int (nI j), .int t, .int 8]) (rest := []) ⟨hx, hb, hml, hown, hg⟩ (m_Mo_isNotFor_e l D cI cJ cZ cO a code kn ed ct ti nm xa xb ma it vs se sm rs wk ors owk j t 8 (by omega) hlk _ rfl) (ep_cwV 3 hg tw_828 tw_830 ts_16 tw_12 tk_Md_isNotFor rfl rfl (by decide +kernel) ⟨(Nat.le_of_ble_eq_true rfl), (Nat.le_of_ble_eq_true rfl)⟩) ⟨ep_blind, va_recv (q0 := 0) (ci := 9) hK hP rfl rfl, ep_pre hKn (hP)⟩ rfl rfl hl.1 rfl (lv_room (Nat.le_of_ble_eq_true rfl)) d_Md_least_5 ⟨Nat.zero_le _, Nat.zero_le _⟩) hS (fun q h => h) (fun H locs hsz9 hk1 hP1 hS => ?_)
  refine W.eq (g2 := F0 m 8 ls [.int 1]) rfl ?_
  have hP : va_P D cls (wMo cI cJ cZ a (f_Mo_isNotFor_e kn j t) kn ed ct ti nm xa xb ma it vs se sm rs wk ors owk) H := hP1
  have hD : va_D (blk a 15) (wMo cI cJ cZ a (f_Mo_isNotFor_e kn j t) kn ed ct ti nm xa xb ma it vs se sm rs wk ors owk) := (blk_D (wMo_in))
  refine lv_if_eq (tgt := 13) hx hb d_Md_least_8 (by decide) (fun hc => False.elim (by revert hc; decide)) (fun hc => ?_)
  refine lv_iconst (v := 0) hx hb d_Md_least_11 (by decide) ?_
  subst hR
  exact W.iret (v := 0) hx hb hr (fun t9 ht hW => ⟨rfl, hS.F ht, by rw [ht]; exact hP⟩) hS.2.2 d_Md_least_12

def f_Mo_least_b  : Int32 := f_Mo_isNotFor_b
set_option maxHeartbeats 4000000 in
set_option maxRecDepth 100000 in
theorem m_Mo_least_b (l : Launch) (D : va_G) (cI cJ cZ cO : ClassId) (a : Nat) (code : Int32) (kn : Nat → Int32) (ed : Nat → Int32) (ct : Nat → Int32) (ti : Nat → Int32) (nm : Nat → Int32) (xa : Nat → Int32) (xb : Nat → Int32) (ma : Int32) (it : Nat → Int32) (vs : Nat → Int32) (se : Nat → Int32) (sm : Int64) (rs : Nat → Int64) (wk : Nat → Int32) (ors : Nat → Int64) (owk : Nat → Int32) (id : Int32) (t : Int32) (x : Int32) (hid : ¬ okI id) (R : Int32) (hR : f_Mo_least_b = R) : Met l y_Md_least (k_Md_least :: gt) rm_Md_least (Pc0 D cI cJ cZ cO [.ref a, .int id, .int t, .int x] (fun H => va_P D cls (wMo cI cJ cZ a code kn ed ct ti nm xa xb ma it vs se sm rs wk ors owk) H)) (Qd (blk a 15) (some (.int 0)) (fun H => va_P D cls (wMo cI cJ cZ a R kn ed ct ti nm xa xb ma it vs se sm rs wk ors owk) H)) 0 0 (blk a 15) := by
  refine Met.ofW (cc := c_Md_least) (maxL := 5) (ret := (Option.some FieldType.int)) (by decide) rfl ?_
  intro p e s m args below meth c s₁ B hml hv
  obtain ⟨rfl, hKn, hP⟩ := hv
  have hx := B.exec
  have hb := B.bytes
  have hr := B.returns
  have hts := atoms_spec (ws := k_Md_least :: gt) B.pre
  have hg : ∀ w ∈ gt, w.before _ s = true := fun w h => hts w (List.mem_cons_of_mem _ h)
  have hown : s.vm.findClass R_Md = some m.cls := findClass_of_methodNamed B.named
  have hlocks := B.notSynchronized
  have hK := hKn.1
  have hl := lv_entry ([.ref a, .int id, .int t, .int x]) (n := 5) (Nat.le_of_ble_eq_true rfl)
  rw [lg_entry_eq]
  generalize (lg_sl ([.ref a, .int id, .int t, .int x]) ++ List.replicate (5 - (lg_sl ([.ref a, .int id, .int t, .int x])).length) Slot.unset).toArray = ls at hl ⊢
  have hl : lv_has ls 5 [(0, .ref a), (1, .int id), (2, .int t), (3, .int x)] := hl
  have hS : va_S (blk a 15) s.heap s.heap [] := va_S.rf
  have hD : va_D (blk a 15) (wMo cI cJ cZ a code kn ed ct ti nm xa xb ma it vs se sm rs wk ors owk) := (blk_D (wMo_in))
  have hR : (f_Mo_isNotFor_b) = R := hR
  refine lv_aload_n hx hb d_Md_least_0 rfl (lv_at hl 0 rfl) ?_
  refine lv_iload_n hx hb d_Md_least_1 rfl (lv_at hl 1 rfl) ?_
  refine lv_iload_n hx hb d_Md_least_2 rfl (lv_at hl 2 rfl) ?_
  refine lv_bipush (v := 8) hx hb d_Md_least_3 (by decide) ?_
  refine ep_callH (W.runV (As := [.int id, .int t, .int 8]) (rest := []) ⟨hx, hb, hml, hown, hg⟩ (m_Mo_isNotFor_b l D cI cJ cZ cO a code kn ed ct ti nm xa xb ma it vs se sm rs wk ors owk id t 8 hid _ rfl) (ep_cwV 3 hg tw_828 tw_830 ts_16 tw_12 tk_Md_isNotFor rfl rfl (by decide +kernel) ⟨(Nat.le_of_ble_eq_true rfl), (Nat.le_of_ble_eq_true rfl)⟩) ⟨ep_blind, va_recv (q0 := 0) (ci := 9) hK hP rfl rfl, ep_pre hKn (hP)⟩ rfl rfl hl.1 rfl (lv_room (Nat.le_of_ble_eq_true rfl)) d_Md_least_5 ⟨Nat.zero_le _, Nat.zero_le _⟩) hS (fun q h => h) (fun H locs hsz9 hk1 hP1 hS => ?_)
  refine W.eq (g2 := F0 m 8 ls [.int 1]) rfl ?_
  have hP : va_P D cls (wMo cI cJ cZ a f_Mo_isNotFor_b kn ed ct ti nm xa xb ma it vs se sm rs wk ors owk) H := hP1
  have hD : va_D (blk a 15) (wMo cI cJ cZ a f_Mo_isNotFor_b kn ed ct ti nm xa xb ma it vs se sm rs wk ors owk) := (blk_D (wMo_in))
  refine lv_if_eq (tgt := 13) hx hb d_Md_least_8 (by decide) (fun hc => False.elim (by revert hc; decide)) (fun hc => ?_)
  refine lv_iconst (v := 0) hx hb d_Md_least_11 (by decide) ?_
  subst hR
  exact W.iret (v := 0) hx hb hr (fun t9 ht hW => ⟨rfl, hS.F ht, by rw [ht]; exact hP⟩) hS.2.2 d_Md_least_12

def f_Mo_least_w  : Unit := ()
set_option maxHeartbeats 4000000 in
set_option maxRecDepth 100000 in
theorem m_Mo_least_w (l : Launch) (D : va_G) (cI cJ cZ cO : ClassId) (a : Nat) (code : Int32) (kn : Nat → Int32) (ed : Nat → Int32) (ct : Nat → Int32) (ti : Nat → Int32) (nm : Nat → Int32) (xa : Nat → Int32) (xb : Nat → Int32) (ma : Int32) (it : Nat → Int32) (vs : Nat → Int32) (se : Nat → Int32) (sm : Int64) (rs : Nat → Int64) (wk : Nat → Int32) (ors : Nat → Int64) (owk : Nat → Int32) (j : Nat) (t : Int32) (x : Int32) (hj : j < 4) (hlk : (f_Mo_lacks kn j t).1 = 0) (hw : ¬ ((8 >>> (((kn j) - 1) &&& 31)) &&& 1) = 1) (R : Unit) (hR : f_Mo_least_w = R) : Met l y_Md_least (k_Md_least :: gt) rm_Md_least (Pc0 D cI cJ cZ cO [.ref a, .int (nI j), .int t, .int x] (fun H => va_P D cls (wMo cI cJ cZ a code kn ed ct ti nm xa xb ma it vs se sm rs wk ors owk) H)) (Qd (blk a 15) (some (.int 0)) (fun H => va_P D cls (wMo cI cJ cZ a 2 kn ed ct ti nm xa xb ma it vs se sm rs wk ors owk) H)) 0 0 (blk a 15) := by
  refine Met.ofW (cc := c_Md_least) (maxL := 5) (ret := (Option.some FieldType.int)) (by decide) rfl ?_
  intro p e s m args below meth c s₁ B hml hv
  obtain ⟨rfl, hKn, hP⟩ := hv
  have hx := B.exec
  have hb := B.bytes
  have hr := B.returns
  have hts := atoms_spec (ws := k_Md_least :: gt) B.pre
  have hg : ∀ w ∈ gt, w.before _ s = true := fun w h => hts w (List.mem_cons_of_mem _ h)
  have hown : s.vm.findClass R_Md = some m.cls := findClass_of_methodNamed B.named
  have hlocks := B.notSynchronized
  have hK := hKn.1
  have hl := lv_entry ([.ref a, .int (nI j), .int t, .int x]) (n := 5) (Nat.le_of_ble_eq_true rfl)
  rw [lg_entry_eq]
  generalize (lg_sl ([.ref a, .int (nI j), .int t, .int x]) ++ List.replicate (5 - (lg_sl ([.ref a, .int (nI j), .int t, .int x])).length) Slot.unset).toArray = ls at hl ⊢
  have hl : lv_has ls 5 [(0, .ref a), (1, .int (nI j)), (2, .int t), (3, .int x)] := hl
  have hS : va_S (blk a 15) s.heap s.heap [] := va_S.rf
  have hD : va_D (blk a 15) (wMo cI cJ cZ a code kn ed ct ti nm xa xb ma it vs se sm rs wk ors owk) := (blk_D (wMo_in))
  have hR : (()) = R := hR
  refine lv_aload_n hx hb d_Md_least_0 rfl (lv_at hl 0 rfl) ?_
  refine lv_iload_n hx hb d_Md_least_1 rfl (lv_at hl 1 rfl) ?_
  refine lv_iload_n hx hb d_Md_least_2 rfl (lv_at hl 2 rfl) ?_
  refine lv_bipush (v := 8) hx hb d_Md_least_3 (by decide) ?_
  refine ep_callH (W.runV (As := [.int (nI j), .int t, .int 8]) (rest := []) ⟨hx, hb, hml, hown, hg⟩ (m_Mo_isNotFor_w l D cI cJ cZ cO a code kn ed ct ti nm xa xb ma it vs se sm rs wk ors owk j t 8 (by omega) hlk hw _ rfl) (ep_cwV 3 hg tw_828 tw_830 ts_16 tw_12 tk_Md_isNotFor rfl rfl (by decide +kernel) ⟨(Nat.le_of_ble_eq_true rfl), (Nat.le_of_ble_eq_true rfl)⟩) ⟨ep_blind, va_recv (q0 := 0) (ci := 9) hK hP rfl rfl, ep_pre hKn (hP)⟩ rfl rfl hl.1 rfl (lv_room (Nat.le_of_ble_eq_true rfl)) d_Md_least_5 ⟨Nat.zero_le _, Nat.zero_le _⟩) hS (fun q h => h) (fun H locs hsz9 hk1 hP1 hS => ?_)
  refine W.eq (g2 := F0 m 8 ls [.int 1]) rfl ?_
  have hP : va_P D cls (wMo cI cJ cZ a 2 kn ed ct ti nm xa xb ma it vs se sm rs wk ors owk) H := hP1
  have hD : va_D (blk a 15) (wMo cI cJ cZ a 2 kn ed ct ti nm xa xb ma it vs se sm rs wk ors owk) := (blk_D (wMo_in))
  refine lv_if_eq (tgt := 13) hx hb d_Md_least_8 (by decide) (fun hc => False.elim (by revert hc; decide)) (fun hc => ?_)
  refine lv_iconst (v := 0) hx hb d_Md_least_11 (by decide) ?_
  subst hR
  exact W.iret (v := 0) hx hb hr (fun t9 ht hW => ⟨rfl, hS.F ht, by rw [ht]; exact hP⟩) hS.2.2 d_Md_least_12

def f_Mo_least_3m (ti : Nat → Int32) (nm : Nat → Int32) (xa : Nat → Int32) (it : Nat → Int32) (vs : Nat → Int32) (se : Nat → Int32) (rs : Nat → Int64) (wk : Nat → Int32) (n : Nat) (j : Nat) (t : Int32) : Nat × (Nat → Int32) × (Nat → Int32) × (Nat → Int32) × Int64 × (Nat → Int64) × (Nat → Int32) := ((f_Mo_isNotFor_3_8 ti nm xa it vs se rs wk n j t).1, (f_Mo_isNotFor_3_8 ti nm xa it vs se rs wk n j t).2.1, (f_Mo_isNotFor_3_8 ti nm xa it vs se rs wk n j t).2.2.1, (f_Mo_isNotFor_3_8 ti nm xa it vs se rs wk n j t).2.2.2.1, (f_Mo_isNotFor_3_8 ti nm xa it vs se rs wk n j t).2.2.2.2.1, (f_Mo_isNotFor_3_8 ti nm xa it vs se rs wk n j t).2.2.2.2.2.1, (f_Mo_isNotFor_3_8 ti nm xa it vs se rs wk n j t).2.2.2.2.2.2)
set_option maxHeartbeats 4000000 in
set_option maxRecDepth 100000 in
theorem m_Mo_least_3m (l : Launch) (D : va_G) (cI cJ cZ cO : ClassId) (a : Nat) (code : Int32) (kn : Nat → Int32) (ed : Nat → Int32) (ct : Nat → Int32) (ti : Nat → Int32) (nm : Nat → Int32) (xa : Nat → Int32) (xb : Nat → Int32) (ma : Int32) (it : Nat → Int32) (vs : Nat → Int32) (se : Nat → Int32) (sm : Int64) (rs : Nat → Int64) (wk : Nat → Int32) (ors : Nat → Int64) (owk : Nat → Int32) (n : Nat) (j : Nat) (t : Int32) (x : Int32) (hj : j < 4) (hlk : (f_Mo_lacks kn j t).1 = 0) (hk : kn j = 4) (hct : ct j = nI n) (hn : n ≤ 32) (hx3 : x < 0) (R : Nat × (Nat → Int32) × (Nat → Int32) × (Nat → Int32) × Int64 × (Nat → Int64) × (Nat → Int32)) (hR : f_Mo_least_3m ti nm xa it vs se rs wk n j t = R) : Met l y_Md_least (k_Md_least :: gt) rm_Md_least (Pc0 D cI cJ cZ cO [.ref a, .int (nI j), .int t, .int x] (fun H => va_P D cls (wMo cI cJ cZ a code kn ed ct ti nm xa xb ma it vs se sm rs wk ors owk) H)) (Qd (blk a 15) (some (.int 0)) (fun H => va_P D cls (wMo cI cJ cZ a 3 kn ed ct ti nm xa xb (nI R.1) R.2.1 R.2.2.1 R.2.2.2.1 R.2.2.2.2.1 R.2.2.2.2.2.1 R.2.2.2.2.2.2 ors owk) H)) 0 0 (blk a 15) := by
  refine Met.ofW (cc := c_Md_least) (maxL := 5) (ret := (Option.some FieldType.int)) (by decide) rfl ?_
  intro p e s m args below meth c s₁ B hml hv
  obtain ⟨rfl, hKn, hP⟩ := hv
  have hx := B.exec
  have hb := B.bytes
  have hr := B.returns
  have hts := atoms_spec (ws := k_Md_least :: gt) B.pre
  have hg : ∀ w ∈ gt, w.before _ s = true := fun w h => hts w (List.mem_cons_of_mem _ h)
  have hown : s.vm.findClass R_Md = some m.cls := findClass_of_methodNamed B.named
  have hlocks := B.notSynchronized
  have hK := hKn.1
  have hl := lv_entry ([.ref a, .int (nI j), .int t, .int x]) (n := 5) (Nat.le_of_ble_eq_true rfl)
  rw [lg_entry_eq]
  generalize (lg_sl ([.ref a, .int (nI j), .int t, .int x]) ++ List.replicate (5 - (lg_sl ([.ref a, .int (nI j), .int t, .int x])).length) Slot.unset).toArray = ls at hl ⊢
  have hl : lv_has ls 5 [(0, .ref a), (1, .int (nI j)), (2, .int t), (3, .int x)] := hl
  have hS : va_S (blk a 15) s.heap s.heap [] := va_S.rf
  have hD : va_D (blk a 15) (wMo cI cJ cZ a code kn ed ct ti nm xa xb ma it vs se sm rs wk ors owk) := (blk_D (wMo_in))
  have hR : (((f_Mo_isNotFor_3_8 ti nm xa it vs se rs wk n j t).1, (f_Mo_isNotFor_3_8 ti nm xa it vs se rs wk n j t).2.1, (f_Mo_isNotFor_3_8 ti nm xa it vs se rs wk n j t).2.2.1, (f_Mo_isNotFor_3_8 ti nm xa it vs se rs wk n j t).2.2.2.1, (f_Mo_isNotFor_3_8 ti nm xa it vs se rs wk n j t).2.2.2.2.1, (f_Mo_isNotFor_3_8 ti nm xa it vs se rs wk n j t).2.2.2.2.2.1, (f_Mo_isNotFor_3_8 ti nm xa it vs se rs wk n j t).2.2.2.2.2.2)) = R := hR
  refine lv_aload_n hx hb d_Md_least_0 rfl (lv_at hl 0 rfl) ?_
  refine lv_iload_n hx hb d_Md_least_1 rfl (lv_at hl 1 rfl) ?_
  refine lv_iload_n hx hb d_Md_least_2 rfl (lv_at hl 2 rfl) ?_
  refine lv_bipush (v := 8) hx hb d_Md_least_3 (by decide) ?_
  refine ep_callH (W.runV (As := [.int (nI j), .int t, .int 8]) (rest := []) ⟨hx, hb, hml, hown, hg⟩ (m_Mo_isNotFor_3_8 l D cI cJ cZ cO a code kn ed ct ti nm xa xb ma it vs se sm rs wk ors owk n j t (by omega) hlk hk hct (by omega) _ rfl) (ep_cwV 3 hg tw_828 tw_830 ts_16 tw_12 tk_Md_isNotFor rfl rfl (by decide +kernel) ⟨(Nat.le_of_ble_eq_true rfl), (Nat.le_of_ble_eq_true rfl)⟩) ⟨ep_blind, va_recv (q0 := 0) (ci := 9) hK hP rfl rfl, ep_pre hKn (hP)⟩ rfl rfl hl.1 rfl (lv_room (Nat.le_of_ble_eq_true rfl)) d_Md_least_5 ⟨Nat.zero_le _, Nat.zero_le _⟩) hS (fun q h => h) (fun H locs hsz9 hk1 hP1 hS => ?_)
  refine W.eq (g2 := F0 m 8 ls [.int 0]) rfl ?_
  have hP : va_P D cls (wMo cI cJ cZ a 0 kn ed ct ti nm xa xb (nI ((f_Mo_isNotFor_3_8 ti nm xa it vs se rs wk n j t).1)) ((f_Mo_isNotFor_3_8 ti nm xa it vs se rs wk n j t).2.1) ((f_Mo_isNotFor_3_8 ti nm xa it vs se rs wk n j t).2.2.1) ((f_Mo_isNotFor_3_8 ti nm xa it vs se rs wk n j t).2.2.2.1) ((f_Mo_isNotFor_3_8 ti nm xa it vs se rs wk n j t).2.2.2.2.1) ((f_Mo_isNotFor_3_8 ti nm xa it vs se rs wk n j t).2.2.2.2.2.1) ((f_Mo_isNotFor_3_8 ti nm xa it vs se rs wk n j t).2.2.2.2.2.2) ors owk) H := hP1
  have hD : va_D (blk a 15) (wMo cI cJ cZ a 0 kn ed ct ti nm xa xb (nI ((f_Mo_isNotFor_3_8 ti nm xa it vs se rs wk n j t).1)) ((f_Mo_isNotFor_3_8 ti nm xa it vs se rs wk n j t).2.1) ((f_Mo_isNotFor_3_8 ti nm xa it vs se rs wk n j t).2.2.1) ((f_Mo_isNotFor_3_8 ti nm xa it vs se rs wk n j t).2.2.2.1) ((f_Mo_isNotFor_3_8 ti nm xa it vs se rs wk n j t).2.2.2.2.1) ((f_Mo_isNotFor_3_8 ti nm xa it vs se rs wk n j t).2.2.2.2.2.1) ((f_Mo_isNotFor_3_8 ti nm xa it vs se rs wk n j t).2.2.2.2.2.2) ors owk) := (blk_D (wMo_in))
  have hm9 : (f_Mo_isNotFor_3_8 ti nm xa it vs se rs wk n j t).1 ≤ n := run_le_3 _ _ _ _ _ _ _ _ _ _ _
  refine lv_if_eq (tgt := 13) hx hb d_Md_least_8 (by decide) (fun hc => ?_) (fun hc => False.elim (by revert hc; decide))
  refine lv_aload_n hx hb d_Md_least_13 rfl (lv_at hl 0 rfl) ?_
  refine lv_iload_n hx hb d_Md_least_14 rfl (lv_at hl 3 rfl) ?_
  refine lv_if_lt (tgt := 26) hx hb d_Md_least_15 (by decide) (fun hc => ?_) (fun hc => absurd hx3 hc)
  refine lv_iconst (v := 3) hx hb d_Md_least_26 (by decide) ?_
  refine lv_goto (tgt := 31) hx hb d_Md_least_27 (by decide) ?_
  refine va_put (D := D) (ci := 9) (v := .int 3) (ty := .int) (C := R_Md) (T := F_Md) (N := 17) hx hb hg in_Md t_Md t_Md_ok n_Md hown hK hP hD hS 0 rfl rfl 0 (Nat.le_of_ble_eq_true rfl) (hg _ tw_706) (fun _ h9 => h9) rfl (by decide +kernel) rfl rfl (Nat.le_of_ble_eq_true rfl) d_Md_least_31 (fun H locs hP hD hS => ?_)
  have hP : va_P D cls (wMo cI cJ cZ a 3 kn ed ct ti nm xa xb (nI ((f_Mo_isNotFor_3_8 ti nm xa it vs se rs wk n j t).1)) ((f_Mo_isNotFor_3_8 ti nm xa it vs se rs wk n j t).2.1) ((f_Mo_isNotFor_3_8 ti nm xa it vs se rs wk n j t).2.2.1) ((f_Mo_isNotFor_3_8 ti nm xa it vs se rs wk n j t).2.2.2.1) ((f_Mo_isNotFor_3_8 ti nm xa it vs se rs wk n j t).2.2.2.2.1) ((f_Mo_isNotFor_3_8 ti nm xa it vs se rs wk n j t).2.2.2.2.2.1) ((f_Mo_isNotFor_3_8 ti nm xa it vs se rs wk n j t).2.2.2.2.2.2) ors owk) H := hP
  have hD : va_D (blk a 15) (wMo cI cJ cZ a 3 kn ed ct ti nm xa xb (nI ((f_Mo_isNotFor_3_8 ti nm xa it vs se rs wk n j t).1)) ((f_Mo_isNotFor_3_8 ti nm xa it vs se rs wk n j t).2.1) ((f_Mo_isNotFor_3_8 ti nm xa it vs se rs wk n j t).2.2.1) ((f_Mo_isNotFor_3_8 ti nm xa it vs se rs wk n j t).2.2.2.1) ((f_Mo_isNotFor_3_8 ti nm xa it vs se rs wk n j t).2.2.2.2.1) ((f_Mo_isNotFor_3_8 ti nm xa it vs se rs wk n j t).2.2.2.2.2.1) ((f_Mo_isNotFor_3_8 ti nm xa it vs se rs wk n j t).2.2.2.2.2.2) ors owk) := hD
  refine lv_iconst (v := 0) hx hb d_Md_least_34 (by decide) ?_
  refine lv_istore (lv' := [(4, .int 0), (0, .ref a), (1, .int (nI j)), (2, .int t), (3, .int x)]) hx hb d_Md_least_35 hl (by decide) rfl (fun ls hl => ?_)
  refine lv_iload hx hb d_Md_least_37 (lv_at hl 0 rfl) ?_
  refine lv_iload_n hx hb d_Md_least_39 rfl (lv_at hl 4 rfl) ?_
  refine lv_icmp_ge (tgt := 65) hx hb d_Md_least_40 (by decide) (fun hc => ?_) (fun hc => absurd (Int32.le_of_lt hx3) hc)
  refine lv_aload_n hx hb d_Md_least_65 rfl (lv_at hl 1 rfl) ?_
  refine va_get (D := D) (ci := 9) (v := .int 3) (C := R_Md) (T := F_Md) (N := 17) hx hb hg in_Md hown hK hP 0 rfl rfl 0 (Nat.le_of_ble_eq_true rfl) (hg _ tw_706) (fun _ h9 => h9) rfl d_Md_least_66 ?_
  refine lv_if_le (tgt := 76) hx hb d_Md_least_69 (by decide) (fun hc => False.elim (by revert hc; decide)) (fun hc => ?_)
  refine lv_iconst (v := 0) hx hb d_Md_least_72 (by decide) ?_
  refine lv_goto (tgt := 86) hx hb d_Md_least_73 (by decide) ?_
  subst hR
  exact W.iret (v := 0) hx hb hr (fun t9 ht hW => ⟨rfl, hS.F ht, by rw [ht]; exact hP⟩) hS.2.2 d_Md_least_86

def f_Mo_least_3o (ti : Nat → Int32) (nm : Nat → Int32) (xa : Nat → Int32) (it : Nat → Int32) (vs : Nat → Int32) (se : Nat → Int32) (rs : Nat → Int64) (wk : Nat → Int32) (n : Nat) (j : Nat) (t : Int32) (x : Nat) : Nat × (Nat → Int32) × (Nat → Int32) × (Nat → Int32) × Int64 × (Nat → Int64) × (Nat → Int32) := if x ≤ 0 then (((f_Mo_isNotFor_3_8 ti nm xa it vs se rs wk n j t).1, (f_Mo_isNotFor_3_8 ti nm xa it vs se rs wk n j t).2.1, (f_Mo_isNotFor_3_8 ti nm xa it vs se rs wk n j t).2.2.1, (f_Mo_isNotFor_3_8 ti nm xa it vs se rs wk n j t).2.2.2.1, (f_Mo_isNotFor_3_8 ti nm xa it vs se rs wk n j t).2.2.2.2.1, (f_Mo_isNotFor_3_8 ti nm xa it vs se rs wk n j t).2.2.2.2.2.1, (f_Mo_isNotFor_3_8 ti nm xa it vs se rs wk n j t).2.2.2.2.2.2)) else (((f_Mo_isNotFor_3_8 ti nm xa it vs se rs wk n j t).1, (f_Mo_isNotFor_3_8 ti nm xa it vs se rs wk n j t).2.1, (f_Mo_isNotFor_3_8 ti nm xa it vs se rs wk n j t).2.2.1, (f_Mo_isNotFor_3_8 ti nm xa it vs se rs wk n j t).2.2.2.1, (f_Mo_isNotFor_3_8 ti nm xa it vs se rs wk n j t).2.2.2.2.1, (f_Mo_isNotFor_3_8 ti nm xa it vs se rs wk n j t).2.2.2.2.2.1, (f_Mo_isNotFor_3_8 ti nm xa it vs se rs wk n j t).2.2.2.2.2.2))
set_option maxHeartbeats 4000000 in
set_option maxRecDepth 100000 in
theorem m_Mo_least_3o (l : Launch) (D : va_G) (cI cJ cZ cO : ClassId) (a : Nat) (code : Int32) (kn : Nat → Int32) (ed : Nat → Int32) (ct : Nat → Int32) (ti : Nat → Int32) (nm : Nat → Int32) (xa : Nat → Int32) (xb : Nat → Int32) (ma : Int32) (it : Nat → Int32) (vs : Nat → Int32) (se : Nat → Int32) (sm : Int64) (rs : Nat → Int64) (wk : Nat → Int32) (ors : Nat → Int64) (owk : Nat → Int32) (n : Nat) (j : Nat) (t : Int32) (x : Nat) (hj : j < 4) (hlk : (f_Mo_lacks kn j t).1 = 0) (hk : kn j = 4) (hct : ct j = nI n) (hn : n ≤ 32) (hx3 : x < 2 ^ 31) (hx4 : (f_Mo_isNotFor_3_8 ti nm xa it vs se rs wk n j t).1 ≤ x) (R : Nat × (Nat → Int32) × (Nat → Int32) × (Nat → Int32) × Int64 × (Nat → Int64) × (Nat → Int32)) (hR : f_Mo_least_3o ti nm xa it vs se rs wk n j t x = R) : Met l y_Md_least (k_Md_least :: gt) rm_Md_least (Pc0 D cI cJ cZ cO [.ref a, .int (nI j), .int t, .int (nI x)] (fun H => va_P D cls (wMo cI cJ cZ a code kn ed ct ti nm xa xb ma it vs se sm rs wk ors owk) H)) (Qd (blk a 15) (some (.int 0)) (fun H => va_P D cls (wMo cI cJ cZ a 3 kn ed ct ti nm xa xb (nI R.1) R.2.1 R.2.2.1 R.2.2.2.1 R.2.2.2.2.1 R.2.2.2.2.2.1 R.2.2.2.2.2.2 ors owk) H)) 0 0 (blk a 15) := by
  refine Met.ofW (cc := c_Md_least) (maxL := 5) (ret := (Option.some FieldType.int)) (by decide) rfl ?_
  intro p e s m args below meth c s₁ B hml hv
  obtain ⟨rfl, hKn, hP⟩ := hv
  have hx := B.exec
  have hb := B.bytes
  have hr := B.returns
  have hts := atoms_spec (ws := k_Md_least :: gt) B.pre
  have hg : ∀ w ∈ gt, w.before _ s = true := fun w h => hts w (List.mem_cons_of_mem _ h)
  have hown : s.vm.findClass R_Md = some m.cls := findClass_of_methodNamed B.named
  have hlocks := B.notSynchronized
  have hK := hKn.1
  have hl := lv_entry ([.ref a, .int (nI j), .int t, .int (nI x)]) (n := 5) (Nat.le_of_ble_eq_true rfl)
  rw [lg_entry_eq]
  generalize (lg_sl ([.ref a, .int (nI j), .int t, .int (nI x)]) ++ List.replicate (5 - (lg_sl ([.ref a, .int (nI j), .int t, .int (nI x)])).length) Slot.unset).toArray = ls at hl ⊢
  have hl : lv_has ls 5 [(0, .ref a), (1, .int (nI j)), (2, .int t), (3, .int (nI x))] := hl
  have hS : va_S (blk a 15) s.heap s.heap [] := va_S.rf
  have hD : va_D (blk a 15) (wMo cI cJ cZ a code kn ed ct ti nm xa xb ma it vs se sm rs wk ors owk) := (blk_D (wMo_in))
  have hR : (if x ≤ 0 then (((f_Mo_isNotFor_3_8 ti nm xa it vs se rs wk n j t).1, (f_Mo_isNotFor_3_8 ti nm xa it vs se rs wk n j t).2.1, (f_Mo_isNotFor_3_8 ti nm xa it vs se rs wk n j t).2.2.1, (f_Mo_isNotFor_3_8 ti nm xa it vs se rs wk n j t).2.2.2.1, (f_Mo_isNotFor_3_8 ti nm xa it vs se rs wk n j t).2.2.2.2.1, (f_Mo_isNotFor_3_8 ti nm xa it vs se rs wk n j t).2.2.2.2.2.1, (f_Mo_isNotFor_3_8 ti nm xa it vs se rs wk n j t).2.2.2.2.2.2)) else (((f_Mo_isNotFor_3_8 ti nm xa it vs se rs wk n j t).1, (f_Mo_isNotFor_3_8 ti nm xa it vs se rs wk n j t).2.1, (f_Mo_isNotFor_3_8 ti nm xa it vs se rs wk n j t).2.2.1, (f_Mo_isNotFor_3_8 ti nm xa it vs se rs wk n j t).2.2.2.1, (f_Mo_isNotFor_3_8 ti nm xa it vs se rs wk n j t).2.2.2.2.1, (f_Mo_isNotFor_3_8 ti nm xa it vs se rs wk n j t).2.2.2.2.2.1, (f_Mo_isNotFor_3_8 ti nm xa it vs se rs wk n j t).2.2.2.2.2.2))) = R := hR
  refine lv_aload_n hx hb d_Md_least_0 rfl (lv_at hl 0 rfl) ?_
  refine lv_iload_n hx hb d_Md_least_1 rfl (lv_at hl 1 rfl) ?_
  refine lv_iload_n hx hb d_Md_least_2 rfl (lv_at hl 2 rfl) ?_
  refine lv_bipush (v := 8) hx hb d_Md_least_3 (by decide) ?_
  refine ep_callH (W.runV (As := [.int (nI j), .int t, .int 8]) (rest := []) ⟨hx, hb, hml, hown, hg⟩ (m_Mo_isNotFor_3_8 l D cI cJ cZ cO a code kn ed ct ti nm xa xb ma it vs se sm rs wk ors owk n j t (by omega) hlk hk hct (by omega) _ rfl) (ep_cwV 3 hg tw_828 tw_830 ts_16 tw_12 tk_Md_isNotFor rfl rfl (by decide +kernel) ⟨(Nat.le_of_ble_eq_true rfl), (Nat.le_of_ble_eq_true rfl)⟩) ⟨ep_blind, va_recv (q0 := 0) (ci := 9) hK hP rfl rfl, ep_pre hKn (hP)⟩ rfl rfl hl.1 rfl (lv_room (Nat.le_of_ble_eq_true rfl)) d_Md_least_5 ⟨Nat.zero_le _, Nat.zero_le _⟩) hS (fun q h => h) (fun H locs hsz9 hk1 hP1 hS => ?_)
  refine W.eq (g2 := F0 m 8 ls [.int 0]) rfl ?_
  have hP : va_P D cls (wMo cI cJ cZ a 0 kn ed ct ti nm xa xb (nI ((f_Mo_isNotFor_3_8 ti nm xa it vs se rs wk n j t).1)) ((f_Mo_isNotFor_3_8 ti nm xa it vs se rs wk n j t).2.1) ((f_Mo_isNotFor_3_8 ti nm xa it vs se rs wk n j t).2.2.1) ((f_Mo_isNotFor_3_8 ti nm xa it vs se rs wk n j t).2.2.2.1) ((f_Mo_isNotFor_3_8 ti nm xa it vs se rs wk n j t).2.2.2.2.1) ((f_Mo_isNotFor_3_8 ti nm xa it vs se rs wk n j t).2.2.2.2.2.1) ((f_Mo_isNotFor_3_8 ti nm xa it vs se rs wk n j t).2.2.2.2.2.2) ors owk) H := hP1
  have hD : va_D (blk a 15) (wMo cI cJ cZ a 0 kn ed ct ti nm xa xb (nI ((f_Mo_isNotFor_3_8 ti nm xa it vs se rs wk n j t).1)) ((f_Mo_isNotFor_3_8 ti nm xa it vs se rs wk n j t).2.1) ((f_Mo_isNotFor_3_8 ti nm xa it vs se rs wk n j t).2.2.1) ((f_Mo_isNotFor_3_8 ti nm xa it vs se rs wk n j t).2.2.2.1) ((f_Mo_isNotFor_3_8 ti nm xa it vs se rs wk n j t).2.2.2.2.1) ((f_Mo_isNotFor_3_8 ti nm xa it vs se rs wk n j t).2.2.2.2.2.1) ((f_Mo_isNotFor_3_8 ti nm xa it vs se rs wk n j t).2.2.2.2.2.2) ors owk) := (blk_D (wMo_in))
  have hm9 : (f_Mo_isNotFor_3_8 ti nm xa it vs se rs wk n j t).1 ≤ n := run_le_3 _ _ _ _ _ _ _ _ _ _ _
  refine lv_if_eq (tgt := 13) hx hb d_Md_least_8 (by decide) (fun hc => ?_) (fun hc => False.elim (by revert hc; decide))
  refine lv_aload_n hx hb d_Md_least_13 rfl (lv_at hl 0 rfl) ?_
  refine lv_iload_n hx hb d_Md_least_14 rfl (lv_at hl 3 rfl) ?_
  refine lv_if_lt (tgt := 26) hx hb d_Md_least_15 (by decide) (fun hc => False.elim (by have hc := (nI_ltI (a := x) (b := 0) (by omega) (by omega)).mp hc; omega)) (fun hc => ?_)
  refine lv_iload_n hx hb d_Md_least_18 rfl (lv_at hl 3 rfl) ?_
  refine lv_aload_n hx hb d_Md_least_19 rfl (lv_at hl 0 rfl) ?_
  refine va_get (D := D) (ci := 9) (v := .int (nI ((f_Mo_isNotFor_3_8 ti nm xa it vs se rs wk n j t).1))) (C := R_Md) (T := F_Md) (N := 17) hx hb hg in_Md hown hK hP 0 rfl rfl 8 (Nat.le_of_ble_eq_true rfl) (hg _ tw_714) (fun _ h9 => h9) rfl d_Md_least_20 ?_
  refine lv_icmp_lt (tgt := 30) hx hb d_Md_least_23 (by decide) (fun hc => False.elim (by have hc := (nI_ltI (a := x) (b := (f_Mo_isNotFor_3_8 ti nm xa it vs se rs wk n j t).1) (by omega) (by omega)).mp hc; omega)) (fun hc => ?_)
  refine lv_iconst (v := 3) hx hb d_Md_least_26 (by decide) ?_
  refine lv_goto (tgt := 31) hx hb d_Md_least_27 (by decide) ?_
  refine va_put (D := D) (ci := 9) (v := .int 3) (ty := .int) (C := R_Md) (T := F_Md) (N := 17) hx hb hg in_Md t_Md t_Md_ok n_Md hown hK hP hD hS 0 rfl rfl 0 (Nat.le_of_ble_eq_true rfl) (hg _ tw_706) (fun _ h9 => h9) rfl (by decide +kernel) rfl rfl (Nat.le_of_ble_eq_true rfl) d_Md_least_31 (fun H locs hP hD hS => ?_)
  have hP : va_P D cls (wMo cI cJ cZ a 3 kn ed ct ti nm xa xb (nI ((f_Mo_isNotFor_3_8 ti nm xa it vs se rs wk n j t).1)) ((f_Mo_isNotFor_3_8 ti nm xa it vs se rs wk n j t).2.1) ((f_Mo_isNotFor_3_8 ti nm xa it vs se rs wk n j t).2.2.1) ((f_Mo_isNotFor_3_8 ti nm xa it vs se rs wk n j t).2.2.2.1) ((f_Mo_isNotFor_3_8 ti nm xa it vs se rs wk n j t).2.2.2.2.1) ((f_Mo_isNotFor_3_8 ti nm xa it vs se rs wk n j t).2.2.2.2.2.1) ((f_Mo_isNotFor_3_8 ti nm xa it vs se rs wk n j t).2.2.2.2.2.2) ors owk) H := hP
  have hD : va_D (blk a 15) (wMo cI cJ cZ a 3 kn ed ct ti nm xa xb (nI ((f_Mo_isNotFor_3_8 ti nm xa it vs se rs wk n j t).1)) ((f_Mo_isNotFor_3_8 ti nm xa it vs se rs wk n j t).2.1) ((f_Mo_isNotFor_3_8 ti nm xa it vs se rs wk n j t).2.2.1) ((f_Mo_isNotFor_3_8 ti nm xa it vs se rs wk n j t).2.2.2.1) ((f_Mo_isNotFor_3_8 ti nm xa it vs se rs wk n j t).2.2.2.2.1) ((f_Mo_isNotFor_3_8 ti nm xa it vs se rs wk n j t).2.2.2.2.2.1) ((f_Mo_isNotFor_3_8 ti nm xa it vs se rs wk n j t).2.2.2.2.2.2) ors owk) := hD
  refine lv_iconst (v := 0) hx hb d_Md_least_34 (by decide) ?_
  refine lv_istore (lv' := [(4, .int 0), (0, .ref a), (1, .int (nI j)), (2, .int t), (3, .int (nI x))]) hx hb d_Md_least_35 hl (by decide) rfl (fun ls hl => ?_)
  refine lv_iload hx hb d_Md_least_37 (lv_at hl 0 rfl) ?_
  refine lv_iload_n hx hb d_Md_least_39 rfl (lv_at hl 4 rfl) ?_
  refine lv_icmp_ge (tgt := 65) hx hb d_Md_least_40 (by decide) (fun hc1 => ?_) (fun hc1 => ?_)
  · have hc1 : x ≤ 0 := (nI_leI (a := x) (b := 0) (by omega) (by omega)).mp hc1
    refine lv_aload_n hx hb d_Md_least_65 rfl (lv_at hl 1 rfl) ?_
    refine va_get (D := D) (ci := 9) (v := .int 3) (C := R_Md) (T := F_Md) (N := 17) hx hb hg in_Md hown hK hP 0 rfl rfl 0 (Nat.le_of_ble_eq_true rfl) (hg _ tw_706) (fun _ h9 => h9) rfl d_Md_least_66 ?_
    refine lv_if_le (tgt := 76) hx hb d_Md_least_69 (by decide) (fun hc => False.elim (by revert hc; decide)) (fun hc => ?_)
    refine lv_iconst (v := 0) hx hb d_Md_least_72 (by decide) ?_
    refine lv_goto (tgt := 86) hx hb d_Md_least_73 (by decide) ?_
    rw [if_pos hc1] at hR
    subst hR
    exact W.iret (v := 0) hx hb hr (fun t9 ht hW => ⟨rfl, hS.F ht, by rw [ht]; exact hP⟩) hS.2.2 d_Md_least_86
  · have hc1 : ¬ (x ≤ 0) := fun h9 => hc1 ((nI_leI (a := x) (b := 0) (by omega) (by omega)).mpr h9)
    refine lv_aload_n hx hb d_Md_least_43 rfl (lv_at hl 1 rfl) ?_
    refine va_get (D := D) (ci := 9) (v := .int 3) (C := R_Md) (T := F_Md) (N := 17) hx hb hg in_Md hown hK hP 0 rfl rfl 0 (Nat.le_of_ble_eq_true rfl) (hg _ tw_706) (fun _ h9 => h9) rfl d_Md_least_44 ?_
    refine lv_if_ne (tgt := 65) hx hb d_Md_least_47 (by decide) (fun hc => ?_) (fun hc => False.elim (by revert hc; decide))
    refine lv_aload_n hx hb d_Md_least_65 rfl (lv_at hl 1 rfl) ?_
    refine va_get (D := D) (ci := 9) (v := .int 3) (C := R_Md) (T := F_Md) (N := 17) hx hb hg in_Md hown hK hP 0 rfl rfl 0 (Nat.le_of_ble_eq_true rfl) (hg _ tw_706) (fun _ h9 => h9) rfl d_Md_least_66 ?_
    refine lv_if_le (tgt := 76) hx hb d_Md_least_69 (by decide) (fun hc => False.elim (by revert hc; decide)) (fun hc => ?_)
    refine lv_iconst (v := 0) hx hb d_Md_least_72 (by decide) ?_
    refine lv_goto (tgt := 86) hx hb d_Md_least_73 (by decide) ?_
    rw [if_neg hc1] at hR
    subst hR
    exact W.iret (v := 0) hx hb hr (fun t9 ht hW => ⟨rfl, hS.F ht, by rw [ht]; exact hP⟩) hS.2.2 d_Md_least_86

def g_Mo_least_3_37 (ti : Nat → Int32) (nm : Nat → Int32) (xa : Nat → Int32) (it : Nat → Int32) (vs : Nat → Int32) (se : Nat → Int32) (rs : Nat → Int64) (wk : Nat → Int32) (n : Nat) (j : Nat) (t : Int32) : Nat → Nat → Nat → (Nat → Int32) → (Nat → Int32) → Int32 × Nat × (Nat → Int32) × (Nat → Int32) × (Nat → Int32) × Int64 × (Nat → Int64) × (Nat → Int32)
  | 0, i, mc, it1, vs1 => (it1 (f_Mo_nextOf_3 mc it1), mc, it1, vs1, (f_Mo_isNotFor_3_8 ti nm xa it vs se rs wk n j t).2.2.2.1, (f_Mo_isNotFor_3_8 ti nm xa it vs se rs wk n j t).2.2.2.2.1, (f_Mo_isNotFor_3_8 ti nm xa it vs se rs wk n j t).2.2.2.2.2.1, (f_Mo_isNotFor_3_8 ti nm xa it vs se rs wk n j t).2.2.2.2.2.2)
  | k + 1, i, mc, it1, vs1 => g_Mo_least_3_37 ti nm xa it vs se rs wk n j t k (i + 1) ((f_Mo_takeOut mc it1 vs1 (f_Mo_nextOf_3 mc it1)).1) ((f_Mo_takeOut mc it1 vs1 (f_Mo_nextOf_3 mc it1)).2.1) ((f_Mo_takeOut mc it1 vs1 (f_Mo_nextOf_3 mc it1)).2.2)

def f_Mo_least_3 (ti : Nat → Int32) (nm : Nat → Int32) (xa : Nat → Int32) (it : Nat → Int32) (vs : Nat → Int32) (se : Nat → Int32) (rs : Nat → Int64) (wk : Nat → Int32) (n : Nat) (j : Nat) (t : Int32) (x : Nat) : Int32 × Nat × (Nat → Int32) × (Nat → Int32) × (Nat → Int32) × Int64 × (Nat → Int64) × (Nat → Int32) := g_Mo_least_3_37 ti nm xa it vs se rs wk n j t x 0 ((f_Mo_isNotFor_3_8 ti nm xa it vs se rs wk n j t).1) ((f_Mo_isNotFor_3_8 ti nm xa it vs se rs wk n j t).2.1) ((f_Mo_isNotFor_3_8 ti nm xa it vs se rs wk n j t).2.2.1)
set_option maxHeartbeats 4000000 in
set_option maxRecDepth 100000 in
theorem m_Mo_least_3 (l : Launch) (D : va_G) (cI cJ cZ cO : ClassId) (a : Nat) (code : Int32) (kn : Nat → Int32) (ed : Nat → Int32) (ct : Nat → Int32) (ti : Nat → Int32) (nm : Nat → Int32) (xa : Nat → Int32) (xb : Nat → Int32) (ma : Int32) (it : Nat → Int32) (vs : Nat → Int32) (se : Nat → Int32) (sm : Int64) (rs : Nat → Int64) (wk : Nat → Int32) (ors : Nat → Int64) (owk : Nat → Int32) (n : Nat) (j : Nat) (t : Int32) (x : Nat) (hj : j < 4) (hlk : (f_Mo_lacks kn j t).1 = 0) (hk : kn j = 4) (hct : ct j = nI n) (hn : n ≤ 32) (hx4 : x < (f_Mo_isNotFor_3_8 ti nm xa it vs se rs wk n j t).1) (R : Int32 × Nat × (Nat → Int32) × (Nat → Int32) × (Nat → Int32) × Int64 × (Nat → Int64) × (Nat → Int32)) (hR : f_Mo_least_3 ti nm xa it vs se rs wk n j t x = R) : Met l y_Md_least (k_Md_least :: gt) rm_Md_least (Pc0 D cI cJ cZ cO [.ref a, .int (nI j), .int t, .int (nI x)] (fun H => va_P D cls (wMo cI cJ cZ a code kn ed ct ti nm xa xb ma it vs se sm rs wk ors owk) H)) (Qd (blk a 15) (some (.int R.1)) (fun H => va_P D cls (wMo cI cJ cZ a 0 kn ed ct ti nm xa xb (nI R.2.1) R.2.2.1 R.2.2.2.1 R.2.2.2.2.1 R.2.2.2.2.2.1 R.2.2.2.2.2.2.1 R.2.2.2.2.2.2.2 ors owk) H)) 0 0 (blk a 15) := by
  refine Met.ofW (cc := c_Md_least) (maxL := 5) (ret := (Option.some FieldType.int)) (by decide) rfl ?_
  intro p e s m args below meth c s₁ B hml hv
  obtain ⟨rfl, hKn, hP⟩ := hv
  have hx := B.exec
  have hb := B.bytes
  have hr := B.returns
  have hts := atoms_spec (ws := k_Md_least :: gt) B.pre
  have hg : ∀ w ∈ gt, w.before _ s = true := fun w h => hts w (List.mem_cons_of_mem _ h)
  have hown : s.vm.findClass R_Md = some m.cls := findClass_of_methodNamed B.named
  have hlocks := B.notSynchronized
  have hK := hKn.1
  have hl := lv_entry ([.ref a, .int (nI j), .int t, .int (nI x)]) (n := 5) (Nat.le_of_ble_eq_true rfl)
  rw [lg_entry_eq]
  generalize (lg_sl ([.ref a, .int (nI j), .int t, .int (nI x)]) ++ List.replicate (5 - (lg_sl ([.ref a, .int (nI j), .int t, .int (nI x)])).length) Slot.unset).toArray = ls at hl ⊢
  have hl : lv_has ls 5 [(0, .ref a), (1, .int (nI j)), (2, .int t), (3, .int (nI x))] := hl
  have hm9 : (f_Mo_isNotFor_3_8 ti nm xa it vs se rs wk n j t).1 ≤ n := run_le_3 _ _ _ _ _ _ _ _ _ _ _
  have hS : va_S (blk a 15) s.heap s.heap [] := va_S.rf
  have hD : va_D (blk a 15) (wMo cI cJ cZ a code kn ed ct ti nm xa xb ma it vs se sm rs wk ors owk) := (blk_D (wMo_in))
  have key_37 : ∀ (k : Nat) (i : Nat) (mc : Nat) (it1 : Nat → Int32) (vs1 : Nat → Int32) (H : Heap) (locs : List Loc) (ls : Array Slot), i + k = x → x < mc + i ∧ mc ≤ 32 → g_Mo_least_3_37 ti nm xa it vs se rs wk n j t k i mc it1 vs1 = R → lv_has ls 5 [(4, .int (nI i)), (0, .ref a), (1, .int (nI j)), (2, .int t), (3, .int (nI x))] → va_P D cls (wMo cI cJ cZ a 0 kn ed ct ti nm xa xb (nI mc) it1 vs1 ((f_Mo_isNotFor_3_8 ti nm xa it vs se rs wk n j t).2.2.2.1) ((f_Mo_isNotFor_3_8 ti nm xa it vs se rs wk n j t).2.2.2.2.1) ((f_Mo_isNotFor_3_8 ti nm xa it vs se rs wk n j t).2.2.2.2.2.1) ((f_Mo_isNotFor_3_8 ti nm xa it vs se rs wk n j t).2.2.2.2.2.2) ors owk) H → va_S (blk a 15) s.heap H locs → W p l e (headSpec (k_Md_least :: gt) rm_Md_least).room s m ([.ref a, .int (nI j), .int t, .int (nI x)] : List Value).toArray below meth c H locs 0 0 (MQ below (Qd (blk a 15) (some (.int R.1)) (fun H => va_P D cls (wMo cI cJ cZ a 0 kn ed ct ti nm xa xb (nI R.2.1) R.2.2.1 R.2.2.2.1 R.2.2.2.2.1 R.2.2.2.2.2.1 R.2.2.2.2.2.2.1 R.2.2.2.2.2.2.2 ors owk) H)) ([.ref a, .int (nI j), .int t, .int (nI x)] : List Value).toArray s 0 0 (blk a 15)) (F0 m 37 ls []) := by
    intro k
    induction k with
    | zero =>
      intro i mc it1 vs1 H locs ls hi hm hR hl hP hS
      have hR : ((it1 (f_Mo_nextOf_3 mc it1), mc, it1, vs1, (f_Mo_isNotFor_3_8 ti nm xa it vs se rs wk n j t).2.2.2.1, (f_Mo_isNotFor_3_8 ti nm xa it vs se rs wk n j t).2.2.2.2.1, (f_Mo_isNotFor_3_8 ti nm xa it vs se rs wk n j t).2.2.2.2.2.1, (f_Mo_isNotFor_3_8 ti nm xa it vs se rs wk n j t).2.2.2.2.2.2)) = R := hR
      have hD : va_D (blk a 15) (wMo cI cJ cZ a 0 kn ed ct ti nm xa xb (nI mc) it1 vs1 ((f_Mo_isNotFor_3_8 ti nm xa it vs se rs wk n j t).2.2.2.1) ((f_Mo_isNotFor_3_8 ti nm xa it vs se rs wk n j t).2.2.2.2.1) ((f_Mo_isNotFor_3_8 ti nm xa it vs se rs wk n j t).2.2.2.2.2.1) ((f_Mo_isNotFor_3_8 ti nm xa it vs se rs wk n j t).2.2.2.2.2.2) ors owk) := (blk_D (wMo_in))
      refine lv_iload hx hb d_Md_least_37 (lv_at hl 0 rfl) ?_
      refine lv_iload_n hx hb d_Md_least_39 rfl (lv_at hl 4 rfl) ?_
      refine lv_icmp_ge (tgt := 65) hx hb d_Md_least_40 (by decide) (fun hc => ?_) (fun hc => False.elim (by have hc : ¬ (x ≤ i) := fun h => hc (by exact (nI_leI (a := x) (b := i) (by omega) (by omega)).mpr h); omega))
      refine lv_aload_n hx hb d_Md_least_65 rfl (lv_at hl 1 rfl) ?_
      refine va_get (D := D) (ci := 9) (v := .int 0) (C := R_Md) (T := F_Md) (N := 17) hx hb hg in_Md hown hK hP 0 rfl rfl 0 (Nat.le_of_ble_eq_true rfl) (hg _ tw_706) (fun _ h9 => h9) rfl d_Md_least_66 ?_
      refine lv_if_le (tgt := 76) hx hb d_Md_least_69 (by decide) (fun hc => ?_) (fun hc => False.elim (by revert hc; decide))
      refine lv_aload_n hx hb d_Md_least_76 rfl (lv_at hl 1 rfl) ?_
      refine va_get (D := D) (ci := 9) (v := .ref (a + 8)) (C := R_Md) (T := F_Md) (N := 17) hx hb hg in_Md hown hK hP 0 rfl rfl 9 (Nat.le_of_ble_eq_true rfl) (hg _ tw_715) (fun _ h9 => h9) rfl d_Md_least_77 ?_
      refine lv_aload_n hx hb d_Md_least_80 rfl (lv_at hl 1 rfl) ?_
      refine lv_iconst (v := 3) hx hb d_Md_least_81 (by decide) ?_
      refine ep_callP (W.runV (As := [.int 3]) (rest := [.ref (a + 8)]) ⟨hx, hb, hml, hown, hg⟩ (m_Mo_nextOf_3 l D cI cJ cZ cO a 0 kn ed ct ti nm xa xb mc it1 vs1 ((f_Mo_isNotFor_3_8 ti nm xa it vs se rs wk n j t).2.2.2.1) ((f_Mo_isNotFor_3_8 ti nm xa it vs se rs wk n j t).2.2.2.2.1) ((f_Mo_isNotFor_3_8 ti nm xa it vs se rs wk n j t).2.2.2.2.2.1) ((f_Mo_isNotFor_3_8 ti nm xa it vs se rs wk n j t).2.2.2.2.2.2) ors owk (by omega) (by omega) _ rfl) (ep_cwV 1 hg tw_856 tw_858 ts_23 tw_12 tk_Md_nextOf rfl rfl (by decide +kernel) ⟨(Nat.le_of_ble_eq_true rfl), (Nat.le_of_ble_eq_true rfl)⟩) ⟨ep_blind, va_recv (q0 := 0) (ci := 9) hK hP rfl rfl, ep_pre hKn (hP)⟩ rfl rfl hl.1 rfl (lv_room (Nat.le_of_ble_eq_true rfl)) d_Md_least_82 ⟨Nat.zero_le _, Nat.zero_le _⟩) ?_
      refine W.eq (g2 := F0 m 85 ls [.int (nI (f_Mo_nextOf_3 mc it1)), .ref (a + 8)]) rfl ?_
      have hp9 : f_Mo_nextOf_3 mc it1 < mc := nx3_lt _ _ (by omega)
      refine ep_iald hx hb hK hP 8 0 rfl rfl (i := (f_Mo_nextOf_3 mc it1)) (by omega) (by decide) d_Md_least_85 ?_
      subst hR
      exact W.iret (v := (it1 (f_Mo_nextOf_3 mc it1))) hx hb hr (fun t9 ht hW => ⟨rfl, hS.F ht, by rw [ht]; exact hP⟩) hS.2.2 d_Md_least_86
    | succ k ih =>
      intro i mc it1 vs1 H locs ls hi hm hR hl hP hS
      have hR : (g_Mo_least_3_37 ti nm xa it vs se rs wk n j t k (i + 1) ((f_Mo_takeOut mc it1 vs1 (f_Mo_nextOf_3 mc it1)).1) ((f_Mo_takeOut mc it1 vs1 (f_Mo_nextOf_3 mc it1)).2.1) ((f_Mo_takeOut mc it1 vs1 (f_Mo_nextOf_3 mc it1)).2.2)) = R := hR
      have hD : va_D (blk a 15) (wMo cI cJ cZ a 0 kn ed ct ti nm xa xb (nI mc) it1 vs1 ((f_Mo_isNotFor_3_8 ti nm xa it vs se rs wk n j t).2.2.2.1) ((f_Mo_isNotFor_3_8 ti nm xa it vs se rs wk n j t).2.2.2.2.1) ((f_Mo_isNotFor_3_8 ti nm xa it vs se rs wk n j t).2.2.2.2.2.1) ((f_Mo_isNotFor_3_8 ti nm xa it vs se rs wk n j t).2.2.2.2.2.2) ors owk) := (blk_D (wMo_in))
      refine lv_iload hx hb d_Md_least_37 (lv_at hl 0 rfl) ?_
      refine lv_iload_n hx hb d_Md_least_39 rfl (lv_at hl 4 rfl) ?_
      refine lv_icmp_ge (tgt := 65) hx hb d_Md_least_40 (by decide) (fun hc => False.elim (by have hc := (nI_leI (a := x) (b := i) (by omega) (by omega)).mp hc; omega)) (fun hc => ?_)
      refine lv_aload_n hx hb d_Md_least_43 rfl (lv_at hl 1 rfl) ?_
      refine va_get (D := D) (ci := 9) (v := .int 0) (C := R_Md) (T := F_Md) (N := 17) hx hb hg in_Md hown hK hP 0 rfl rfl 0 (Nat.le_of_ble_eq_true rfl) (hg _ tw_706) (fun _ h9 => h9) rfl d_Md_least_44 ?_
      refine lv_if_ne (tgt := 65) hx hb d_Md_least_47 (by decide) (fun hc => False.elim (by revert hc; decide)) (fun hc => ?_)
      refine lv_aload_n hx hb d_Md_least_50 rfl (lv_at hl 1 rfl) ?_
      refine lv_aload_n hx hb d_Md_least_51 rfl (lv_at hl 1 rfl) ?_
      refine lv_iconst (v := 3) hx hb d_Md_least_52 (by decide) ?_
      refine ep_callP (W.runV (As := [.int 3]) (rest := [.ref a]) ⟨hx, hb, hml, hown, hg⟩ (m_Mo_nextOf_3 l D cI cJ cZ cO a 0 kn ed ct ti nm xa xb mc it1 vs1 ((f_Mo_isNotFor_3_8 ti nm xa it vs se rs wk n j t).2.2.2.1) ((f_Mo_isNotFor_3_8 ti nm xa it vs se rs wk n j t).2.2.2.2.1) ((f_Mo_isNotFor_3_8 ti nm xa it vs se rs wk n j t).2.2.2.2.2.1) ((f_Mo_isNotFor_3_8 ti nm xa it vs se rs wk n j t).2.2.2.2.2.2) ors owk (by omega) (by omega) _ rfl) (ep_cwV 1 hg tw_856 tw_858 ts_23 tw_12 tk_Md_nextOf rfl rfl (by decide +kernel) ⟨(Nat.le_of_ble_eq_true rfl), (Nat.le_of_ble_eq_true rfl)⟩) ⟨ep_blind, va_recv (q0 := 0) (ci := 9) hK hP rfl rfl, ep_pre hKn (hP)⟩ rfl rfl hl.1 rfl (lv_room (Nat.le_of_ble_eq_true rfl)) d_Md_least_53 ⟨Nat.zero_le _, Nat.zero_le _⟩) ?_
      refine W.eq (g2 := F0 m 56 ls [.int (nI (f_Mo_nextOf_3 mc it1)), .ref a]) rfl ?_
      have hp9 : f_Mo_nextOf_3 mc it1 < mc := nx3_lt _ _ (by omega)
      refine ep_callH (W.runV (As := [.int (nI (f_Mo_nextOf_3 mc it1))]) (rest := []) ⟨hx, hb, hml, hown, hg⟩ (m_Mo_takeOut l D cI cJ cZ cO a 0 kn ed ct ti nm xa xb mc it1 vs1 ((f_Mo_isNotFor_3_8 ti nm xa it vs se rs wk n j t).2.2.2.1) ((f_Mo_isNotFor_3_8 ti nm xa it vs se rs wk n j t).2.2.2.2.1) ((f_Mo_isNotFor_3_8 ti nm xa it vs se rs wk n j t).2.2.2.2.2.1) ((f_Mo_isNotFor_3_8 ti nm xa it vs se rs wk n j t).2.2.2.2.2.2) ors owk (f_Mo_nextOf_3 mc it1) (by omega) hp9 _ rfl) (ep_cwV 1 hg tw_848 tw_850 ts_21 tw_12 tk_Md_takeOut rfl rfl (by decide +kernel) ⟨(Nat.le_of_ble_eq_true rfl), (Nat.le_of_ble_eq_true rfl)⟩) ⟨ep_blind, va_recv (q0 := 0) (ci := 9) hK hP rfl rfl, ep_pre hKn (hP)⟩ rfl rfl hl.1 rfl (lv_room (Nat.le_of_ble_eq_true rfl)) d_Md_least_56 ⟨Nat.zero_le _, Nat.zero_le _⟩) hS (fun q h => h) (fun H locs hsz9 hk1 hP1 hS => ?_)
      refine W.eq (g2 := F0 m 59 ls []) rfl ?_
      have hP : va_P D cls (wMo cI cJ cZ a 0 kn ed ct ti nm xa xb (nI ((f_Mo_takeOut mc it1 vs1 (f_Mo_nextOf_3 mc it1)).1)) ((f_Mo_takeOut mc it1 vs1 (f_Mo_nextOf_3 mc it1)).2.1) ((f_Mo_takeOut mc it1 vs1 (f_Mo_nextOf_3 mc it1)).2.2) ((f_Mo_isNotFor_3_8 ti nm xa it vs se rs wk n j t).2.2.2.1) ((f_Mo_isNotFor_3_8 ti nm xa it vs se rs wk n j t).2.2.2.2.1) ((f_Mo_isNotFor_3_8 ti nm xa it vs se rs wk n j t).2.2.2.2.2.1) ((f_Mo_isNotFor_3_8 ti nm xa it vs se rs wk n j t).2.2.2.2.2.2) ors owk) H := hP1
      have hD : va_D (blk a 15) (wMo cI cJ cZ a 0 kn ed ct ti nm xa xb (nI ((f_Mo_takeOut mc it1 vs1 (f_Mo_nextOf_3 mc it1)).1)) ((f_Mo_takeOut mc it1 vs1 (f_Mo_nextOf_3 mc it1)).2.1) ((f_Mo_takeOut mc it1 vs1 (f_Mo_nextOf_3 mc it1)).2.2) ((f_Mo_isNotFor_3_8 ti nm xa it vs se rs wk n j t).2.2.2.1) ((f_Mo_isNotFor_3_8 ti nm xa it vs se rs wk n j t).2.2.2.2.1) ((f_Mo_isNotFor_3_8 ti nm xa it vs se rs wk n j t).2.2.2.2.2.1) ((f_Mo_isNotFor_3_8 ti nm xa it vs se rs wk n j t).2.2.2.2.2.2) ors owk) := (blk_D (wMo_in))
      refine lv_iinc (k := 0) (lv' := [(4, .int (nI (i + 1))), (0, .ref a), (1, .int (nI j)), (2, .int t), (3, .int (nI x))]) hx hb d_Md_least_59 hl rfl (inc1 _) (by decide) rfl (fun ls hl => ?_)
      refine lv_goto (tgt := 37) hx hb d_Md_least_62 (by decide) ?_
      exact ih (i + 1) ((f_Mo_takeOut mc it1 vs1 (f_Mo_nextOf_3 mc it1)).1) ((f_Mo_takeOut mc it1 vs1 (f_Mo_nextOf_3 mc it1)).2.1) ((f_Mo_takeOut mc it1 vs1 (f_Mo_nextOf_3 mc it1)).2.2) _ _ ls (by omega) (by rw [takeOut_1]; omega) hR hl hP hS
  have hR : (g_Mo_least_3_37 ti nm xa it vs se rs wk n j t x 0 ((f_Mo_isNotFor_3_8 ti nm xa it vs se rs wk n j t).1) ((f_Mo_isNotFor_3_8 ti nm xa it vs se rs wk n j t).2.1) ((f_Mo_isNotFor_3_8 ti nm xa it vs se rs wk n j t).2.2.1)) = R := hR
  refine lv_aload_n hx hb d_Md_least_0 rfl (lv_at hl 0 rfl) ?_
  refine lv_iload_n hx hb d_Md_least_1 rfl (lv_at hl 1 rfl) ?_
  refine lv_iload_n hx hb d_Md_least_2 rfl (lv_at hl 2 rfl) ?_
  refine lv_bipush (v := 8) hx hb d_Md_least_3 (by decide) ?_
  refine ep_callH (W.runV (As := [.int (nI j), .int t, .int 8]) (rest := []) ⟨hx, hb, hml, hown, hg⟩ (m_Mo_isNotFor_3_8 l D cI cJ cZ cO a code kn ed ct ti nm xa xb ma it vs se sm rs wk ors owk n j t (by omega) hlk hk hct (by omega) _ rfl) (ep_cwV 3 hg tw_828 tw_830 ts_16 tw_12 tk_Md_isNotFor rfl rfl (by decide +kernel) ⟨(Nat.le_of_ble_eq_true rfl), (Nat.le_of_ble_eq_true rfl)⟩) ⟨ep_blind, va_recv (q0 := 0) (ci := 9) hK hP rfl rfl, ep_pre hKn (hP)⟩ rfl rfl hl.1 rfl (lv_room (Nat.le_of_ble_eq_true rfl)) d_Md_least_5 ⟨Nat.zero_le _, Nat.zero_le _⟩) hS (fun q h => h) (fun H locs hsz9 hk1 hP1 hS => ?_)
  refine W.eq (g2 := F0 m 8 ls [.int 0]) rfl ?_
  have hP : va_P D cls (wMo cI cJ cZ a 0 kn ed ct ti nm xa xb (nI ((f_Mo_isNotFor_3_8 ti nm xa it vs se rs wk n j t).1)) ((f_Mo_isNotFor_3_8 ti nm xa it vs se rs wk n j t).2.1) ((f_Mo_isNotFor_3_8 ti nm xa it vs se rs wk n j t).2.2.1) ((f_Mo_isNotFor_3_8 ti nm xa it vs se rs wk n j t).2.2.2.1) ((f_Mo_isNotFor_3_8 ti nm xa it vs se rs wk n j t).2.2.2.2.1) ((f_Mo_isNotFor_3_8 ti nm xa it vs se rs wk n j t).2.2.2.2.2.1) ((f_Mo_isNotFor_3_8 ti nm xa it vs se rs wk n j t).2.2.2.2.2.2) ors owk) H := hP1
  have hD : va_D (blk a 15) (wMo cI cJ cZ a 0 kn ed ct ti nm xa xb (nI ((f_Mo_isNotFor_3_8 ti nm xa it vs se rs wk n j t).1)) ((f_Mo_isNotFor_3_8 ti nm xa it vs se rs wk n j t).2.1) ((f_Mo_isNotFor_3_8 ti nm xa it vs se rs wk n j t).2.2.1) ((f_Mo_isNotFor_3_8 ti nm xa it vs se rs wk n j t).2.2.2.1) ((f_Mo_isNotFor_3_8 ti nm xa it vs se rs wk n j t).2.2.2.2.1) ((f_Mo_isNotFor_3_8 ti nm xa it vs se rs wk n j t).2.2.2.2.2.1) ((f_Mo_isNotFor_3_8 ti nm xa it vs se rs wk n j t).2.2.2.2.2.2) ors owk) := (blk_D (wMo_in))
  have hm9 : (f_Mo_isNotFor_3_8 ti nm xa it vs se rs wk n j t).1 ≤ n := run_le_3 _ _ _ _ _ _ _ _ _ _ _
  refine lv_if_eq (tgt := 13) hx hb d_Md_least_8 (by decide) (fun hc => ?_) (fun hc => False.elim (by revert hc; decide))
  refine lv_aload_n hx hb d_Md_least_13 rfl (lv_at hl 0 rfl) ?_
  refine lv_iload_n hx hb d_Md_least_14 rfl (lv_at hl 3 rfl) ?_
  refine lv_if_lt (tgt := 26) hx hb d_Md_least_15 (by decide) (fun hc => False.elim (by have hc := (nI_ltI (a := x) (b := 0) (by omega) (by omega)).mp hc; omega)) (fun hc => ?_)
  refine lv_iload_n hx hb d_Md_least_18 rfl (lv_at hl 3 rfl) ?_
  refine lv_aload_n hx hb d_Md_least_19 rfl (lv_at hl 0 rfl) ?_
  refine va_get (D := D) (ci := 9) (v := .int (nI ((f_Mo_isNotFor_3_8 ti nm xa it vs se rs wk n j t).1))) (C := R_Md) (T := F_Md) (N := 17) hx hb hg in_Md hown hK hP 0 rfl rfl 8 (Nat.le_of_ble_eq_true rfl) (hg _ tw_714) (fun _ h9 => h9) rfl d_Md_least_20 ?_
  refine lv_icmp_lt (tgt := 30) hx hb d_Md_least_23 (by decide) (fun hc => ?_) (fun hc => False.elim (by have hc : ¬ (x < (f_Mo_isNotFor_3_8 ti nm xa it vs se rs wk n j t).1) := fun h => hc (by exact (nI_ltI (a := x) (b := (f_Mo_isNotFor_3_8 ti nm xa it vs se rs wk n j t).1) (by omega) (by omega)).mpr h); omega))
  refine lv_iconst (v := 0) hx hb d_Md_least_30 (by decide) ?_
  refine va_put (D := D) (ci := 9) (v := .int 0) (ty := .int) (C := R_Md) (T := F_Md) (N := 17) hx hb hg in_Md t_Md t_Md_ok n_Md hown hK hP hD hS 0 rfl rfl 0 (Nat.le_of_ble_eq_true rfl) (hg _ tw_706) (fun _ h9 => h9) rfl (by decide +kernel) rfl rfl (Nat.le_of_ble_eq_true rfl) d_Md_least_31 (fun H locs hP hD hS => ?_)
  have hP : va_P D cls (wMo cI cJ cZ a 0 kn ed ct ti nm xa xb (nI ((f_Mo_isNotFor_3_8 ti nm xa it vs se rs wk n j t).1)) ((f_Mo_isNotFor_3_8 ti nm xa it vs se rs wk n j t).2.1) ((f_Mo_isNotFor_3_8 ti nm xa it vs se rs wk n j t).2.2.1) ((f_Mo_isNotFor_3_8 ti nm xa it vs se rs wk n j t).2.2.2.1) ((f_Mo_isNotFor_3_8 ti nm xa it vs se rs wk n j t).2.2.2.2.1) ((f_Mo_isNotFor_3_8 ti nm xa it vs se rs wk n j t).2.2.2.2.2.1) ((f_Mo_isNotFor_3_8 ti nm xa it vs se rs wk n j t).2.2.2.2.2.2) ors owk) H := hP
  have hD : va_D (blk a 15) (wMo cI cJ cZ a 0 kn ed ct ti nm xa xb (nI ((f_Mo_isNotFor_3_8 ti nm xa it vs se rs wk n j t).1)) ((f_Mo_isNotFor_3_8 ti nm xa it vs se rs wk n j t).2.1) ((f_Mo_isNotFor_3_8 ti nm xa it vs se rs wk n j t).2.2.1) ((f_Mo_isNotFor_3_8 ti nm xa it vs se rs wk n j t).2.2.2.1) ((f_Mo_isNotFor_3_8 ti nm xa it vs se rs wk n j t).2.2.2.2.1) ((f_Mo_isNotFor_3_8 ti nm xa it vs se rs wk n j t).2.2.2.2.2.1) ((f_Mo_isNotFor_3_8 ti nm xa it vs se rs wk n j t).2.2.2.2.2.2) ors owk) := hD
  refine lv_iconst (v := 0) hx hb d_Md_least_34 (by decide) ?_
  refine lv_istore (lv' := [(4, .int 0), (0, .ref a), (1, .int (nI j)), (2, .int t), (3, .int (nI x))]) hx hb d_Md_least_35 hl (by decide) rfl (fun ls hl => ?_)
  exact key_37 x 0 ((f_Mo_isNotFor_3_8 ti nm xa it vs se rs wk n j t).1) ((f_Mo_isNotFor_3_8 ti nm xa it vs se rs wk n j t).2.1) ((f_Mo_isNotFor_3_8 ti nm xa it vs se rs wk n j t).2.2.1) _ _ ls (by omega) (by omega) hR hl hP hS

def f_Mo_together_e (kn : Nat → Int32) (j : Nat) (t : Int32) : Int32 := (f_Mo_isNotFor_e kn j t)
set_option maxHeartbeats 4000000 in
set_option maxRecDepth 100000 in
theorem m_Mo_together_e (l : Launch) (D : va_G) (cI cJ cZ cO : ClassId) (a : Nat) (code : Int32) (kn : Nat → Int32) (ed : Nat → Int32) (ct : Nat → Int32) (ti : Nat → Int32) (nm : Nat → Int32) (xa : Nat → Int32) (xb : Nat → Int32) (ma : Int32) (it : Nat → Int32) (vs : Nat → Int32) (se : Nat → Int32) (sm : Int64) (rs : Nat → Int64) (wk : Nat → Int32) (ors : Nat → Int64) (owk : Nat → Int32) (j : Nat) (t : Int32) (x : Nat) (y : Nat) (hj : j < 4) (hlk : ¬ (f_Mo_lacks kn j t).1 = 0) (hx9 : x < 16) (hy9 : y < 16) (R : Int32) (hR : f_Mo_together_e kn j t = R) : Met l y_Md_together (k_Md_together :: gt) rm_Md_together (Pc0 D cI cJ cZ cO [.ref a, .int (nI j), .int t, .int (nI x), .int (nI y)] (fun H => va_P D cls (wMo cI cJ cZ a code kn ed ct ti nm xa xb ma it vs se sm rs wk ors owk) H)) (Qd (blk a 15) (some (.int 0)) (fun H => va_P D cls (wMo cI cJ cZ a R kn ed ct ti nm xa xb ma it vs se sm rs wk ors owk) H)) 0 0 (blk a 15) := by
  refine Met.ofW (cc := c_Md_together) (maxL := 5) (ret := (Option.some FieldType.boolean)) (by decide) rfl ?_
  intro p e s m args below meth c s₁ B hml hv
  obtain ⟨rfl, hKn, hP⟩ := hv
  have hx := B.exec
  have hb := B.bytes
  have hr := B.returns
  have hts := atoms_spec (ws := k_Md_together :: gt) B.pre
  have hg : ∀ w ∈ gt, w.before _ s = true := fun w h => hts w (List.mem_cons_of_mem _ h)
  have hown : s.vm.findClass R_Md = some m.cls := findClass_of_methodNamed B.named
  have hlocks := B.notSynchronized
  have hK := hKn.1
  have hl := lv_entry ([.ref a, .int (nI j), .int t, .int (nI x), .int (nI y)]) (n := 5) (Nat.le_of_ble_eq_true rfl)
  rw [lg_entry_eq]
  generalize (lg_sl ([.ref a, .int (nI j), .int t, .int (nI x), .int (nI y)]) ++ List.replicate (5 - (lg_sl ([.ref a, .int (nI j), .int t, .int (nI x), .int (nI y)])).length) Slot.unset).toArray = ls at hl ⊢
  have hl : lv_has ls 5 [(0, .ref a), (1, .int (nI j)), (2, .int t), (3, .int (nI x)), (4, .int (nI y))] := hl
  have hS : va_S (blk a 15) s.heap s.heap [] := va_S.rf
  have hD : va_D (blk a 15) (wMo cI cJ cZ a code kn ed ct ti nm xa xb ma it vs se sm rs wk ors owk) := (blk_D (wMo_in))
  have hR : ((f_Mo_isNotFor_e kn j t)) = R := hR
  refine lv_iload_n hx hb d_Md_together_0 rfl (lv_at hl 3 rfl) ?_
  refine lv_if_lt (tgt := 22) hx hb d_Md_together_1 (by decide) (fun hc => False.elim (by have hc := (nI_ltI (a := x) (b := 0) (by omega) (by omega)).mp hc; omega)) (fun hc => ?_)
  refine lv_iload_n hx hb d_Md_together_4 rfl (lv_at hl 3 rfl) ?_
  refine lv_bipush (v := 15) hx hb d_Md_together_5 (by decide) ?_
  refine lv_icmp_gt (tgt := 22) hx hb d_Md_together_7 (by decide) (fun hc => False.elim (by have hc := (nI_ltI (a := 15) (b := x) (by omega) (by omega)).mp hc; omega)) (fun hc => ?_)
  refine lv_iload hx hb d_Md_together_10 (lv_at hl 4 rfl) ?_
  refine lv_if_lt (tgt := 22) hx hb d_Md_together_12 (by decide) (fun hc => False.elim (by have hc := (nI_ltI (a := y) (b := 0) (by omega) (by omega)).mp hc; omega)) (fun hc => ?_)
  refine lv_iload hx hb d_Md_together_15 (lv_at hl 4 rfl) ?_
  refine lv_bipush (v := 15) hx hb d_Md_together_17 (by decide) ?_
  refine lv_icmp_le (tgt := 29) hx hb d_Md_together_19 (by decide) (fun hc => ?_) (fun hc => False.elim (by have hc : ¬ (y ≤ 15) := fun h => hc (by exact (nI_leI (a := y) (b := 15) (by omega) (by omega)).mpr h); omega))
  refine lv_aload_n hx hb d_Md_together_29 rfl (lv_at hl 0 rfl) ?_
  refine lv_iload_n hx hb d_Md_together_30 rfl (lv_at hl 1 rfl) ?_
  refine lv_iload_n hx hb d_Md_together_31 rfl (lv_at hl 2 rfl) ?_
  refine lv_bipush (v := 32) hx hb d_Md_together_32 (by decide) ?_
  refine ep_callH (W.runV (As := [.int (nI j), .int t, .int 32]) (rest := []) ⟨hx, hb, hml, hown, hg⟩ (m_Mo_isNotFor_e l D cI cJ cZ cO a code kn ed ct ti nm xa xb ma it vs se sm rs wk ors owk j t 32 (by omega) hlk _ rfl) (ep_cwV 3 hg tw_828 tw_830 ts_16 tw_12 tk_Md_isNotFor rfl rfl (by decide +kernel) ⟨(Nat.le_of_ble_eq_true rfl), (Nat.le_of_ble_eq_true rfl)⟩) ⟨ep_blind, va_recv (q0 := 0) (ci := 9) hK hP rfl rfl, ep_pre hKn (hP)⟩ rfl rfl hl.1 rfl (lv_room (Nat.le_of_ble_eq_true rfl)) d_Md_together_34 ⟨Nat.zero_le _, Nat.zero_le _⟩) hS (fun q h => h) (fun H locs hsz9 hk1 hP1 hS => ?_)
  refine W.eq (g2 := F0 m 37 ls [.int 1]) rfl ?_
  have hP : va_P D cls (wMo cI cJ cZ a (f_Mo_isNotFor_e kn j t) kn ed ct ti nm xa xb ma it vs se sm rs wk ors owk) H := hP1
  have hD : va_D (blk a 15) (wMo cI cJ cZ a (f_Mo_isNotFor_e kn j t) kn ed ct ti nm xa xb ma it vs se sm rs wk ors owk) := (blk_D (wMo_in))
  refine lv_if_ne (tgt := 60) hx hb d_Md_together_37 (by decide) (fun hc => ?_) (fun hc => False.elim (by revert hc; decide))
  refine lv_iconst (v := 0) hx hb d_Md_together_60 (by decide) ?_
  subst hR
  exact W.zret (v := 0) hx hb hr (by decide) (fun t9 ht hW => ⟨rfl, hS.F ht, by rw [ht]; exact hP⟩) hS.2.2 d_Md_together_61

def f_Mo_together_b  : Int32 := f_Mo_isNotFor_b
set_option maxHeartbeats 4000000 in
set_option maxRecDepth 100000 in
theorem m_Mo_together_b (l : Launch) (D : va_G) (cI cJ cZ cO : ClassId) (a : Nat) (code : Int32) (kn : Nat → Int32) (ed : Nat → Int32) (ct : Nat → Int32) (ti : Nat → Int32) (nm : Nat → Int32) (xa : Nat → Int32) (xb : Nat → Int32) (ma : Int32) (it : Nat → Int32) (vs : Nat → Int32) (se : Nat → Int32) (sm : Int64) (rs : Nat → Int64) (wk : Nat → Int32) (ors : Nat → Int64) (owk : Nat → Int32) (id : Int32) (t : Int32) (x : Nat) (y : Nat) (hid : ¬ okI id) (hx9 : x < 16) (hy9 : y < 16) (R : Int32) (hR : f_Mo_together_b = R) : Met l y_Md_together (k_Md_together :: gt) rm_Md_together (Pc0 D cI cJ cZ cO [.ref a, .int id, .int t, .int (nI x), .int (nI y)] (fun H => va_P D cls (wMo cI cJ cZ a code kn ed ct ti nm xa xb ma it vs se sm rs wk ors owk) H)) (Qd (blk a 15) (some (.int 0)) (fun H => va_P D cls (wMo cI cJ cZ a R kn ed ct ti nm xa xb ma it vs se sm rs wk ors owk) H)) 0 0 (blk a 15) := by
  refine Met.ofW (cc := c_Md_together) (maxL := 5) (ret := (Option.some FieldType.boolean)) (by decide) rfl ?_
  intro p e s m args below meth c s₁ B hml hv
  obtain ⟨rfl, hKn, hP⟩ := hv
  have hx := B.exec
  have hb := B.bytes
  have hr := B.returns
  have hts := atoms_spec (ws := k_Md_together :: gt) B.pre
  have hg : ∀ w ∈ gt, w.before _ s = true := fun w h => hts w (List.mem_cons_of_mem _ h)
  have hown : s.vm.findClass R_Md = some m.cls := findClass_of_methodNamed B.named
  have hlocks := B.notSynchronized
  have hK := hKn.1
  have hl := lv_entry ([.ref a, .int id, .int t, .int (nI x), .int (nI y)]) (n := 5) (Nat.le_of_ble_eq_true rfl)
  rw [lg_entry_eq]
  generalize (lg_sl ([.ref a, .int id, .int t, .int (nI x), .int (nI y)]) ++ List.replicate (5 - (lg_sl ([.ref a, .int id, .int t, .int (nI x), .int (nI y)])).length) Slot.unset).toArray = ls at hl ⊢
  have hl : lv_has ls 5 [(0, .ref a), (1, .int id), (2, .int t), (3, .int (nI x)), (4, .int (nI y))] := hl
  have hS : va_S (blk a 15) s.heap s.heap [] := va_S.rf
  have hD : va_D (blk a 15) (wMo cI cJ cZ a code kn ed ct ti nm xa xb ma it vs se sm rs wk ors owk) := (blk_D (wMo_in))
  have hR : (f_Mo_isNotFor_b) = R := hR
  refine lv_iload_n hx hb d_Md_together_0 rfl (lv_at hl 3 rfl) ?_
  refine lv_if_lt (tgt := 22) hx hb d_Md_together_1 (by decide) (fun hc => False.elim (by have hc := (nI_ltI (a := x) (b := 0) (by omega) (by omega)).mp hc; omega)) (fun hc => ?_)
  refine lv_iload_n hx hb d_Md_together_4 rfl (lv_at hl 3 rfl) ?_
  refine lv_bipush (v := 15) hx hb d_Md_together_5 (by decide) ?_
  refine lv_icmp_gt (tgt := 22) hx hb d_Md_together_7 (by decide) (fun hc => False.elim (by have hc := (nI_ltI (a := 15) (b := x) (by omega) (by omega)).mp hc; omega)) (fun hc => ?_)
  refine lv_iload hx hb d_Md_together_10 (lv_at hl 4 rfl) ?_
  refine lv_if_lt (tgt := 22) hx hb d_Md_together_12 (by decide) (fun hc => False.elim (by have hc := (nI_ltI (a := y) (b := 0) (by omega) (by omega)).mp hc; omega)) (fun hc => ?_)
  refine lv_iload hx hb d_Md_together_15 (lv_at hl 4 rfl) ?_
  refine lv_bipush (v := 15) hx hb d_Md_together_17 (by decide) ?_
  refine lv_icmp_le (tgt := 29) hx hb d_Md_together_19 (by decide) (fun hc => ?_) (fun hc => False.elim (by have hc : ¬ (y ≤ 15) := fun h => hc (by exact (nI_leI (a := y) (b := 15) (by omega) (by omega)).mpr h); omega))
  refine lv_aload_n hx hb d_Md_together_29 rfl (lv_at hl 0 rfl) ?_
  refine lv_iload_n hx hb d_Md_together_30 rfl (lv_at hl 1 rfl) ?_
  refine lv_iload_n hx hb d_Md_together_31 rfl (lv_at hl 2 rfl) ?_
  refine lv_bipush (v := 32) hx hb d_Md_together_32 (by decide) ?_
  refine ep_callH (W.runV (As := [.int id, .int t, .int 32]) (rest := []) ⟨hx, hb, hml, hown, hg⟩ (m_Mo_isNotFor_b l D cI cJ cZ cO a code kn ed ct ti nm xa xb ma it vs se sm rs wk ors owk id t 32 hid _ rfl) (ep_cwV 3 hg tw_828 tw_830 ts_16 tw_12 tk_Md_isNotFor rfl rfl (by decide +kernel) ⟨(Nat.le_of_ble_eq_true rfl), (Nat.le_of_ble_eq_true rfl)⟩) ⟨ep_blind, va_recv (q0 := 0) (ci := 9) hK hP rfl rfl, ep_pre hKn (hP)⟩ rfl rfl hl.1 rfl (lv_room (Nat.le_of_ble_eq_true rfl)) d_Md_together_34 ⟨Nat.zero_le _, Nat.zero_le _⟩) hS (fun q h => h) (fun H locs hsz9 hk1 hP1 hS => ?_)
  refine W.eq (g2 := F0 m 37 ls [.int 1]) rfl ?_
  have hP : va_P D cls (wMo cI cJ cZ a f_Mo_isNotFor_b kn ed ct ti nm xa xb ma it vs se sm rs wk ors owk) H := hP1
  have hD : va_D (blk a 15) (wMo cI cJ cZ a f_Mo_isNotFor_b kn ed ct ti nm xa xb ma it vs se sm rs wk ors owk) := (blk_D (wMo_in))
  refine lv_if_ne (tgt := 60) hx hb d_Md_together_37 (by decide) (fun hc => ?_) (fun hc => False.elim (by revert hc; decide))
  refine lv_iconst (v := 0) hx hb d_Md_together_60 (by decide) ?_
  subst hR
  exact W.zret (v := 0) hx hb hr (by decide) (fun t9 ht hW => ⟨rfl, hS.F ht, by rw [ht]; exact hP⟩) hS.2.2 d_Md_together_61

def f_Mo_together_w  : Unit := ()
set_option maxHeartbeats 4000000 in
set_option maxRecDepth 100000 in
theorem m_Mo_together_w (l : Launch) (D : va_G) (cI cJ cZ cO : ClassId) (a : Nat) (code : Int32) (kn : Nat → Int32) (ed : Nat → Int32) (ct : Nat → Int32) (ti : Nat → Int32) (nm : Nat → Int32) (xa : Nat → Int32) (xb : Nat → Int32) (ma : Int32) (it : Nat → Int32) (vs : Nat → Int32) (se : Nat → Int32) (sm : Int64) (rs : Nat → Int64) (wk : Nat → Int32) (ors : Nat → Int64) (owk : Nat → Int32) (j : Nat) (t : Int32) (x : Nat) (y : Nat) (hj : j < 4) (hlk : (f_Mo_lacks kn j t).1 = 0) (hw : ¬ ((32 >>> (((kn j) - 1) &&& 31)) &&& 1) = 1) (hx9 : x < 16) (hy9 : y < 16) (R : Unit) (hR : f_Mo_together_w = R) : Met l y_Md_together (k_Md_together :: gt) rm_Md_together (Pc0 D cI cJ cZ cO [.ref a, .int (nI j), .int t, .int (nI x), .int (nI y)] (fun H => va_P D cls (wMo cI cJ cZ a code kn ed ct ti nm xa xb ma it vs se sm rs wk ors owk) H)) (Qd (blk a 15) (some (.int 0)) (fun H => va_P D cls (wMo cI cJ cZ a 2 kn ed ct ti nm xa xb ma it vs se sm rs wk ors owk) H)) 0 0 (blk a 15) := by
  refine Met.ofW (cc := c_Md_together) (maxL := 5) (ret := (Option.some FieldType.boolean)) (by decide) rfl ?_
  intro p e s m args below meth c s₁ B hml hv
  obtain ⟨rfl, hKn, hP⟩ := hv
  have hx := B.exec
  have hb := B.bytes
  have hr := B.returns
  have hts := atoms_spec (ws := k_Md_together :: gt) B.pre
  have hg : ∀ w ∈ gt, w.before _ s = true := fun w h => hts w (List.mem_cons_of_mem _ h)
  have hown : s.vm.findClass R_Md = some m.cls := findClass_of_methodNamed B.named
  have hlocks := B.notSynchronized
  have hK := hKn.1
  have hl := lv_entry ([.ref a, .int (nI j), .int t, .int (nI x), .int (nI y)]) (n := 5) (Nat.le_of_ble_eq_true rfl)
  rw [lg_entry_eq]
  generalize (lg_sl ([.ref a, .int (nI j), .int t, .int (nI x), .int (nI y)]) ++ List.replicate (5 - (lg_sl ([.ref a, .int (nI j), .int t, .int (nI x), .int (nI y)])).length) Slot.unset).toArray = ls at hl ⊢
  have hl : lv_has ls 5 [(0, .ref a), (1, .int (nI j)), (2, .int t), (3, .int (nI x)), (4, .int (nI y))] := hl
  have hS : va_S (blk a 15) s.heap s.heap [] := va_S.rf
  have hD : va_D (blk a 15) (wMo cI cJ cZ a code kn ed ct ti nm xa xb ma it vs se sm rs wk ors owk) := (blk_D (wMo_in))
  have hR : (()) = R := hR
  refine lv_iload_n hx hb d_Md_together_0 rfl (lv_at hl 3 rfl) ?_
  refine lv_if_lt (tgt := 22) hx hb d_Md_together_1 (by decide) (fun hc => False.elim (by have hc := (nI_ltI (a := x) (b := 0) (by omega) (by omega)).mp hc; omega)) (fun hc => ?_)
  refine lv_iload_n hx hb d_Md_together_4 rfl (lv_at hl 3 rfl) ?_
  refine lv_bipush (v := 15) hx hb d_Md_together_5 (by decide) ?_
  refine lv_icmp_gt (tgt := 22) hx hb d_Md_together_7 (by decide) (fun hc => False.elim (by have hc := (nI_ltI (a := 15) (b := x) (by omega) (by omega)).mp hc; omega)) (fun hc => ?_)
  refine lv_iload hx hb d_Md_together_10 (lv_at hl 4 rfl) ?_
  refine lv_if_lt (tgt := 22) hx hb d_Md_together_12 (by decide) (fun hc => False.elim (by have hc := (nI_ltI (a := y) (b := 0) (by omega) (by omega)).mp hc; omega)) (fun hc => ?_)
  refine lv_iload hx hb d_Md_together_15 (lv_at hl 4 rfl) ?_
  refine lv_bipush (v := 15) hx hb d_Md_together_17 (by decide) ?_
  refine lv_icmp_le (tgt := 29) hx hb d_Md_together_19 (by decide) (fun hc => ?_) (fun hc => False.elim (by have hc : ¬ (y ≤ 15) := fun h => hc (by exact (nI_leI (a := y) (b := 15) (by omega) (by omega)).mpr h); omega))
  refine lv_aload_n hx hb d_Md_together_29 rfl (lv_at hl 0 rfl) ?_
  refine lv_iload_n hx hb d_Md_together_30 rfl (lv_at hl 1 rfl) ?_
  refine lv_iload_n hx hb d_Md_together_31 rfl (lv_at hl 2 rfl) ?_
  refine lv_bipush (v := 32) hx hb d_Md_together_32 (by decide) ?_
  refine ep_callH (W.runV (As := [.int (nI j), .int t, .int 32]) (rest := []) ⟨hx, hb, hml, hown, hg⟩ (m_Mo_isNotFor_w l D cI cJ cZ cO a code kn ed ct ti nm xa xb ma it vs se sm rs wk ors owk j t 32 (by omega) hlk hw _ rfl) (ep_cwV 3 hg tw_828 tw_830 ts_16 tw_12 tk_Md_isNotFor rfl rfl (by decide +kernel) ⟨(Nat.le_of_ble_eq_true rfl), (Nat.le_of_ble_eq_true rfl)⟩) ⟨ep_blind, va_recv (q0 := 0) (ci := 9) hK hP rfl rfl, ep_pre hKn (hP)⟩ rfl rfl hl.1 rfl (lv_room (Nat.le_of_ble_eq_true rfl)) d_Md_together_34 ⟨Nat.zero_le _, Nat.zero_le _⟩) hS (fun q h => h) (fun H locs hsz9 hk1 hP1 hS => ?_)
  refine W.eq (g2 := F0 m 37 ls [.int 1]) rfl ?_
  have hP : va_P D cls (wMo cI cJ cZ a 2 kn ed ct ti nm xa xb ma it vs se sm rs wk ors owk) H := hP1
  have hD : va_D (blk a 15) (wMo cI cJ cZ a 2 kn ed ct ti nm xa xb ma it vs se sm rs wk ors owk) := (blk_D (wMo_in))
  refine lv_if_ne (tgt := 60) hx hb d_Md_together_37 (by decide) (fun hc => ?_) (fun hc => False.elim (by revert hc; decide))
  refine lv_iconst (v := 0) hx hb d_Md_together_60 (by decide) ?_
  subst hR
  exact W.zret (v := 0) hx hb hr (by decide) (fun t9 ht hW => ⟨rfl, hS.F ht, by rw [ht]; exact hP⟩) hS.2.2 d_Md_together_61

def f_Mo_together_5 (ti : Nat → Int32) (xa : Nat → Int32) (xb : Nat → Int32) (it : Nat → Int32) (vs : Nat → Int32) (se : Nat → Int32) (rs : Nat → Int64) (wk : Nat → Int32) (n : Nat) (j : Nat) (t : Int32) (x : Nat) (y : Nat) : Int32 × Int32 × (Nat → Int32) × (Nat → Int32) × (Nat → Int32) × Int64 × (Nat → Int64) × (Nat → Int32) := if (((f_Mo_isNotFor_5_32 ti xa xb it vs se rs wk n j t).2.2.2.1) x) = (((f_Mo_isNotFor_5_32 ti xa xb it vs se rs wk n j t).2.2.2.1) y) then ((1, (f_Mo_isNotFor_5_32 ti xa xb it vs se rs wk n j t).1, (f_Mo_isNotFor_5_32 ti xa xb it vs se rs wk n j t).2.1, (f_Mo_isNotFor_5_32 ti xa xb it vs se rs wk n j t).2.2.1, (f_Mo_isNotFor_5_32 ti xa xb it vs se rs wk n j t).2.2.2.1, (f_Mo_isNotFor_5_32 ti xa xb it vs se rs wk n j t).2.2.2.2.1, (f_Mo_isNotFor_5_32 ti xa xb it vs se rs wk n j t).2.2.2.2.2.1, (f_Mo_isNotFor_5_32 ti xa xb it vs se rs wk n j t).2.2.2.2.2.2)) else ((0, (f_Mo_isNotFor_5_32 ti xa xb it vs se rs wk n j t).1, (f_Mo_isNotFor_5_32 ti xa xb it vs se rs wk n j t).2.1, (f_Mo_isNotFor_5_32 ti xa xb it vs se rs wk n j t).2.2.1, (f_Mo_isNotFor_5_32 ti xa xb it vs se rs wk n j t).2.2.2.1, (f_Mo_isNotFor_5_32 ti xa xb it vs se rs wk n j t).2.2.2.2.1, (f_Mo_isNotFor_5_32 ti xa xb it vs se rs wk n j t).2.2.2.2.2.1, (f_Mo_isNotFor_5_32 ti xa xb it vs se rs wk n j t).2.2.2.2.2.2))
set_option maxHeartbeats 4000000 in
set_option maxRecDepth 100000 in
theorem m_Mo_together_5 (l : Launch) (D : va_G) (cI cJ cZ cO : ClassId) (a : Nat) (code : Int32) (kn : Nat → Int32) (ed : Nat → Int32) (ct : Nat → Int32) (ti : Nat → Int32) (nm : Nat → Int32) (xa : Nat → Int32) (xb : Nat → Int32) (ma : Int32) (it : Nat → Int32) (vs : Nat → Int32) (se : Nat → Int32) (sm : Int64) (rs : Nat → Int64) (wk : Nat → Int32) (ors : Nat → Int64) (owk : Nat → Int32) (n : Nat) (j : Nat) (t : Int32) (x : Nat) (y : Nat) (hj : j < 4) (hlk : (f_Mo_lacks kn j t).1 = 0) (hk : kn j = 6) (hct : ct j = nI n) (hn : n ≤ 32) (hop : ∀ i, i < n → (xa (32 * j + i) = nI (xa (32 * j + i)).toNatClampNeg ∧ (xa (32 * j + i)).toNatClampNeg < 16) ∧ (xb (32 * j + i) = nI (xb (32 * j + i)).toNatClampNeg ∧ (xb (32 * j + i)).toNatClampNeg < 16)) (hx9 : x < 16) (hy9 : y < 16) (R : Int32 × Int32 × (Nat → Int32) × (Nat → Int32) × (Nat → Int32) × Int64 × (Nat → Int64) × (Nat → Int32)) (hR : f_Mo_together_5 ti xa xb it vs se rs wk n j t x y = R) : Met l y_Md_together (k_Md_together :: gt) rm_Md_together (Pc0 D cI cJ cZ cO [.ref a, .int (nI j), .int t, .int (nI x), .int (nI y)] (fun H => va_P D cls (wMo cI cJ cZ a code kn ed ct ti nm xa xb ma it vs se sm rs wk ors owk) H)) (Qd (blk a 15) (some (.int R.1)) (fun H => va_P D cls (wMo cI cJ cZ a 0 kn ed ct ti nm xa xb R.2.1 R.2.2.1 R.2.2.2.1 R.2.2.2.2.1 R.2.2.2.2.2.1 R.2.2.2.2.2.2.1 R.2.2.2.2.2.2.2 ors owk) H)) 0 0 (blk a 15) := by
  refine Met.ofW (cc := c_Md_together) (maxL := 5) (ret := (Option.some FieldType.boolean)) (by decide) rfl ?_
  intro p e s m args below meth c s₁ B hml hv
  obtain ⟨rfl, hKn, hP⟩ := hv
  have hx := B.exec
  have hb := B.bytes
  have hr := B.returns
  have hts := atoms_spec (ws := k_Md_together :: gt) B.pre
  have hg : ∀ w ∈ gt, w.before _ s = true := fun w h => hts w (List.mem_cons_of_mem _ h)
  have hown : s.vm.findClass R_Md = some m.cls := findClass_of_methodNamed B.named
  have hlocks := B.notSynchronized
  have hK := hKn.1
  have hl := lv_entry ([.ref a, .int (nI j), .int t, .int (nI x), .int (nI y)]) (n := 5) (Nat.le_of_ble_eq_true rfl)
  rw [lg_entry_eq]
  generalize (lg_sl ([.ref a, .int (nI j), .int t, .int (nI x), .int (nI y)]) ++ List.replicate (5 - (lg_sl ([.ref a, .int (nI j), .int t, .int (nI x), .int (nI y)])).length) Slot.unset).toArray = ls at hl ⊢
  have hl : lv_has ls 5 [(0, .ref a), (1, .int (nI j)), (2, .int t), (3, .int (nI x)), (4, .int (nI y))] := hl
  have hS : va_S (blk a 15) s.heap s.heap [] := va_S.rf
  have hD : va_D (blk a 15) (wMo cI cJ cZ a code kn ed ct ti nm xa xb ma it vs se sm rs wk ors owk) := (blk_D (wMo_in))
  have hR : (if (((f_Mo_isNotFor_5_32 ti xa xb it vs se rs wk n j t).2.2.2.1) x) = (((f_Mo_isNotFor_5_32 ti xa xb it vs se rs wk n j t).2.2.2.1) y) then ((1, (f_Mo_isNotFor_5_32 ti xa xb it vs se rs wk n j t).1, (f_Mo_isNotFor_5_32 ti xa xb it vs se rs wk n j t).2.1, (f_Mo_isNotFor_5_32 ti xa xb it vs se rs wk n j t).2.2.1, (f_Mo_isNotFor_5_32 ti xa xb it vs se rs wk n j t).2.2.2.1, (f_Mo_isNotFor_5_32 ti xa xb it vs se rs wk n j t).2.2.2.2.1, (f_Mo_isNotFor_5_32 ti xa xb it vs se rs wk n j t).2.2.2.2.2.1, (f_Mo_isNotFor_5_32 ti xa xb it vs se rs wk n j t).2.2.2.2.2.2)) else ((0, (f_Mo_isNotFor_5_32 ti xa xb it vs se rs wk n j t).1, (f_Mo_isNotFor_5_32 ti xa xb it vs se rs wk n j t).2.1, (f_Mo_isNotFor_5_32 ti xa xb it vs se rs wk n j t).2.2.1, (f_Mo_isNotFor_5_32 ti xa xb it vs se rs wk n j t).2.2.2.1, (f_Mo_isNotFor_5_32 ti xa xb it vs se rs wk n j t).2.2.2.2.1, (f_Mo_isNotFor_5_32 ti xa xb it vs se rs wk n j t).2.2.2.2.2.1, (f_Mo_isNotFor_5_32 ti xa xb it vs se rs wk n j t).2.2.2.2.2.2))) = R := hR
  refine lv_iload_n hx hb d_Md_together_0 rfl (lv_at hl 3 rfl) ?_
  refine lv_if_lt (tgt := 22) hx hb d_Md_together_1 (by decide) (fun hc => False.elim (by have hc := (nI_ltI (a := x) (b := 0) (by omega) (by omega)).mp hc; omega)) (fun hc => ?_)
  refine lv_iload_n hx hb d_Md_together_4 rfl (lv_at hl 3 rfl) ?_
  refine lv_bipush (v := 15) hx hb d_Md_together_5 (by decide) ?_
  refine lv_icmp_gt (tgt := 22) hx hb d_Md_together_7 (by decide) (fun hc => False.elim (by have hc := (nI_ltI (a := 15) (b := x) (by omega) (by omega)).mp hc; omega)) (fun hc => ?_)
  refine lv_iload hx hb d_Md_together_10 (lv_at hl 4 rfl) ?_
  refine lv_if_lt (tgt := 22) hx hb d_Md_together_12 (by decide) (fun hc => False.elim (by have hc := (nI_ltI (a := y) (b := 0) (by omega) (by omega)).mp hc; omega)) (fun hc => ?_)
  refine lv_iload hx hb d_Md_together_15 (lv_at hl 4 rfl) ?_
  refine lv_bipush (v := 15) hx hb d_Md_together_17 (by decide) ?_
  refine lv_icmp_le (tgt := 29) hx hb d_Md_together_19 (by decide) (fun hc => ?_) (fun hc => False.elim (by have hc : ¬ (y ≤ 15) := fun h => hc (by exact (nI_leI (a := y) (b := 15) (by omega) (by omega)).mpr h); omega))
  refine lv_aload_n hx hb d_Md_together_29 rfl (lv_at hl 0 rfl) ?_
  refine lv_iload_n hx hb d_Md_together_30 rfl (lv_at hl 1 rfl) ?_
  refine lv_iload_n hx hb d_Md_together_31 rfl (lv_at hl 2 rfl) ?_
  refine lv_bipush (v := 32) hx hb d_Md_together_32 (by decide) ?_
  refine ep_callH (W.runV (As := [.int (nI j), .int t, .int 32]) (rest := []) ⟨hx, hb, hml, hown, hg⟩ (m_Mo_isNotFor_5_32 l D cI cJ cZ cO a code kn ed ct ti nm xa xb ma it vs se sm rs wk ors owk n j t (by omega) hlk hk hct (by omega) hop _ rfl) (ep_cwV 3 hg tw_828 tw_830 ts_16 tw_12 tk_Md_isNotFor rfl rfl (by decide +kernel) ⟨(Nat.le_of_ble_eq_true rfl), (Nat.le_of_ble_eq_true rfl)⟩) ⟨ep_blind, va_recv (q0 := 0) (ci := 9) hK hP rfl rfl, ep_pre hKn (hP)⟩ rfl rfl hl.1 rfl (lv_room (Nat.le_of_ble_eq_true rfl)) d_Md_together_34 ⟨Nat.zero_le _, Nat.zero_le _⟩) hS (fun q h => h) (fun H locs hsz9 hk1 hP1 hS => ?_)
  refine W.eq (g2 := F0 m 37 ls [.int 0]) rfl ?_
  have hP : va_P D cls (wMo cI cJ cZ a 0 kn ed ct ti nm xa xb ((f_Mo_isNotFor_5_32 ti xa xb it vs se rs wk n j t).1) ((f_Mo_isNotFor_5_32 ti xa xb it vs se rs wk n j t).2.1) ((f_Mo_isNotFor_5_32 ti xa xb it vs se rs wk n j t).2.2.1) ((f_Mo_isNotFor_5_32 ti xa xb it vs se rs wk n j t).2.2.2.1) ((f_Mo_isNotFor_5_32 ti xa xb it vs se rs wk n j t).2.2.2.2.1) ((f_Mo_isNotFor_5_32 ti xa xb it vs se rs wk n j t).2.2.2.2.2.1) ((f_Mo_isNotFor_5_32 ti xa xb it vs se rs wk n j t).2.2.2.2.2.2) ors owk) H := hP1
  have hD : va_D (blk a 15) (wMo cI cJ cZ a 0 kn ed ct ti nm xa xb ((f_Mo_isNotFor_5_32 ti xa xb it vs se rs wk n j t).1) ((f_Mo_isNotFor_5_32 ti xa xb it vs se rs wk n j t).2.1) ((f_Mo_isNotFor_5_32 ti xa xb it vs se rs wk n j t).2.2.1) ((f_Mo_isNotFor_5_32 ti xa xb it vs se rs wk n j t).2.2.2.1) ((f_Mo_isNotFor_5_32 ti xa xb it vs se rs wk n j t).2.2.2.2.1) ((f_Mo_isNotFor_5_32 ti xa xb it vs se rs wk n j t).2.2.2.2.2.1) ((f_Mo_isNotFor_5_32 ti xa xb it vs se rs wk n j t).2.2.2.2.2.2) ors owk) := (blk_D (wMo_in))
  refine lv_if_ne (tgt := 60) hx hb d_Md_together_37 (by decide) (fun hc => False.elim (by revert hc; decide)) (fun hc => ?_)
  refine lv_aload_n hx hb d_Md_together_40 rfl (lv_at hl 0 rfl) ?_
  refine va_get (D := D) (ci := 9) (v := .ref (a + 10)) (C := R_Md) (T := F_Md) (N := 17) hx hb hg in_Md hown hK hP 0 rfl rfl 11 (Nat.le_of_ble_eq_true rfl) (hg _ tw_717) (fun _ h9 => h9) rfl d_Md_together_41 ?_
  refine lv_iload_n hx hb d_Md_together_44 rfl (lv_at hl 3 rfl) ?_
  refine ep_iald hx hb hK hP 10 0 rfl rfl (i := x) (by omega) (by decide) d_Md_together_45 ?_
  refine lv_aload_n hx hb d_Md_together_46 rfl (lv_at hl 0 rfl) ?_
  refine va_get (D := D) (ci := 9) (v := .ref (a + 10)) (C := R_Md) (T := F_Md) (N := 17) hx hb hg in_Md hown hK hP 0 rfl rfl 11 (Nat.le_of_ble_eq_true rfl) (hg _ tw_717) (fun _ h9 => h9) rfl d_Md_together_47 ?_
  refine lv_iload hx hb d_Md_together_50 (lv_at hl 4 rfl) ?_
  refine ep_iald hx hb hK hP 10 0 rfl rfl (i := y) (by omega) (by decide) d_Md_together_52 ?_
  refine lv_icmp_ne (tgt := 60) hx hb d_Md_together_53 (by decide) (fun hc1 => ?_) (fun hc1 => ?_)
  · have hc1 : ¬ ((((f_Mo_isNotFor_5_32 ti xa xb it vs se rs wk n j t).2.2.2.1) x) = (((f_Mo_isNotFor_5_32 ti xa xb it vs se rs wk n j t).2.2.2.1) y)) := hc1
    refine lv_iconst (v := 0) hx hb d_Md_together_60 (by decide) ?_
    rw [if_neg hc1] at hR
    subst hR
    exact W.zret (v := 0) hx hb hr (by decide) (fun t9 ht hW => ⟨rfl, hS.F ht, by rw [ht]; exact hP⟩) hS.2.2 d_Md_together_61
  · have hc1 : (((f_Mo_isNotFor_5_32 ti xa xb it vs se rs wk n j t).2.2.2.1) x) = (((f_Mo_isNotFor_5_32 ti xa xb it vs se rs wk n j t).2.2.2.1) y) := hc1
    refine lv_iconst (v := 1) hx hb d_Md_together_56 (by decide) ?_
    refine lv_goto (tgt := 61) hx hb d_Md_together_57 (by decide) ?_
    rw [if_pos hc1] at hR
    subst hR
    exact W.zret (v := 1) hx hb hr (by decide) (fun t9 ht hW => ⟨rfl, hS.F ht, by rw [ht]; exact hP⟩) hS.2.2 d_Md_together_61

def f_Mo_together_x (x : Int32) (y : Int32) : Unit := if x < 0 then (()) else (if 15 < x then (()) else (if y < 0 then (()) else (if y ≤ 15 then (()) else (()))))
set_option maxHeartbeats 4000000 in
set_option maxRecDepth 100000 in
theorem m_Mo_together_x (l : Launch) (D : va_G) (cI cJ cZ cO : ClassId) (a : Nat) (code : Int32) (kn : Nat → Int32) (ed : Nat → Int32) (ct : Nat → Int32) (ti : Nat → Int32) (nm : Nat → Int32) (xa : Nat → Int32) (xb : Nat → Int32) (ma : Int32) (it : Nat → Int32) (vs : Nat → Int32) (se : Nat → Int32) (sm : Int64) (rs : Nat → Int64) (wk : Nat → Int32) (ors : Nat → Int64) (owk : Nat → Int32) (id : Int32) (t : Int32) (x : Int32) (y : Int32) (hbad : ¬ ((¬ x < 0 ∧ ¬ 15 < x) ∧ ¬ y < 0 ∧ y ≤ 15)) (R : Unit) (hR : f_Mo_together_x x y = R) : Met l y_Md_together (k_Md_together :: gt) rm_Md_together (Pc0 D cI cJ cZ cO [.ref a, .int id, .int t, .int x, .int y] (fun H => va_P D cls (wMo cI cJ cZ a code kn ed ct ti nm xa xb ma it vs se sm rs wk ors owk) H)) (Qd (blk a 15) (some (.int 0)) (fun H => va_P D cls (wMo cI cJ cZ a 1 kn ed ct ti nm xa xb ma it vs se sm rs wk ors owk) H)) 0 0 (blk a 15) := by
  refine Met.ofW (cc := c_Md_together) (maxL := 5) (ret := (Option.some FieldType.boolean)) (by decide) rfl ?_
  intro p e s m args below meth c s₁ B hml hv
  obtain ⟨rfl, hKn, hP⟩ := hv
  have hx := B.exec
  have hb := B.bytes
  have hr := B.returns
  have hts := atoms_spec (ws := k_Md_together :: gt) B.pre
  have hg : ∀ w ∈ gt, w.before _ s = true := fun w h => hts w (List.mem_cons_of_mem _ h)
  have hown : s.vm.findClass R_Md = some m.cls := findClass_of_methodNamed B.named
  have hlocks := B.notSynchronized
  have hK := hKn.1
  have hl := lv_entry ([.ref a, .int id, .int t, .int x, .int y]) (n := 5) (Nat.le_of_ble_eq_true rfl)
  rw [lg_entry_eq]
  generalize (lg_sl ([.ref a, .int id, .int t, .int x, .int y]) ++ List.replicate (5 - (lg_sl ([.ref a, .int id, .int t, .int x, .int y])).length) Slot.unset).toArray = ls at hl ⊢
  have hl : lv_has ls 5 [(0, .ref a), (1, .int id), (2, .int t), (3, .int x), (4, .int y)] := hl
  have hS : va_S (blk a 15) s.heap s.heap [] := va_S.rf
  have hD : va_D (blk a 15) (wMo cI cJ cZ a code kn ed ct ti nm xa xb ma it vs se sm rs wk ors owk) := (blk_D (wMo_in))
  have hR : (if x < 0 then (()) else (if 15 < x then (()) else (if y < 0 then (()) else (if y ≤ 15 then (()) else (()))))) = R := hR
  refine lv_iload_n hx hb d_Md_together_0 rfl (lv_at hl 3 rfl) ?_
  refine lv_if_lt (tgt := 22) hx hb d_Md_together_1 (by decide) (fun hc1 => ?_) (fun hc1 => ?_)
  · have hc1 : x < 0 := hc1
    refine lv_aload_n hx hb d_Md_together_22 rfl (lv_at hl 0 rfl) ?_
    refine lv_iconst (v := 1) hx hb d_Md_together_23 (by decide) ?_
    refine va_put (D := D) (ci := 9) (v := .int 1) (ty := .int) (C := R_Md) (T := F_Md) (N := 17) hx hb hg in_Md t_Md t_Md_ok n_Md hown hK hP hD hS 0 rfl rfl 0 (Nat.le_of_ble_eq_true rfl) (hg _ tw_706) (fun _ h9 => h9) rfl (by decide +kernel) rfl rfl (Nat.le_of_ble_eq_true rfl) d_Md_together_24 (fun H locs hP hD hS => ?_)
    have hP : va_P D cls (wMo cI cJ cZ a 1 kn ed ct ti nm xa xb ma it vs se sm rs wk ors owk) H := hP
    have hD : va_D (blk a 15) (wMo cI cJ cZ a 1 kn ed ct ti nm xa xb ma it vs se sm rs wk ors owk) := hD
    refine lv_iconst (v := 0) hx hb d_Md_together_27 (by decide) ?_
    rw [if_pos hc1] at hR
    subst hR
    exact W.zret (v := 0) hx hb hr (by decide) (fun t9 ht hW => ⟨rfl, hS.F ht, by rw [ht]; exact hP⟩) hS.2.2 d_Md_together_28
  · have hc1 : ¬ (x < 0) := hc1
    refine lv_iload_n hx hb d_Md_together_4 rfl (lv_at hl 3 rfl) ?_
    refine lv_bipush (v := 15) hx hb d_Md_together_5 (by decide) ?_
    refine lv_icmp_gt (tgt := 22) hx hb d_Md_together_7 (by decide) (fun hc2 => ?_) (fun hc2 => ?_)
    · have hc2 : 15 < x := hc2
      refine lv_aload_n hx hb d_Md_together_22 rfl (lv_at hl 0 rfl) ?_
      refine lv_iconst (v := 1) hx hb d_Md_together_23 (by decide) ?_
      refine va_put (D := D) (ci := 9) (v := .int 1) (ty := .int) (C := R_Md) (T := F_Md) (N := 17) hx hb hg in_Md t_Md t_Md_ok n_Md hown hK hP hD hS 0 rfl rfl 0 (Nat.le_of_ble_eq_true rfl) (hg _ tw_706) (fun _ h9 => h9) rfl (by decide +kernel) rfl rfl (Nat.le_of_ble_eq_true rfl) d_Md_together_24 (fun H locs hP hD hS => ?_)
      have hP : va_P D cls (wMo cI cJ cZ a 1 kn ed ct ti nm xa xb ma it vs se sm rs wk ors owk) H := hP
      have hD : va_D (blk a 15) (wMo cI cJ cZ a 1 kn ed ct ti nm xa xb ma it vs se sm rs wk ors owk) := hD
      refine lv_iconst (v := 0) hx hb d_Md_together_27 (by decide) ?_
      rw [if_neg hc1, if_pos hc2] at hR
      subst hR
      exact W.zret (v := 0) hx hb hr (by decide) (fun t9 ht hW => ⟨rfl, hS.F ht, by rw [ht]; exact hP⟩) hS.2.2 d_Md_together_28
    · have hc2 : ¬ (15 < x) := hc2
      refine lv_iload hx hb d_Md_together_10 (lv_at hl 4 rfl) ?_
      refine lv_if_lt (tgt := 22) hx hb d_Md_together_12 (by decide) (fun hc3 => ?_) (fun hc3 => ?_)
      · have hc3 : y < 0 := hc3
        refine lv_aload_n hx hb d_Md_together_22 rfl (lv_at hl 0 rfl) ?_
        refine lv_iconst (v := 1) hx hb d_Md_together_23 (by decide) ?_
        refine va_put (D := D) (ci := 9) (v := .int 1) (ty := .int) (C := R_Md) (T := F_Md) (N := 17) hx hb hg in_Md t_Md t_Md_ok n_Md hown hK hP hD hS 0 rfl rfl 0 (Nat.le_of_ble_eq_true rfl) (hg _ tw_706) (fun _ h9 => h9) rfl (by decide +kernel) rfl rfl (Nat.le_of_ble_eq_true rfl) d_Md_together_24 (fun H locs hP hD hS => ?_)
        have hP : va_P D cls (wMo cI cJ cZ a 1 kn ed ct ti nm xa xb ma it vs se sm rs wk ors owk) H := hP
        have hD : va_D (blk a 15) (wMo cI cJ cZ a 1 kn ed ct ti nm xa xb ma it vs se sm rs wk ors owk) := hD
        refine lv_iconst (v := 0) hx hb d_Md_together_27 (by decide) ?_
        rw [if_neg hc1, if_neg hc2, if_pos hc3] at hR
        subst hR
        exact W.zret (v := 0) hx hb hr (by decide) (fun t9 ht hW => ⟨rfl, hS.F ht, by rw [ht]; exact hP⟩) hS.2.2 d_Md_together_28
      · have hc3 : ¬ (y < 0) := hc3
        refine lv_iload hx hb d_Md_together_15 (lv_at hl 4 rfl) ?_
        refine lv_bipush (v := 15) hx hb d_Md_together_17 (by decide) ?_
        refine lv_icmp_le (tgt := 29) hx hb d_Md_together_19 (by decide) (fun hc4 => ?_) (fun hc4 => ?_)
        · have hc4 : y ≤ 15 := hc4
          exact (hbad ⟨⟨hc1, hc2⟩, hc3, hc4⟩).elim
        · have hc4 : ¬ (y ≤ 15) := hc4
          refine lv_aload_n hx hb d_Md_together_22 rfl (lv_at hl 0 rfl) ?_
          refine lv_iconst (v := 1) hx hb d_Md_together_23 (by decide) ?_
          refine va_put (D := D) (ci := 9) (v := .int 1) (ty := .int) (C := R_Md) (T := F_Md) (N := 17) hx hb hg in_Md t_Md t_Md_ok n_Md hown hK hP hD hS 0 rfl rfl 0 (Nat.le_of_ble_eq_true rfl) (hg _ tw_706) (fun _ h9 => h9) rfl (by decide +kernel) rfl rfl (Nat.le_of_ble_eq_true rfl) d_Md_together_24 (fun H locs hP hD hS => ?_)
          have hP : va_P D cls (wMo cI cJ cZ a 1 kn ed ct ti nm xa xb ma it vs se sm rs wk ors owk) H := hP
          have hD : va_D (blk a 15) (wMo cI cJ cZ a 1 kn ed ct ti nm xa xb ma it vs se sm rs wk ors owk) := hD
          refine lv_iconst (v := 0) hx hb d_Md_together_27 (by decide) ?_
          rw [if_neg hc1, if_neg hc2, if_neg hc3, if_neg hc4] at hR
          subst hR
          exact W.zret (v := 0) hx hb hr (by decide) (fun t9 ht hW => ⟨rfl, hS.F ht, by rw [ht]; exact hP⟩) hS.2.2 d_Md_together_28

def f_Mo_asked_e (kn : Nat → Int32) (j : Nat) (t : Int32) : Int32 := (f_Mo_isNotFor_e kn j t)
set_option maxHeartbeats 4000000 in
set_option maxRecDepth 100000 in
theorem m_Mo_asked_e (l : Launch) (D : va_G) (cI cJ cZ cO : ClassId) (a : Nat) (code : Int32) (kn : Nat → Int32) (ed : Nat → Int32) (ct : Nat → Int32) (ti : Nat → Int32) (nm : Nat → Int32) (xa : Nat → Int32) (xb : Nat → Int32) (ma : Int32) (it : Nat → Int32) (vs : Nat → Int32) (se : Nat → Int32) (sm : Int64) (rs : Nat → Int64) (wk : Nat → Int32) (ors : Nat → Int64) (owk : Nat → Int32) (j : Nat) (t : Int32) (hj : j < 4) (hlk : ¬ (f_Mo_lacks kn j t).1 = 0) (R : Int32) (hR : f_Mo_asked_e kn j t = R) : Met l y_Md_asked (k_Md_asked :: gt) rm_Md_asked (Pc0 D cI cJ cZ cO [.ref a, .int (nI j), .int t] (fun H => va_P D cls (wMo cI cJ cZ a code kn ed ct ti nm xa xb ma it vs se sm rs wk ors owk) H)) (Qd (blk a 15) (some (.int (-1))) (fun H => va_P D cls (wMo cI cJ cZ a R kn ed ct ti nm xa xb ma it vs se sm rs wk ors owk) H)) 0 0 (blk a 15) := by
  refine Met.ofW (cc := c_Md_asked) (maxL := 4) (ret := (Option.some FieldType.int)) (by decide) rfl ?_
  intro p e s m args below meth c s₁ B hml hv
  obtain ⟨rfl, hKn, hP⟩ := hv
  have hx := B.exec
  have hb := B.bytes
  have hr := B.returns
  have hts := atoms_spec (ws := k_Md_asked :: gt) B.pre
  have hg : ∀ w ∈ gt, w.before _ s = true := fun w h => hts w (List.mem_cons_of_mem _ h)
  have hown : s.vm.findClass R_Md = some m.cls := findClass_of_methodNamed B.named
  have hlocks := B.notSynchronized
  have hK := hKn.1
  have hl := lv_entry ([.ref a, .int (nI j), .int t]) (n := 4) (Nat.le_of_ble_eq_true rfl)
  rw [lg_entry_eq]
  generalize (lg_sl ([.ref a, .int (nI j), .int t]) ++ List.replicate (4 - (lg_sl ([.ref a, .int (nI j), .int t])).length) Slot.unset).toArray = ls at hl ⊢
  have hl : lv_has ls 4 [(0, .ref a), (1, .int (nI j)), (2, .int t)] := hl
  have hS : va_S (blk a 15) s.heap s.heap [] := va_S.rf
  have hD : va_D (blk a 15) (wMo cI cJ cZ a code kn ed ct ti nm xa xb ma it vs se sm rs wk ors owk) := (blk_D (wMo_in))
  have hR : ((f_Mo_isNotFor_e kn j t)) = R := hR
  refine lv_aload_n hx hb d_Md_asked_0 rfl (lv_at hl 0 rfl) ?_
  refine lv_iload_n hx hb d_Md_asked_1 rfl (lv_at hl 1 rfl) ?_
  refine lv_iload_n hx hb d_Md_asked_2 rfl (lv_at hl 2 rfl) ?_
  refine lv_bipush (v := 63) hx hb d_Md_asked_3 (by decide) ?_
  refine ep_callH (W.runV (As := [.int (nI j), .int t, .int 63]) (rest := []) ⟨hx, hb, hml, hown, hg⟩ (m_Mo_isNotFor_e l D cI cJ cZ cO a code kn ed ct ti nm xa xb ma it vs se sm rs wk ors owk j t 63 (by omega) hlk _ rfl) (ep_cwV 3 hg tw_828 tw_830 ts_16 tw_12 tk_Md_isNotFor rfl rfl (by decide +kernel) ⟨(Nat.le_of_ble_eq_true rfl), (Nat.le_of_ble_eq_true rfl)⟩) ⟨ep_blind, va_recv (q0 := 0) (ci := 9) hK hP rfl rfl, ep_pre hKn (hP)⟩ rfl rfl hl.1 rfl (lv_room (Nat.le_of_ble_eq_true rfl)) d_Md_asked_5 ⟨Nat.zero_le _, Nat.zero_le _⟩) hS (fun q h => h) (fun H locs hsz9 hk1 hP1 hS => ?_)
  refine W.eq (g2 := F0 m 8 ls [.int 1]) rfl ?_
  have hP : va_P D cls (wMo cI cJ cZ a (f_Mo_isNotFor_e kn j t) kn ed ct ti nm xa xb ma it vs se sm rs wk ors owk) H := hP1
  have hD : va_D (blk a 15) (wMo cI cJ cZ a (f_Mo_isNotFor_e kn j t) kn ed ct ti nm xa xb ma it vs se sm rs wk ors owk) := (blk_D (wMo_in))
  refine lv_if_eq (tgt := 13) hx hb d_Md_asked_8 (by decide) (fun hc => False.elim (by revert hc; decide)) (fun hc => ?_)
  refine lv_iconst (v := (-1)) hx hb d_Md_asked_11 (by decide) ?_
  subst hR
  exact W.iret (v := (-1)) hx hb hr (fun t9 ht hW => ⟨rfl, hS.F ht, by rw [ht]; exact hP⟩) hS.2.2 d_Md_asked_12

def f_Mo_asked_b  : Int32 := f_Mo_isNotFor_b
set_option maxHeartbeats 4000000 in
set_option maxRecDepth 100000 in
theorem m_Mo_asked_b (l : Launch) (D : va_G) (cI cJ cZ cO : ClassId) (a : Nat) (code : Int32) (kn : Nat → Int32) (ed : Nat → Int32) (ct : Nat → Int32) (ti : Nat → Int32) (nm : Nat → Int32) (xa : Nat → Int32) (xb : Nat → Int32) (ma : Int32) (it : Nat → Int32) (vs : Nat → Int32) (se : Nat → Int32) (sm : Int64) (rs : Nat → Int64) (wk : Nat → Int32) (ors : Nat → Int64) (owk : Nat → Int32) (id : Int32) (t : Int32) (hid : ¬ okI id) (R : Int32) (hR : f_Mo_asked_b = R) : Met l y_Md_asked (k_Md_asked :: gt) rm_Md_asked (Pc0 D cI cJ cZ cO [.ref a, .int id, .int t] (fun H => va_P D cls (wMo cI cJ cZ a code kn ed ct ti nm xa xb ma it vs se sm rs wk ors owk) H)) (Qd (blk a 15) (some (.int (-1))) (fun H => va_P D cls (wMo cI cJ cZ a R kn ed ct ti nm xa xb ma it vs se sm rs wk ors owk) H)) 0 0 (blk a 15) := by
  refine Met.ofW (cc := c_Md_asked) (maxL := 4) (ret := (Option.some FieldType.int)) (by decide) rfl ?_
  intro p e s m args below meth c s₁ B hml hv
  obtain ⟨rfl, hKn, hP⟩ := hv
  have hx := B.exec
  have hb := B.bytes
  have hr := B.returns
  have hts := atoms_spec (ws := k_Md_asked :: gt) B.pre
  have hg : ∀ w ∈ gt, w.before _ s = true := fun w h => hts w (List.mem_cons_of_mem _ h)
  have hown : s.vm.findClass R_Md = some m.cls := findClass_of_methodNamed B.named
  have hlocks := B.notSynchronized
  have hK := hKn.1
  have hl := lv_entry ([.ref a, .int id, .int t]) (n := 4) (Nat.le_of_ble_eq_true rfl)
  rw [lg_entry_eq]
  generalize (lg_sl ([.ref a, .int id, .int t]) ++ List.replicate (4 - (lg_sl ([.ref a, .int id, .int t])).length) Slot.unset).toArray = ls at hl ⊢
  have hl : lv_has ls 4 [(0, .ref a), (1, .int id), (2, .int t)] := hl
  have hS : va_S (blk a 15) s.heap s.heap [] := va_S.rf
  have hD : va_D (blk a 15) (wMo cI cJ cZ a code kn ed ct ti nm xa xb ma it vs se sm rs wk ors owk) := (blk_D (wMo_in))
  have hR : (f_Mo_isNotFor_b) = R := hR
  refine lv_aload_n hx hb d_Md_asked_0 rfl (lv_at hl 0 rfl) ?_
  refine lv_iload_n hx hb d_Md_asked_1 rfl (lv_at hl 1 rfl) ?_
  refine lv_iload_n hx hb d_Md_asked_2 rfl (lv_at hl 2 rfl) ?_
  refine lv_bipush (v := 63) hx hb d_Md_asked_3 (by decide) ?_
  refine ep_callH (W.runV (As := [.int id, .int t, .int 63]) (rest := []) ⟨hx, hb, hml, hown, hg⟩ (m_Mo_isNotFor_b l D cI cJ cZ cO a code kn ed ct ti nm xa xb ma it vs se sm rs wk ors owk id t 63 hid _ rfl) (ep_cwV 3 hg tw_828 tw_830 ts_16 tw_12 tk_Md_isNotFor rfl rfl (by decide +kernel) ⟨(Nat.le_of_ble_eq_true rfl), (Nat.le_of_ble_eq_true rfl)⟩) ⟨ep_blind, va_recv (q0 := 0) (ci := 9) hK hP rfl rfl, ep_pre hKn (hP)⟩ rfl rfl hl.1 rfl (lv_room (Nat.le_of_ble_eq_true rfl)) d_Md_asked_5 ⟨Nat.zero_le _, Nat.zero_le _⟩) hS (fun q h => h) (fun H locs hsz9 hk1 hP1 hS => ?_)
  refine W.eq (g2 := F0 m 8 ls [.int 1]) rfl ?_
  have hP : va_P D cls (wMo cI cJ cZ a f_Mo_isNotFor_b kn ed ct ti nm xa xb ma it vs se sm rs wk ors owk) H := hP1
  have hD : va_D (blk a 15) (wMo cI cJ cZ a f_Mo_isNotFor_b kn ed ct ti nm xa xb ma it vs se sm rs wk ors owk) := (blk_D (wMo_in))
  refine lv_if_eq (tgt := 13) hx hb d_Md_asked_8 (by decide) (fun hc => False.elim (by revert hc; decide)) (fun hc => ?_)
  refine lv_iconst (v := (-1)) hx hb d_Md_asked_11 (by decide) ?_
  subst hR
  exact W.iret (v := (-1)) hx hb hr (fun t9 ht hW => ⟨rfl, hS.F ht, by rw [ht]; exact hP⟩) hS.2.2 d_Md_asked_12

def f_Mo_asked_w  : Unit := ()
set_option maxHeartbeats 4000000 in
set_option maxRecDepth 100000 in
theorem m_Mo_asked_w (l : Launch) (D : va_G) (cI cJ cZ cO : ClassId) (a : Nat) (code : Int32) (kn : Nat → Int32) (ed : Nat → Int32) (ct : Nat → Int32) (ti : Nat → Int32) (nm : Nat → Int32) (xa : Nat → Int32) (xb : Nat → Int32) (ma : Int32) (it : Nat → Int32) (vs : Nat → Int32) (se : Nat → Int32) (sm : Int64) (rs : Nat → Int64) (wk : Nat → Int32) (ors : Nat → Int64) (owk : Nat → Int32) (j : Nat) (t : Int32) (hj : j < 4) (hlk : (f_Mo_lacks kn j t).1 = 0) (hw : ¬ ((63 >>> (((kn j) - 1) &&& 31)) &&& 1) = 1) (R : Unit) (hR : f_Mo_asked_w = R) : Met l y_Md_asked (k_Md_asked :: gt) rm_Md_asked (Pc0 D cI cJ cZ cO [.ref a, .int (nI j), .int t] (fun H => va_P D cls (wMo cI cJ cZ a code kn ed ct ti nm xa xb ma it vs se sm rs wk ors owk) H)) (Qd (blk a 15) (some (.int (-1))) (fun H => va_P D cls (wMo cI cJ cZ a 2 kn ed ct ti nm xa xb ma it vs se sm rs wk ors owk) H)) 0 0 (blk a 15) := by
  refine Met.ofW (cc := c_Md_asked) (maxL := 4) (ret := (Option.some FieldType.int)) (by decide) rfl ?_
  intro p e s m args below meth c s₁ B hml hv
  obtain ⟨rfl, hKn, hP⟩ := hv
  have hx := B.exec
  have hb := B.bytes
  have hr := B.returns
  have hts := atoms_spec (ws := k_Md_asked :: gt) B.pre
  have hg : ∀ w ∈ gt, w.before _ s = true := fun w h => hts w (List.mem_cons_of_mem _ h)
  have hown : s.vm.findClass R_Md = some m.cls := findClass_of_methodNamed B.named
  have hlocks := B.notSynchronized
  have hK := hKn.1
  have hl := lv_entry ([.ref a, .int (nI j), .int t]) (n := 4) (Nat.le_of_ble_eq_true rfl)
  rw [lg_entry_eq]
  generalize (lg_sl ([.ref a, .int (nI j), .int t]) ++ List.replicate (4 - (lg_sl ([.ref a, .int (nI j), .int t])).length) Slot.unset).toArray = ls at hl ⊢
  have hl : lv_has ls 4 [(0, .ref a), (1, .int (nI j)), (2, .int t)] := hl
  have hS : va_S (blk a 15) s.heap s.heap [] := va_S.rf
  have hD : va_D (blk a 15) (wMo cI cJ cZ a code kn ed ct ti nm xa xb ma it vs se sm rs wk ors owk) := (blk_D (wMo_in))
  have hR : (()) = R := hR
  refine lv_aload_n hx hb d_Md_asked_0 rfl (lv_at hl 0 rfl) ?_
  refine lv_iload_n hx hb d_Md_asked_1 rfl (lv_at hl 1 rfl) ?_
  refine lv_iload_n hx hb d_Md_asked_2 rfl (lv_at hl 2 rfl) ?_
  refine lv_bipush (v := 63) hx hb d_Md_asked_3 (by decide) ?_
  refine ep_callH (W.runV (As := [.int (nI j), .int t, .int 63]) (rest := []) ⟨hx, hb, hml, hown, hg⟩ (m_Mo_isNotFor_w l D cI cJ cZ cO a code kn ed ct ti nm xa xb ma it vs se sm rs wk ors owk j t 63 (by omega) hlk hw _ rfl) (ep_cwV 3 hg tw_828 tw_830 ts_16 tw_12 tk_Md_isNotFor rfl rfl (by decide +kernel) ⟨(Nat.le_of_ble_eq_true rfl), (Nat.le_of_ble_eq_true rfl)⟩) ⟨ep_blind, va_recv (q0 := 0) (ci := 9) hK hP rfl rfl, ep_pre hKn (hP)⟩ rfl rfl hl.1 rfl (lv_room (Nat.le_of_ble_eq_true rfl)) d_Md_asked_5 ⟨Nat.zero_le _, Nat.zero_le _⟩) hS (fun q h => h) (fun H locs hsz9 hk1 hP1 hS => ?_)
  refine W.eq (g2 := F0 m 8 ls [.int 1]) rfl ?_
  have hP : va_P D cls (wMo cI cJ cZ a 2 kn ed ct ti nm xa xb ma it vs se sm rs wk ors owk) H := hP1
  have hD : va_D (blk a 15) (wMo cI cJ cZ a 2 kn ed ct ti nm xa xb ma it vs se sm rs wk ors owk) := (blk_D (wMo_in))
  refine lv_if_eq (tgt := 13) hx hb d_Md_asked_8 (by decide) (fun hc => False.elim (by revert hc; decide)) (fun hc => ?_)
  refine lv_iconst (v := (-1)) hx hb d_Md_asked_11 (by decide) ?_
  subst hR
  exact W.iret (v := (-1)) hx hb hr (fun t9 ht hW => ⟨rfl, hS.F ht, by rw [ht]; exact hP⟩) hS.2.2 d_Md_asked_12

def f_Mo_asked_0 (ti : Nat → Int32) (nm : Nat → Int32) (xa : Nat → Int32) (it : Nat → Int32) (vs : Nat → Int32) (se : Nat → Int32) (rs : Nat → Int64) (wk : Nat → Int32) (n : Nat) (j : Nat) (t : Int32) : Int32 × Int32 × Nat × (Nat → Int32) × (Nat → Int32) × (Nat → Int32) × Int64 × (Nat → Int64) × (Nat → Int32) := if ¬ (f_Mo_find ti n j t) = -1 then ((nI ((f_Mo_find ti n j t).toNatClampNeg), 0, (f_Mo_isNotFor_0_63 ti nm xa it vs se rs wk n j t).1, (f_Mo_isNotFor_0_63 ti nm xa it vs se rs wk n j t).2.1, (f_Mo_isNotFor_0_63 ti nm xa it vs se rs wk n j t).2.2.1, (f_Mo_isNotFor_0_63 ti nm xa it vs se rs wk n j t).2.2.2.1, (f_Mo_isNotFor_0_63 ti nm xa it vs se rs wk n j t).2.2.2.2.1, (f_Mo_isNotFor_0_63 ti nm xa it vs se rs wk n j t).2.2.2.2.2.1, (f_Mo_isNotFor_0_63 ti nm xa it vs se rs wk n j t).2.2.2.2.2.2)) else ((-1, 3, (f_Mo_isNotFor_0_63 ti nm xa it vs se rs wk n j t).1, (f_Mo_isNotFor_0_63 ti nm xa it vs se rs wk n j t).2.1, (f_Mo_isNotFor_0_63 ti nm xa it vs se rs wk n j t).2.2.1, (f_Mo_isNotFor_0_63 ti nm xa it vs se rs wk n j t).2.2.2.1, (f_Mo_isNotFor_0_63 ti nm xa it vs se rs wk n j t).2.2.2.2.1, (f_Mo_isNotFor_0_63 ti nm xa it vs se rs wk n j t).2.2.2.2.2.1, (f_Mo_isNotFor_0_63 ti nm xa it vs se rs wk n j t).2.2.2.2.2.2))
set_option maxHeartbeats 4000000 in
set_option maxRecDepth 100000 in
theorem m_Mo_asked_0 (l : Launch) (D : va_G) (cI cJ cZ cO : ClassId) (a : Nat) (code : Int32) (kn : Nat → Int32) (ed : Nat → Int32) (ct : Nat → Int32) (ti : Nat → Int32) (nm : Nat → Int32) (xa : Nat → Int32) (xb : Nat → Int32) (ma : Int32) (it : Nat → Int32) (vs : Nat → Int32) (se : Nat → Int32) (sm : Int64) (rs : Nat → Int64) (wk : Nat → Int32) (ors : Nat → Int64) (owk : Nat → Int32) (n : Nat) (j : Nat) (t : Int32) (hj : j < 4) (hlk : (f_Mo_lacks kn j t).1 = 0) (hk : kn j = 1) (hct : ct j = nI n) (hn : n ≤ 32) (R : Int32 × Int32 × Nat × (Nat → Int32) × (Nat → Int32) × (Nat → Int32) × Int64 × (Nat → Int64) × (Nat → Int32)) (hR : f_Mo_asked_0 ti nm xa it vs se rs wk n j t = R) : Met l y_Md_asked (k_Md_asked :: gt) rm_Md_asked (Pc0 D cI cJ cZ cO [.ref a, .int (nI j), .int t] (fun H => va_P D cls (wMo cI cJ cZ a code kn ed ct ti nm xa xb ma it vs se sm rs wk ors owk) H)) (Qd (blk a 15) (some (.int R.1)) (fun H => va_P D cls (wMo cI cJ cZ a R.2.1 kn ed ct ti nm xa xb (nI R.2.2.1) R.2.2.2.1 R.2.2.2.2.1 R.2.2.2.2.2.1 R.2.2.2.2.2.2.1 R.2.2.2.2.2.2.2.1 R.2.2.2.2.2.2.2.2 ors owk) H)) 0 0 (blk a 15) := by
  refine Met.ofW (cc := c_Md_asked) (maxL := 4) (ret := (Option.some FieldType.int)) (by decide) rfl ?_
  intro p e s m args below meth c s₁ B hml hv
  obtain ⟨rfl, hKn, hP⟩ := hv
  have hx := B.exec
  have hb := B.bytes
  have hr := B.returns
  have hts := atoms_spec (ws := k_Md_asked :: gt) B.pre
  have hg : ∀ w ∈ gt, w.before _ s = true := fun w h => hts w (List.mem_cons_of_mem _ h)
  have hown : s.vm.findClass R_Md = some m.cls := findClass_of_methodNamed B.named
  have hlocks := B.notSynchronized
  have hK := hKn.1
  have hl := lv_entry ([.ref a, .int (nI j), .int t]) (n := 4) (Nat.le_of_ble_eq_true rfl)
  rw [lg_entry_eq]
  generalize (lg_sl ([.ref a, .int (nI j), .int t]) ++ List.replicate (4 - (lg_sl ([.ref a, .int (nI j), .int t])).length) Slot.unset).toArray = ls at hl ⊢
  have hl : lv_has ls 4 [(0, .ref a), (1, .int (nI j)), (2, .int t)] := hl
  have hS : va_S (blk a 15) s.heap s.heap [] := va_S.rf
  have hD : va_D (blk a 15) (wMo cI cJ cZ a code kn ed ct ti nm xa xb ma it vs se sm rs wk ors owk) := (blk_D (wMo_in))
  have hR : (if ¬ (f_Mo_find ti n j t) = -1 then ((nI ((f_Mo_find ti n j t).toNatClampNeg), 0, (f_Mo_isNotFor_0_63 ti nm xa it vs se rs wk n j t).1, (f_Mo_isNotFor_0_63 ti nm xa it vs se rs wk n j t).2.1, (f_Mo_isNotFor_0_63 ti nm xa it vs se rs wk n j t).2.2.1, (f_Mo_isNotFor_0_63 ti nm xa it vs se rs wk n j t).2.2.2.1, (f_Mo_isNotFor_0_63 ti nm xa it vs se rs wk n j t).2.2.2.2.1, (f_Mo_isNotFor_0_63 ti nm xa it vs se rs wk n j t).2.2.2.2.2.1, (f_Mo_isNotFor_0_63 ti nm xa it vs se rs wk n j t).2.2.2.2.2.2)) else ((-1, 3, (f_Mo_isNotFor_0_63 ti nm xa it vs se rs wk n j t).1, (f_Mo_isNotFor_0_63 ti nm xa it vs se rs wk n j t).2.1, (f_Mo_isNotFor_0_63 ti nm xa it vs se rs wk n j t).2.2.1, (f_Mo_isNotFor_0_63 ti nm xa it vs se rs wk n j t).2.2.2.1, (f_Mo_isNotFor_0_63 ti nm xa it vs se rs wk n j t).2.2.2.2.1, (f_Mo_isNotFor_0_63 ti nm xa it vs se rs wk n j t).2.2.2.2.2.1, (f_Mo_isNotFor_0_63 ti nm xa it vs se rs wk n j t).2.2.2.2.2.2))) = R := hR
  refine lv_aload_n hx hb d_Md_asked_0 rfl (lv_at hl 0 rfl) ?_
  refine lv_iload_n hx hb d_Md_asked_1 rfl (lv_at hl 1 rfl) ?_
  refine lv_iload_n hx hb d_Md_asked_2 rfl (lv_at hl 2 rfl) ?_
  refine lv_bipush (v := 63) hx hb d_Md_asked_3 (by decide) ?_
  refine ep_callH (W.runV (As := [.int (nI j), .int t, .int 63]) (rest := []) ⟨hx, hb, hml, hown, hg⟩ (m_Mo_isNotFor_0_63 l D cI cJ cZ cO a code kn ed ct ti nm xa xb ma it vs se sm rs wk ors owk n j t (by omega) hlk hk hct (by omega) _ rfl) (ep_cwV 3 hg tw_828 tw_830 ts_16 tw_12 tk_Md_isNotFor rfl rfl (by decide +kernel) ⟨(Nat.le_of_ble_eq_true rfl), (Nat.le_of_ble_eq_true rfl)⟩) ⟨ep_blind, va_recv (q0 := 0) (ci := 9) hK hP rfl rfl, ep_pre hKn (hP)⟩ rfl rfl hl.1 rfl (lv_room (Nat.le_of_ble_eq_true rfl)) d_Md_asked_5 ⟨Nat.zero_le _, Nat.zero_le _⟩) hS (fun q h => h) (fun H locs hsz9 hk1 hP1 hS => ?_)
  refine W.eq (g2 := F0 m 8 ls [.int 0]) rfl ?_
  have hP : va_P D cls (wMo cI cJ cZ a 0 kn ed ct ti nm xa xb (nI ((f_Mo_isNotFor_0_63 ti nm xa it vs se rs wk n j t).1)) ((f_Mo_isNotFor_0_63 ti nm xa it vs se rs wk n j t).2.1) ((f_Mo_isNotFor_0_63 ti nm xa it vs se rs wk n j t).2.2.1) ((f_Mo_isNotFor_0_63 ti nm xa it vs se rs wk n j t).2.2.2.1) ((f_Mo_isNotFor_0_63 ti nm xa it vs se rs wk n j t).2.2.2.2.1) ((f_Mo_isNotFor_0_63 ti nm xa it vs se rs wk n j t).2.2.2.2.2.1) ((f_Mo_isNotFor_0_63 ti nm xa it vs se rs wk n j t).2.2.2.2.2.2) ors owk) H := hP1
  have hD : va_D (blk a 15) (wMo cI cJ cZ a 0 kn ed ct ti nm xa xb (nI ((f_Mo_isNotFor_0_63 ti nm xa it vs se rs wk n j t).1)) ((f_Mo_isNotFor_0_63 ti nm xa it vs se rs wk n j t).2.1) ((f_Mo_isNotFor_0_63 ti nm xa it vs se rs wk n j t).2.2.1) ((f_Mo_isNotFor_0_63 ti nm xa it vs se rs wk n j t).2.2.2.1) ((f_Mo_isNotFor_0_63 ti nm xa it vs se rs wk n j t).2.2.2.2.1) ((f_Mo_isNotFor_0_63 ti nm xa it vs se rs wk n j t).2.2.2.2.2.1) ((f_Mo_isNotFor_0_63 ti nm xa it vs se rs wk n j t).2.2.2.2.2.2) ors owk) := (blk_D (wMo_in))
  refine lv_if_eq (tgt := 13) hx hb d_Md_asked_8 (by decide) (fun hc => ?_) (fun hc => False.elim (by revert hc; decide))
  refine lv_aload_n hx hb d_Md_asked_13 rfl (lv_at hl 0 rfl) ?_
  refine lv_iload_n hx hb d_Md_asked_14 rfl (lv_at hl 1 rfl) ?_
  refine lv_iload_n hx hb d_Md_asked_15 rfl (lv_at hl 2 rfl) ?_
  refine ep_callP (W.runV (As := [.int (nI j), .int t]) (rest := []) ⟨hx, hb, hml, hown, hg⟩ (m_Mo_find l D cI cJ cZ cO a 0 kn ed ct ti nm xa xb (nI ((f_Mo_isNotFor_0_63 ti nm xa it vs se rs wk n j t).1)) ((f_Mo_isNotFor_0_63 ti nm xa it vs se rs wk n j t).2.1) ((f_Mo_isNotFor_0_63 ti nm xa it vs se rs wk n j t).2.2.1) ((f_Mo_isNotFor_0_63 ti nm xa it vs se rs wk n j t).2.2.2.1) ((f_Mo_isNotFor_0_63 ti nm xa it vs se rs wk n j t).2.2.2.2.1) ((f_Mo_isNotFor_0_63 ti nm xa it vs se rs wk n j t).2.2.2.2.2.1) ((f_Mo_isNotFor_0_63 ti nm xa it vs se rs wk n j t).2.2.2.2.2.2) ors owk n j t (by omega) hct (by omega) _ rfl) (ep_cwV 2 hg tw_785 tw_787 ts_10 tw_12 tk_Md_find rfl rfl (by decide +kernel) ⟨(Nat.le_of_ble_eq_true rfl), (Nat.le_of_ble_eq_true rfl)⟩) ⟨ep_blind, va_recv (q0 := 0) (ci := 9) hK hP rfl rfl, ep_pre hKn (hP)⟩ rfl rfl hl.1 rfl (lv_room (Nat.le_of_ble_eq_true rfl)) d_Md_asked_16 ⟨Nat.zero_le _, Nat.zero_le _⟩) ?_
  refine W.eq (g2 := F0 m 19 ls [.int (f_Mo_find ti n j t)]) rfl ?_
  refine lv_topi (fun z8 e_z8 => ?_)
  obtain rfl : z8 = oI (¬ (f_Mo_find ti n j t) = -1) ((f_Mo_find ti n j t).toNatClampNeg) := by rw [e_z8]; exact (oI_of (fi_at _ _ _ _ (by omega)))
  by_cases hc1 : ¬ (f_Mo_find ti n j t) = -1
  · rw [show oI (¬ (f_Mo_find ti n j t) = -1) ((f_Mo_find ti n j t).toNatClampNeg) = nI ((f_Mo_find ti n j t).toNatClampNeg) from if_pos hc1]
    have hp9 : ((f_Mo_find ti n j t)).toNatClampNeg < n := fi_lt _ _ _ _ (by omega) hc1
    refine lv_istore_n (lv' := [(3, .int (nI ((f_Mo_find ti n j t).toNatClampNeg))), (0, .ref a), (1, .int (nI j)), (2, .int t)]) hx hb d_Md_asked_19 rfl hl (by decide) rfl (fun ls hl => ?_)
    refine lv_aload_n hx hb d_Md_asked_20 rfl (lv_at hl 1 rfl) ?_
    refine lv_iload_n hx hb d_Md_asked_21 rfl (lv_at hl 0 rfl) ?_
    refine lv_if_ge (tgt := 29) hx hb d_Md_asked_22 (by decide) (fun hc => ?_) (fun hc => False.elim (by have hc : ¬ (0 ≤ (f_Mo_find ti n j t).toNatClampNeg) := fun h => hc (by exact (nI_leI (a := 0) (b := (f_Mo_find ti n j t).toNatClampNeg) (by omega) (by omega)).mpr h); omega))
    refine lv_iconst (v := 0) hx hb d_Md_asked_29 (by decide) ?_
    refine va_put (D := D) (ci := 9) (v := .int 0) (ty := .int) (C := R_Md) (T := F_Md) (N := 17) hx hb hg in_Md t_Md t_Md_ok n_Md hown hK hP hD hS 0 rfl rfl 0 (Nat.le_of_ble_eq_true rfl) (hg _ tw_706) (fun _ h9 => h9) rfl (by decide +kernel) rfl rfl (Nat.le_of_ble_eq_true rfl) d_Md_asked_30 (fun H locs hP hD hS => ?_)
    have hP : va_P D cls (wMo cI cJ cZ a 0 kn ed ct ti nm xa xb (nI ((f_Mo_isNotFor_0_63 ti nm xa it vs se rs wk n j t).1)) ((f_Mo_isNotFor_0_63 ti nm xa it vs se rs wk n j t).2.1) ((f_Mo_isNotFor_0_63 ti nm xa it vs se rs wk n j t).2.2.1) ((f_Mo_isNotFor_0_63 ti nm xa it vs se rs wk n j t).2.2.2.1) ((f_Mo_isNotFor_0_63 ti nm xa it vs se rs wk n j t).2.2.2.2.1) ((f_Mo_isNotFor_0_63 ti nm xa it vs se rs wk n j t).2.2.2.2.2.1) ((f_Mo_isNotFor_0_63 ti nm xa it vs se rs wk n j t).2.2.2.2.2.2) ors owk) H := hP
    have hD : va_D (blk a 15) (wMo cI cJ cZ a 0 kn ed ct ti nm xa xb (nI ((f_Mo_isNotFor_0_63 ti nm xa it vs se rs wk n j t).1)) ((f_Mo_isNotFor_0_63 ti nm xa it vs se rs wk n j t).2.1) ((f_Mo_isNotFor_0_63 ti nm xa it vs se rs wk n j t).2.2.1) ((f_Mo_isNotFor_0_63 ti nm xa it vs se rs wk n j t).2.2.2.1) ((f_Mo_isNotFor_0_63 ti nm xa it vs se rs wk n j t).2.2.2.2.1) ((f_Mo_isNotFor_0_63 ti nm xa it vs se rs wk n j t).2.2.2.2.2.1) ((f_Mo_isNotFor_0_63 ti nm xa it vs se rs wk n j t).2.2.2.2.2.2) ors owk) := hD
    refine lv_iload_n hx hb d_Md_asked_33 rfl (lv_at hl 0 rfl) ?_
    rw [if_pos hc1] at hR
    subst hR
    exact W.iret (v := (nI ((f_Mo_find ti n j t).toNatClampNeg))) hx hb hr (fun t9 ht hW => ⟨rfl, hS.F ht, by rw [ht]; exact hP⟩) hS.2.2 d_Md_asked_34
  · rw [show oI (¬ (f_Mo_find ti n j t) = -1) ((f_Mo_find ti n j t).toNatClampNeg) = -1 from if_neg hc1]
    refine lv_istore_n (lv' := [(3, .int (-1)), (0, .ref a), (1, .int (nI j)), (2, .int t)]) hx hb d_Md_asked_19 rfl hl (by decide) rfl (fun ls hl => ?_)
    refine lv_aload_n hx hb d_Md_asked_20 rfl (lv_at hl 1 rfl) ?_
    refine lv_iload_n hx hb d_Md_asked_21 rfl (lv_at hl 0 rfl) ?_
    refine lv_if_ge (tgt := 29) hx hb d_Md_asked_22 (by decide) (fun hc => False.elim (by revert hc; decide)) (fun hc => ?_)
    refine lv_iconst (v := 3) hx hb d_Md_asked_25 (by decide) ?_
    refine lv_goto (tgt := 30) hx hb d_Md_asked_26 (by decide) ?_
    refine va_put (D := D) (ci := 9) (v := .int 3) (ty := .int) (C := R_Md) (T := F_Md) (N := 17) hx hb hg in_Md t_Md t_Md_ok n_Md hown hK hP hD hS 0 rfl rfl 0 (Nat.le_of_ble_eq_true rfl) (hg _ tw_706) (fun _ h9 => h9) rfl (by decide +kernel) rfl rfl (Nat.le_of_ble_eq_true rfl) d_Md_asked_30 (fun H locs hP hD hS => ?_)
    have hP : va_P D cls (wMo cI cJ cZ a 3 kn ed ct ti nm xa xb (nI ((f_Mo_isNotFor_0_63 ti nm xa it vs se rs wk n j t).1)) ((f_Mo_isNotFor_0_63 ti nm xa it vs se rs wk n j t).2.1) ((f_Mo_isNotFor_0_63 ti nm xa it vs se rs wk n j t).2.2.1) ((f_Mo_isNotFor_0_63 ti nm xa it vs se rs wk n j t).2.2.2.1) ((f_Mo_isNotFor_0_63 ti nm xa it vs se rs wk n j t).2.2.2.2.1) ((f_Mo_isNotFor_0_63 ti nm xa it vs se rs wk n j t).2.2.2.2.2.1) ((f_Mo_isNotFor_0_63 ti nm xa it vs se rs wk n j t).2.2.2.2.2.2) ors owk) H := hP
    have hD : va_D (blk a 15) (wMo cI cJ cZ a 3 kn ed ct ti nm xa xb (nI ((f_Mo_isNotFor_0_63 ti nm xa it vs se rs wk n j t).1)) ((f_Mo_isNotFor_0_63 ti nm xa it vs se rs wk n j t).2.1) ((f_Mo_isNotFor_0_63 ti nm xa it vs se rs wk n j t).2.2.1) ((f_Mo_isNotFor_0_63 ti nm xa it vs se rs wk n j t).2.2.2.1) ((f_Mo_isNotFor_0_63 ti nm xa it vs se rs wk n j t).2.2.2.2.1) ((f_Mo_isNotFor_0_63 ti nm xa it vs se rs wk n j t).2.2.2.2.2.1) ((f_Mo_isNotFor_0_63 ti nm xa it vs se rs wk n j t).2.2.2.2.2.2) ors owk) := hD
    refine lv_iload_n hx hb d_Md_asked_33 rfl (lv_at hl 0 rfl) ?_
    rw [if_neg hc1] at hR
    subst hR
    exact W.iret (v := (-1)) hx hb hr (fun t9 ht hW => ⟨rfl, hS.F ht, by rw [ht]; exact hP⟩) hS.2.2 d_Md_asked_34

def f_Mo_asked_1 (ti : Nat → Int32) (nm : Nat → Int32) (xa : Nat → Int32) (it : Nat → Int32) (vs : Nat → Int32) (se : Nat → Int32) (rs : Nat → Int64) (wk : Nat → Int32) (n : Nat) (j : Nat) (t : Int32) : Int32 × Int32 × Nat × (Nat → Int32) × (Nat → Int32) × (Nat → Int32) × Int64 × (Nat → Int64) × (Nat → Int32) := if ¬ (f_Mo_find ti n j t) = -1 then ((nI ((f_Mo_find ti n j t).toNatClampNeg), 0, (f_Mo_isNotFor_1_63 ti nm xa it vs se rs wk n j t).1, (f_Mo_isNotFor_1_63 ti nm xa it vs se rs wk n j t).2.1, (f_Mo_isNotFor_1_63 ti nm xa it vs se rs wk n j t).2.2.1, (f_Mo_isNotFor_1_63 ti nm xa it vs se rs wk n j t).2.2.2.1, (f_Mo_isNotFor_1_63 ti nm xa it vs se rs wk n j t).2.2.2.2.1, (f_Mo_isNotFor_1_63 ti nm xa it vs se rs wk n j t).2.2.2.2.2.1, (f_Mo_isNotFor_1_63 ti nm xa it vs se rs wk n j t).2.2.2.2.2.2)) else ((-1, 3, (f_Mo_isNotFor_1_63 ti nm xa it vs se rs wk n j t).1, (f_Mo_isNotFor_1_63 ti nm xa it vs se rs wk n j t).2.1, (f_Mo_isNotFor_1_63 ti nm xa it vs se rs wk n j t).2.2.1, (f_Mo_isNotFor_1_63 ti nm xa it vs se rs wk n j t).2.2.2.1, (f_Mo_isNotFor_1_63 ti nm xa it vs se rs wk n j t).2.2.2.2.1, (f_Mo_isNotFor_1_63 ti nm xa it vs se rs wk n j t).2.2.2.2.2.1, (f_Mo_isNotFor_1_63 ti nm xa it vs se rs wk n j t).2.2.2.2.2.2))
set_option maxHeartbeats 4000000 in
set_option maxRecDepth 100000 in
theorem m_Mo_asked_1 (l : Launch) (D : va_G) (cI cJ cZ cO : ClassId) (a : Nat) (code : Int32) (kn : Nat → Int32) (ed : Nat → Int32) (ct : Nat → Int32) (ti : Nat → Int32) (nm : Nat → Int32) (xa : Nat → Int32) (xb : Nat → Int32) (ma : Int32) (it : Nat → Int32) (vs : Nat → Int32) (se : Nat → Int32) (sm : Int64) (rs : Nat → Int64) (wk : Nat → Int32) (ors : Nat → Int64) (owk : Nat → Int32) (n : Nat) (j : Nat) (t : Int32) (hj : j < 4) (hlk : (f_Mo_lacks kn j t).1 = 0) (hk : kn j = 2) (hct : ct j = nI n) (hn : n ≤ 32) (R : Int32 × Int32 × Nat × (Nat → Int32) × (Nat → Int32) × (Nat → Int32) × Int64 × (Nat → Int64) × (Nat → Int32)) (hR : f_Mo_asked_1 ti nm xa it vs se rs wk n j t = R) : Met l y_Md_asked (k_Md_asked :: gt) rm_Md_asked (Pc0 D cI cJ cZ cO [.ref a, .int (nI j), .int t] (fun H => va_P D cls (wMo cI cJ cZ a code kn ed ct ti nm xa xb ma it vs se sm rs wk ors owk) H)) (Qd (blk a 15) (some (.int R.1)) (fun H => va_P D cls (wMo cI cJ cZ a R.2.1 kn ed ct ti nm xa xb (nI R.2.2.1) R.2.2.2.1 R.2.2.2.2.1 R.2.2.2.2.2.1 R.2.2.2.2.2.2.1 R.2.2.2.2.2.2.2.1 R.2.2.2.2.2.2.2.2 ors owk) H)) 0 0 (blk a 15) := by
  refine Met.ofW (cc := c_Md_asked) (maxL := 4) (ret := (Option.some FieldType.int)) (by decide) rfl ?_
  intro p e s m args below meth c s₁ B hml hv
  obtain ⟨rfl, hKn, hP⟩ := hv
  have hx := B.exec
  have hb := B.bytes
  have hr := B.returns
  have hts := atoms_spec (ws := k_Md_asked :: gt) B.pre
  have hg : ∀ w ∈ gt, w.before _ s = true := fun w h => hts w (List.mem_cons_of_mem _ h)
  have hown : s.vm.findClass R_Md = some m.cls := findClass_of_methodNamed B.named
  have hlocks := B.notSynchronized
  have hK := hKn.1
  have hl := lv_entry ([.ref a, .int (nI j), .int t]) (n := 4) (Nat.le_of_ble_eq_true rfl)
  rw [lg_entry_eq]
  generalize (lg_sl ([.ref a, .int (nI j), .int t]) ++ List.replicate (4 - (lg_sl ([.ref a, .int (nI j), .int t])).length) Slot.unset).toArray = ls at hl ⊢
  have hl : lv_has ls 4 [(0, .ref a), (1, .int (nI j)), (2, .int t)] := hl
  have hS : va_S (blk a 15) s.heap s.heap [] := va_S.rf
  have hD : va_D (blk a 15) (wMo cI cJ cZ a code kn ed ct ti nm xa xb ma it vs se sm rs wk ors owk) := (blk_D (wMo_in))
  have hR : (if ¬ (f_Mo_find ti n j t) = -1 then ((nI ((f_Mo_find ti n j t).toNatClampNeg), 0, (f_Mo_isNotFor_1_63 ti nm xa it vs se rs wk n j t).1, (f_Mo_isNotFor_1_63 ti nm xa it vs se rs wk n j t).2.1, (f_Mo_isNotFor_1_63 ti nm xa it vs se rs wk n j t).2.2.1, (f_Mo_isNotFor_1_63 ti nm xa it vs se rs wk n j t).2.2.2.1, (f_Mo_isNotFor_1_63 ti nm xa it vs se rs wk n j t).2.2.2.2.1, (f_Mo_isNotFor_1_63 ti nm xa it vs se rs wk n j t).2.2.2.2.2.1, (f_Mo_isNotFor_1_63 ti nm xa it vs se rs wk n j t).2.2.2.2.2.2)) else ((-1, 3, (f_Mo_isNotFor_1_63 ti nm xa it vs se rs wk n j t).1, (f_Mo_isNotFor_1_63 ti nm xa it vs se rs wk n j t).2.1, (f_Mo_isNotFor_1_63 ti nm xa it vs se rs wk n j t).2.2.1, (f_Mo_isNotFor_1_63 ti nm xa it vs se rs wk n j t).2.2.2.1, (f_Mo_isNotFor_1_63 ti nm xa it vs se rs wk n j t).2.2.2.2.1, (f_Mo_isNotFor_1_63 ti nm xa it vs se rs wk n j t).2.2.2.2.2.1, (f_Mo_isNotFor_1_63 ti nm xa it vs se rs wk n j t).2.2.2.2.2.2))) = R := hR
  refine lv_aload_n hx hb d_Md_asked_0 rfl (lv_at hl 0 rfl) ?_
  refine lv_iload_n hx hb d_Md_asked_1 rfl (lv_at hl 1 rfl) ?_
  refine lv_iload_n hx hb d_Md_asked_2 rfl (lv_at hl 2 rfl) ?_
  refine lv_bipush (v := 63) hx hb d_Md_asked_3 (by decide) ?_
  refine ep_callH (W.runV (As := [.int (nI j), .int t, .int 63]) (rest := []) ⟨hx, hb, hml, hown, hg⟩ (m_Mo_isNotFor_1_63 l D cI cJ cZ cO a code kn ed ct ti nm xa xb ma it vs se sm rs wk ors owk n j t (by omega) hlk hk hct (by omega) _ rfl) (ep_cwV 3 hg tw_828 tw_830 ts_16 tw_12 tk_Md_isNotFor rfl rfl (by decide +kernel) ⟨(Nat.le_of_ble_eq_true rfl), (Nat.le_of_ble_eq_true rfl)⟩) ⟨ep_blind, va_recv (q0 := 0) (ci := 9) hK hP rfl rfl, ep_pre hKn (hP)⟩ rfl rfl hl.1 rfl (lv_room (Nat.le_of_ble_eq_true rfl)) d_Md_asked_5 ⟨Nat.zero_le _, Nat.zero_le _⟩) hS (fun q h => h) (fun H locs hsz9 hk1 hP1 hS => ?_)
  refine W.eq (g2 := F0 m 8 ls [.int 0]) rfl ?_
  have hP : va_P D cls (wMo cI cJ cZ a 0 kn ed ct ti nm xa xb (nI ((f_Mo_isNotFor_1_63 ti nm xa it vs se rs wk n j t).1)) ((f_Mo_isNotFor_1_63 ti nm xa it vs se rs wk n j t).2.1) ((f_Mo_isNotFor_1_63 ti nm xa it vs se rs wk n j t).2.2.1) ((f_Mo_isNotFor_1_63 ti nm xa it vs se rs wk n j t).2.2.2.1) ((f_Mo_isNotFor_1_63 ti nm xa it vs se rs wk n j t).2.2.2.2.1) ((f_Mo_isNotFor_1_63 ti nm xa it vs se rs wk n j t).2.2.2.2.2.1) ((f_Mo_isNotFor_1_63 ti nm xa it vs se rs wk n j t).2.2.2.2.2.2) ors owk) H := hP1
  have hD : va_D (blk a 15) (wMo cI cJ cZ a 0 kn ed ct ti nm xa xb (nI ((f_Mo_isNotFor_1_63 ti nm xa it vs se rs wk n j t).1)) ((f_Mo_isNotFor_1_63 ti nm xa it vs se rs wk n j t).2.1) ((f_Mo_isNotFor_1_63 ti nm xa it vs se rs wk n j t).2.2.1) ((f_Mo_isNotFor_1_63 ti nm xa it vs se rs wk n j t).2.2.2.1) ((f_Mo_isNotFor_1_63 ti nm xa it vs se rs wk n j t).2.2.2.2.1) ((f_Mo_isNotFor_1_63 ti nm xa it vs se rs wk n j t).2.2.2.2.2.1) ((f_Mo_isNotFor_1_63 ti nm xa it vs se rs wk n j t).2.2.2.2.2.2) ors owk) := (blk_D (wMo_in))
  refine lv_if_eq (tgt := 13) hx hb d_Md_asked_8 (by decide) (fun hc => ?_) (fun hc => False.elim (by revert hc; decide))
  refine lv_aload_n hx hb d_Md_asked_13 rfl (lv_at hl 0 rfl) ?_
  refine lv_iload_n hx hb d_Md_asked_14 rfl (lv_at hl 1 rfl) ?_
  refine lv_iload_n hx hb d_Md_asked_15 rfl (lv_at hl 2 rfl) ?_
  refine ep_callP (W.runV (As := [.int (nI j), .int t]) (rest := []) ⟨hx, hb, hml, hown, hg⟩ (m_Mo_find l D cI cJ cZ cO a 0 kn ed ct ti nm xa xb (nI ((f_Mo_isNotFor_1_63 ti nm xa it vs se rs wk n j t).1)) ((f_Mo_isNotFor_1_63 ti nm xa it vs se rs wk n j t).2.1) ((f_Mo_isNotFor_1_63 ti nm xa it vs se rs wk n j t).2.2.1) ((f_Mo_isNotFor_1_63 ti nm xa it vs se rs wk n j t).2.2.2.1) ((f_Mo_isNotFor_1_63 ti nm xa it vs se rs wk n j t).2.2.2.2.1) ((f_Mo_isNotFor_1_63 ti nm xa it vs se rs wk n j t).2.2.2.2.2.1) ((f_Mo_isNotFor_1_63 ti nm xa it vs se rs wk n j t).2.2.2.2.2.2) ors owk n j t (by omega) hct (by omega) _ rfl) (ep_cwV 2 hg tw_785 tw_787 ts_10 tw_12 tk_Md_find rfl rfl (by decide +kernel) ⟨(Nat.le_of_ble_eq_true rfl), (Nat.le_of_ble_eq_true rfl)⟩) ⟨ep_blind, va_recv (q0 := 0) (ci := 9) hK hP rfl rfl, ep_pre hKn (hP)⟩ rfl rfl hl.1 rfl (lv_room (Nat.le_of_ble_eq_true rfl)) d_Md_asked_16 ⟨Nat.zero_le _, Nat.zero_le _⟩) ?_
  refine W.eq (g2 := F0 m 19 ls [.int (f_Mo_find ti n j t)]) rfl ?_
  refine lv_topi (fun z8 e_z8 => ?_)
  obtain rfl : z8 = oI (¬ (f_Mo_find ti n j t) = -1) ((f_Mo_find ti n j t).toNatClampNeg) := by rw [e_z8]; exact (oI_of (fi_at _ _ _ _ (by omega)))
  by_cases hc1 : ¬ (f_Mo_find ti n j t) = -1
  · rw [show oI (¬ (f_Mo_find ti n j t) = -1) ((f_Mo_find ti n j t).toNatClampNeg) = nI ((f_Mo_find ti n j t).toNatClampNeg) from if_pos hc1]
    have hp9 : ((f_Mo_find ti n j t)).toNatClampNeg < n := fi_lt _ _ _ _ (by omega) hc1
    refine lv_istore_n (lv' := [(3, .int (nI ((f_Mo_find ti n j t).toNatClampNeg))), (0, .ref a), (1, .int (nI j)), (2, .int t)]) hx hb d_Md_asked_19 rfl hl (by decide) rfl (fun ls hl => ?_)
    refine lv_aload_n hx hb d_Md_asked_20 rfl (lv_at hl 1 rfl) ?_
    refine lv_iload_n hx hb d_Md_asked_21 rfl (lv_at hl 0 rfl) ?_
    refine lv_if_ge (tgt := 29) hx hb d_Md_asked_22 (by decide) (fun hc => ?_) (fun hc => False.elim (by have hc : ¬ (0 ≤ (f_Mo_find ti n j t).toNatClampNeg) := fun h => hc (by exact (nI_leI (a := 0) (b := (f_Mo_find ti n j t).toNatClampNeg) (by omega) (by omega)).mpr h); omega))
    refine lv_iconst (v := 0) hx hb d_Md_asked_29 (by decide) ?_
    refine va_put (D := D) (ci := 9) (v := .int 0) (ty := .int) (C := R_Md) (T := F_Md) (N := 17) hx hb hg in_Md t_Md t_Md_ok n_Md hown hK hP hD hS 0 rfl rfl 0 (Nat.le_of_ble_eq_true rfl) (hg _ tw_706) (fun _ h9 => h9) rfl (by decide +kernel) rfl rfl (Nat.le_of_ble_eq_true rfl) d_Md_asked_30 (fun H locs hP hD hS => ?_)
    have hP : va_P D cls (wMo cI cJ cZ a 0 kn ed ct ti nm xa xb (nI ((f_Mo_isNotFor_1_63 ti nm xa it vs se rs wk n j t).1)) ((f_Mo_isNotFor_1_63 ti nm xa it vs se rs wk n j t).2.1) ((f_Mo_isNotFor_1_63 ti nm xa it vs se rs wk n j t).2.2.1) ((f_Mo_isNotFor_1_63 ti nm xa it vs se rs wk n j t).2.2.2.1) ((f_Mo_isNotFor_1_63 ti nm xa it vs se rs wk n j t).2.2.2.2.1) ((f_Mo_isNotFor_1_63 ti nm xa it vs se rs wk n j t).2.2.2.2.2.1) ((f_Mo_isNotFor_1_63 ti nm xa it vs se rs wk n j t).2.2.2.2.2.2) ors owk) H := hP
    have hD : va_D (blk a 15) (wMo cI cJ cZ a 0 kn ed ct ti nm xa xb (nI ((f_Mo_isNotFor_1_63 ti nm xa it vs se rs wk n j t).1)) ((f_Mo_isNotFor_1_63 ti nm xa it vs se rs wk n j t).2.1) ((f_Mo_isNotFor_1_63 ti nm xa it vs se rs wk n j t).2.2.1) ((f_Mo_isNotFor_1_63 ti nm xa it vs se rs wk n j t).2.2.2.1) ((f_Mo_isNotFor_1_63 ti nm xa it vs se rs wk n j t).2.2.2.2.1) ((f_Mo_isNotFor_1_63 ti nm xa it vs se rs wk n j t).2.2.2.2.2.1) ((f_Mo_isNotFor_1_63 ti nm xa it vs se rs wk n j t).2.2.2.2.2.2) ors owk) := hD
    refine lv_iload_n hx hb d_Md_asked_33 rfl (lv_at hl 0 rfl) ?_
    rw [if_pos hc1] at hR
    subst hR
    exact W.iret (v := (nI ((f_Mo_find ti n j t).toNatClampNeg))) hx hb hr (fun t9 ht hW => ⟨rfl, hS.F ht, by rw [ht]; exact hP⟩) hS.2.2 d_Md_asked_34
  · rw [show oI (¬ (f_Mo_find ti n j t) = -1) ((f_Mo_find ti n j t).toNatClampNeg) = -1 from if_neg hc1]
    refine lv_istore_n (lv' := [(3, .int (-1)), (0, .ref a), (1, .int (nI j)), (2, .int t)]) hx hb d_Md_asked_19 rfl hl (by decide) rfl (fun ls hl => ?_)
    refine lv_aload_n hx hb d_Md_asked_20 rfl (lv_at hl 1 rfl) ?_
    refine lv_iload_n hx hb d_Md_asked_21 rfl (lv_at hl 0 rfl) ?_
    refine lv_if_ge (tgt := 29) hx hb d_Md_asked_22 (by decide) (fun hc => False.elim (by revert hc; decide)) (fun hc => ?_)
    refine lv_iconst (v := 3) hx hb d_Md_asked_25 (by decide) ?_
    refine lv_goto (tgt := 30) hx hb d_Md_asked_26 (by decide) ?_
    refine va_put (D := D) (ci := 9) (v := .int 3) (ty := .int) (C := R_Md) (T := F_Md) (N := 17) hx hb hg in_Md t_Md t_Md_ok n_Md hown hK hP hD hS 0 rfl rfl 0 (Nat.le_of_ble_eq_true rfl) (hg _ tw_706) (fun _ h9 => h9) rfl (by decide +kernel) rfl rfl (Nat.le_of_ble_eq_true rfl) d_Md_asked_30 (fun H locs hP hD hS => ?_)
    have hP : va_P D cls (wMo cI cJ cZ a 3 kn ed ct ti nm xa xb (nI ((f_Mo_isNotFor_1_63 ti nm xa it vs se rs wk n j t).1)) ((f_Mo_isNotFor_1_63 ti nm xa it vs se rs wk n j t).2.1) ((f_Mo_isNotFor_1_63 ti nm xa it vs se rs wk n j t).2.2.1) ((f_Mo_isNotFor_1_63 ti nm xa it vs se rs wk n j t).2.2.2.1) ((f_Mo_isNotFor_1_63 ti nm xa it vs se rs wk n j t).2.2.2.2.1) ((f_Mo_isNotFor_1_63 ti nm xa it vs se rs wk n j t).2.2.2.2.2.1) ((f_Mo_isNotFor_1_63 ti nm xa it vs se rs wk n j t).2.2.2.2.2.2) ors owk) H := hP
    have hD : va_D (blk a 15) (wMo cI cJ cZ a 3 kn ed ct ti nm xa xb (nI ((f_Mo_isNotFor_1_63 ti nm xa it vs se rs wk n j t).1)) ((f_Mo_isNotFor_1_63 ti nm xa it vs se rs wk n j t).2.1) ((f_Mo_isNotFor_1_63 ti nm xa it vs se rs wk n j t).2.2.1) ((f_Mo_isNotFor_1_63 ti nm xa it vs se rs wk n j t).2.2.2.1) ((f_Mo_isNotFor_1_63 ti nm xa it vs se rs wk n j t).2.2.2.2.1) ((f_Mo_isNotFor_1_63 ti nm xa it vs se rs wk n j t).2.2.2.2.2.1) ((f_Mo_isNotFor_1_63 ti nm xa it vs se rs wk n j t).2.2.2.2.2.2) ors owk) := hD
    refine lv_iload_n hx hb d_Md_asked_33 rfl (lv_at hl 0 rfl) ?_
    rw [if_neg hc1] at hR
    subst hR
    exact W.iret (v := (-1)) hx hb hr (fun t9 ht hW => ⟨rfl, hS.F ht, by rw [ht]; exact hP⟩) hS.2.2 d_Md_asked_34

def f_Mo_asked_2 (ti : Nat → Int32) (nm : Nat → Int32) (xa : Nat → Int32) (xb : Nat → Int32) (it : Nat → Int32) (vs : Nat → Int32) (se : Nat → Int32) (rs : Nat → Int64) (wk : Nat → Int32) (n : Nat) (j : Nat) (t : Int32) : Int32 × Int32 × Nat × (Nat → Int32) × (Nat → Int32) × (Nat → Int32) × Int64 × (Nat → Int64) × (Nat → Int32) := if ¬ (f_Mo_find ti n j t) = -1 then ((nI ((f_Mo_find ti n j t).toNatClampNeg), 0, (f_Mo_isNotFor_2_63 ti nm xa xb it vs se rs wk n j t).1, (f_Mo_isNotFor_2_63 ti nm xa xb it vs se rs wk n j t).2.1, (f_Mo_isNotFor_2_63 ti nm xa xb it vs se rs wk n j t).2.2.1, (f_Mo_isNotFor_2_63 ti nm xa xb it vs se rs wk n j t).2.2.2.1, (f_Mo_isNotFor_2_63 ti nm xa xb it vs se rs wk n j t).2.2.2.2.1, (f_Mo_isNotFor_2_63 ti nm xa xb it vs se rs wk n j t).2.2.2.2.2.1, (f_Mo_isNotFor_2_63 ti nm xa xb it vs se rs wk n j t).2.2.2.2.2.2)) else ((-1, 3, (f_Mo_isNotFor_2_63 ti nm xa xb it vs se rs wk n j t).1, (f_Mo_isNotFor_2_63 ti nm xa xb it vs se rs wk n j t).2.1, (f_Mo_isNotFor_2_63 ti nm xa xb it vs se rs wk n j t).2.2.1, (f_Mo_isNotFor_2_63 ti nm xa xb it vs se rs wk n j t).2.2.2.1, (f_Mo_isNotFor_2_63 ti nm xa xb it vs se rs wk n j t).2.2.2.2.1, (f_Mo_isNotFor_2_63 ti nm xa xb it vs se rs wk n j t).2.2.2.2.2.1, (f_Mo_isNotFor_2_63 ti nm xa xb it vs se rs wk n j t).2.2.2.2.2.2))
set_option maxHeartbeats 4000000 in
set_option maxRecDepth 100000 in
theorem m_Mo_asked_2 (l : Launch) (D : va_G) (cI cJ cZ cO : ClassId) (a : Nat) (code : Int32) (kn : Nat → Int32) (ed : Nat → Int32) (ct : Nat → Int32) (ti : Nat → Int32) (nm : Nat → Int32) (xa : Nat → Int32) (xb : Nat → Int32) (ma : Int32) (it : Nat → Int32) (vs : Nat → Int32) (se : Nat → Int32) (sm : Int64) (rs : Nat → Int64) (wk : Nat → Int32) (ors : Nat → Int64) (owk : Nat → Int32) (n : Nat) (j : Nat) (t : Int32) (hj : j < 4) (hlk : (f_Mo_lacks kn j t).1 = 0) (hk : kn j = 3) (hct : ct j = nI n) (hn : n ≤ 32) (R : Int32 × Int32 × Nat × (Nat → Int32) × (Nat → Int32) × (Nat → Int32) × Int64 × (Nat → Int64) × (Nat → Int32)) (hR : f_Mo_asked_2 ti nm xa xb it vs se rs wk n j t = R) : Met l y_Md_asked (k_Md_asked :: gt) rm_Md_asked (Pc0 D cI cJ cZ cO [.ref a, .int (nI j), .int t] (fun H => va_P D cls (wMo cI cJ cZ a code kn ed ct ti nm xa xb ma it vs se sm rs wk ors owk) H)) (Qd (blk a 15) (some (.int R.1)) (fun H => va_P D cls (wMo cI cJ cZ a R.2.1 kn ed ct ti nm xa xb (nI R.2.2.1) R.2.2.2.1 R.2.2.2.2.1 R.2.2.2.2.2.1 R.2.2.2.2.2.2.1 R.2.2.2.2.2.2.2.1 R.2.2.2.2.2.2.2.2 ors owk) H)) 0 0 (blk a 15) := by
  refine Met.ofW (cc := c_Md_asked) (maxL := 4) (ret := (Option.some FieldType.int)) (by decide) rfl ?_
  intro p e s m args below meth c s₁ B hml hv
  obtain ⟨rfl, hKn, hP⟩ := hv
  have hx := B.exec
  have hb := B.bytes
  have hr := B.returns
  have hts := atoms_spec (ws := k_Md_asked :: gt) B.pre
  have hg : ∀ w ∈ gt, w.before _ s = true := fun w h => hts w (List.mem_cons_of_mem _ h)
  have hown : s.vm.findClass R_Md = some m.cls := findClass_of_methodNamed B.named
  have hlocks := B.notSynchronized
  have hK := hKn.1
  have hl := lv_entry ([.ref a, .int (nI j), .int t]) (n := 4) (Nat.le_of_ble_eq_true rfl)
  rw [lg_entry_eq]
  generalize (lg_sl ([.ref a, .int (nI j), .int t]) ++ List.replicate (4 - (lg_sl ([.ref a, .int (nI j), .int t])).length) Slot.unset).toArray = ls at hl ⊢
  have hl : lv_has ls 4 [(0, .ref a), (1, .int (nI j)), (2, .int t)] := hl
  have hS : va_S (blk a 15) s.heap s.heap [] := va_S.rf
  have hD : va_D (blk a 15) (wMo cI cJ cZ a code kn ed ct ti nm xa xb ma it vs se sm rs wk ors owk) := (blk_D (wMo_in))
  have hR : (if ¬ (f_Mo_find ti n j t) = -1 then ((nI ((f_Mo_find ti n j t).toNatClampNeg), 0, (f_Mo_isNotFor_2_63 ti nm xa xb it vs se rs wk n j t).1, (f_Mo_isNotFor_2_63 ti nm xa xb it vs se rs wk n j t).2.1, (f_Mo_isNotFor_2_63 ti nm xa xb it vs se rs wk n j t).2.2.1, (f_Mo_isNotFor_2_63 ti nm xa xb it vs se rs wk n j t).2.2.2.1, (f_Mo_isNotFor_2_63 ti nm xa xb it vs se rs wk n j t).2.2.2.2.1, (f_Mo_isNotFor_2_63 ti nm xa xb it vs se rs wk n j t).2.2.2.2.2.1, (f_Mo_isNotFor_2_63 ti nm xa xb it vs se rs wk n j t).2.2.2.2.2.2)) else ((-1, 3, (f_Mo_isNotFor_2_63 ti nm xa xb it vs se rs wk n j t).1, (f_Mo_isNotFor_2_63 ti nm xa xb it vs se rs wk n j t).2.1, (f_Mo_isNotFor_2_63 ti nm xa xb it vs se rs wk n j t).2.2.1, (f_Mo_isNotFor_2_63 ti nm xa xb it vs se rs wk n j t).2.2.2.1, (f_Mo_isNotFor_2_63 ti nm xa xb it vs se rs wk n j t).2.2.2.2.1, (f_Mo_isNotFor_2_63 ti nm xa xb it vs se rs wk n j t).2.2.2.2.2.1, (f_Mo_isNotFor_2_63 ti nm xa xb it vs se rs wk n j t).2.2.2.2.2.2))) = R := hR
  refine lv_aload_n hx hb d_Md_asked_0 rfl (lv_at hl 0 rfl) ?_
  refine lv_iload_n hx hb d_Md_asked_1 rfl (lv_at hl 1 rfl) ?_
  refine lv_iload_n hx hb d_Md_asked_2 rfl (lv_at hl 2 rfl) ?_
  refine lv_bipush (v := 63) hx hb d_Md_asked_3 (by decide) ?_
  refine ep_callH (W.runV (As := [.int (nI j), .int t, .int 63]) (rest := []) ⟨hx, hb, hml, hown, hg⟩ (m_Mo_isNotFor_2_63 l D cI cJ cZ cO a code kn ed ct ti nm xa xb ma it vs se sm rs wk ors owk n j t (by omega) hlk hk hct (by omega) _ rfl) (ep_cwV 3 hg tw_828 tw_830 ts_16 tw_12 tk_Md_isNotFor rfl rfl (by decide +kernel) ⟨(Nat.le_of_ble_eq_true rfl), (Nat.le_of_ble_eq_true rfl)⟩) ⟨ep_blind, va_recv (q0 := 0) (ci := 9) hK hP rfl rfl, ep_pre hKn (hP)⟩ rfl rfl hl.1 rfl (lv_room (Nat.le_of_ble_eq_true rfl)) d_Md_asked_5 ⟨Nat.zero_le _, Nat.zero_le _⟩) hS (fun q h => h) (fun H locs hsz9 hk1 hP1 hS => ?_)
  refine W.eq (g2 := F0 m 8 ls [.int 0]) rfl ?_
  have hP : va_P D cls (wMo cI cJ cZ a 0 kn ed ct ti nm xa xb (nI ((f_Mo_isNotFor_2_63 ti nm xa xb it vs se rs wk n j t).1)) ((f_Mo_isNotFor_2_63 ti nm xa xb it vs se rs wk n j t).2.1) ((f_Mo_isNotFor_2_63 ti nm xa xb it vs se rs wk n j t).2.2.1) ((f_Mo_isNotFor_2_63 ti nm xa xb it vs se rs wk n j t).2.2.2.1) ((f_Mo_isNotFor_2_63 ti nm xa xb it vs se rs wk n j t).2.2.2.2.1) ((f_Mo_isNotFor_2_63 ti nm xa xb it vs se rs wk n j t).2.2.2.2.2.1) ((f_Mo_isNotFor_2_63 ti nm xa xb it vs se rs wk n j t).2.2.2.2.2.2) ors owk) H := hP1
  have hD : va_D (blk a 15) (wMo cI cJ cZ a 0 kn ed ct ti nm xa xb (nI ((f_Mo_isNotFor_2_63 ti nm xa xb it vs se rs wk n j t).1)) ((f_Mo_isNotFor_2_63 ti nm xa xb it vs se rs wk n j t).2.1) ((f_Mo_isNotFor_2_63 ti nm xa xb it vs se rs wk n j t).2.2.1) ((f_Mo_isNotFor_2_63 ti nm xa xb it vs se rs wk n j t).2.2.2.1) ((f_Mo_isNotFor_2_63 ti nm xa xb it vs se rs wk n j t).2.2.2.2.1) ((f_Mo_isNotFor_2_63 ti nm xa xb it vs se rs wk n j t).2.2.2.2.2.1) ((f_Mo_isNotFor_2_63 ti nm xa xb it vs se rs wk n j t).2.2.2.2.2.2) ors owk) := (blk_D (wMo_in))
  refine lv_if_eq (tgt := 13) hx hb d_Md_asked_8 (by decide) (fun hc => ?_) (fun hc => False.elim (by revert hc; decide))
  refine lv_aload_n hx hb d_Md_asked_13 rfl (lv_at hl 0 rfl) ?_
  refine lv_iload_n hx hb d_Md_asked_14 rfl (lv_at hl 1 rfl) ?_
  refine lv_iload_n hx hb d_Md_asked_15 rfl (lv_at hl 2 rfl) ?_
  refine ep_callP (W.runV (As := [.int (nI j), .int t]) (rest := []) ⟨hx, hb, hml, hown, hg⟩ (m_Mo_find l D cI cJ cZ cO a 0 kn ed ct ti nm xa xb (nI ((f_Mo_isNotFor_2_63 ti nm xa xb it vs se rs wk n j t).1)) ((f_Mo_isNotFor_2_63 ti nm xa xb it vs se rs wk n j t).2.1) ((f_Mo_isNotFor_2_63 ti nm xa xb it vs se rs wk n j t).2.2.1) ((f_Mo_isNotFor_2_63 ti nm xa xb it vs se rs wk n j t).2.2.2.1) ((f_Mo_isNotFor_2_63 ti nm xa xb it vs se rs wk n j t).2.2.2.2.1) ((f_Mo_isNotFor_2_63 ti nm xa xb it vs se rs wk n j t).2.2.2.2.2.1) ((f_Mo_isNotFor_2_63 ti nm xa xb it vs se rs wk n j t).2.2.2.2.2.2) ors owk n j t (by omega) hct (by omega) _ rfl) (ep_cwV 2 hg tw_785 tw_787 ts_10 tw_12 tk_Md_find rfl rfl (by decide +kernel) ⟨(Nat.le_of_ble_eq_true rfl), (Nat.le_of_ble_eq_true rfl)⟩) ⟨ep_blind, va_recv (q0 := 0) (ci := 9) hK hP rfl rfl, ep_pre hKn (hP)⟩ rfl rfl hl.1 rfl (lv_room (Nat.le_of_ble_eq_true rfl)) d_Md_asked_16 ⟨Nat.zero_le _, Nat.zero_le _⟩) ?_
  refine W.eq (g2 := F0 m 19 ls [.int (f_Mo_find ti n j t)]) rfl ?_
  refine lv_topi (fun z8 e_z8 => ?_)
  obtain rfl : z8 = oI (¬ (f_Mo_find ti n j t) = -1) ((f_Mo_find ti n j t).toNatClampNeg) := by rw [e_z8]; exact (oI_of (fi_at _ _ _ _ (by omega)))
  by_cases hc1 : ¬ (f_Mo_find ti n j t) = -1
  · rw [show oI (¬ (f_Mo_find ti n j t) = -1) ((f_Mo_find ti n j t).toNatClampNeg) = nI ((f_Mo_find ti n j t).toNatClampNeg) from if_pos hc1]
    have hp9 : ((f_Mo_find ti n j t)).toNatClampNeg < n := fi_lt _ _ _ _ (by omega) hc1
    refine lv_istore_n (lv' := [(3, .int (nI ((f_Mo_find ti n j t).toNatClampNeg))), (0, .ref a), (1, .int (nI j)), (2, .int t)]) hx hb d_Md_asked_19 rfl hl (by decide) rfl (fun ls hl => ?_)
    refine lv_aload_n hx hb d_Md_asked_20 rfl (lv_at hl 1 rfl) ?_
    refine lv_iload_n hx hb d_Md_asked_21 rfl (lv_at hl 0 rfl) ?_
    refine lv_if_ge (tgt := 29) hx hb d_Md_asked_22 (by decide) (fun hc => ?_) (fun hc => False.elim (by have hc : ¬ (0 ≤ (f_Mo_find ti n j t).toNatClampNeg) := fun h => hc (by exact (nI_leI (a := 0) (b := (f_Mo_find ti n j t).toNatClampNeg) (by omega) (by omega)).mpr h); omega))
    refine lv_iconst (v := 0) hx hb d_Md_asked_29 (by decide) ?_
    refine va_put (D := D) (ci := 9) (v := .int 0) (ty := .int) (C := R_Md) (T := F_Md) (N := 17) hx hb hg in_Md t_Md t_Md_ok n_Md hown hK hP hD hS 0 rfl rfl 0 (Nat.le_of_ble_eq_true rfl) (hg _ tw_706) (fun _ h9 => h9) rfl (by decide +kernel) rfl rfl (Nat.le_of_ble_eq_true rfl) d_Md_asked_30 (fun H locs hP hD hS => ?_)
    have hP : va_P D cls (wMo cI cJ cZ a 0 kn ed ct ti nm xa xb (nI ((f_Mo_isNotFor_2_63 ti nm xa xb it vs se rs wk n j t).1)) ((f_Mo_isNotFor_2_63 ti nm xa xb it vs se rs wk n j t).2.1) ((f_Mo_isNotFor_2_63 ti nm xa xb it vs se rs wk n j t).2.2.1) ((f_Mo_isNotFor_2_63 ti nm xa xb it vs se rs wk n j t).2.2.2.1) ((f_Mo_isNotFor_2_63 ti nm xa xb it vs se rs wk n j t).2.2.2.2.1) ((f_Mo_isNotFor_2_63 ti nm xa xb it vs se rs wk n j t).2.2.2.2.2.1) ((f_Mo_isNotFor_2_63 ti nm xa xb it vs se rs wk n j t).2.2.2.2.2.2) ors owk) H := hP
    have hD : va_D (blk a 15) (wMo cI cJ cZ a 0 kn ed ct ti nm xa xb (nI ((f_Mo_isNotFor_2_63 ti nm xa xb it vs se rs wk n j t).1)) ((f_Mo_isNotFor_2_63 ti nm xa xb it vs se rs wk n j t).2.1) ((f_Mo_isNotFor_2_63 ti nm xa xb it vs se rs wk n j t).2.2.1) ((f_Mo_isNotFor_2_63 ti nm xa xb it vs se rs wk n j t).2.2.2.1) ((f_Mo_isNotFor_2_63 ti nm xa xb it vs se rs wk n j t).2.2.2.2.1) ((f_Mo_isNotFor_2_63 ti nm xa xb it vs se rs wk n j t).2.2.2.2.2.1) ((f_Mo_isNotFor_2_63 ti nm xa xb it vs se rs wk n j t).2.2.2.2.2.2) ors owk) := hD
    refine lv_iload_n hx hb d_Md_asked_33 rfl (lv_at hl 0 rfl) ?_
    rw [if_pos hc1] at hR
    subst hR
    exact W.iret (v := (nI ((f_Mo_find ti n j t).toNatClampNeg))) hx hb hr (fun t9 ht hW => ⟨rfl, hS.F ht, by rw [ht]; exact hP⟩) hS.2.2 d_Md_asked_34
  · rw [show oI (¬ (f_Mo_find ti n j t) = -1) ((f_Mo_find ti n j t).toNatClampNeg) = -1 from if_neg hc1]
    refine lv_istore_n (lv' := [(3, .int (-1)), (0, .ref a), (1, .int (nI j)), (2, .int t)]) hx hb d_Md_asked_19 rfl hl (by decide) rfl (fun ls hl => ?_)
    refine lv_aload_n hx hb d_Md_asked_20 rfl (lv_at hl 1 rfl) ?_
    refine lv_iload_n hx hb d_Md_asked_21 rfl (lv_at hl 0 rfl) ?_
    refine lv_if_ge (tgt := 29) hx hb d_Md_asked_22 (by decide) (fun hc => False.elim (by revert hc; decide)) (fun hc => ?_)
    refine lv_iconst (v := 3) hx hb d_Md_asked_25 (by decide) ?_
    refine lv_goto (tgt := 30) hx hb d_Md_asked_26 (by decide) ?_
    refine va_put (D := D) (ci := 9) (v := .int 3) (ty := .int) (C := R_Md) (T := F_Md) (N := 17) hx hb hg in_Md t_Md t_Md_ok n_Md hown hK hP hD hS 0 rfl rfl 0 (Nat.le_of_ble_eq_true rfl) (hg _ tw_706) (fun _ h9 => h9) rfl (by decide +kernel) rfl rfl (Nat.le_of_ble_eq_true rfl) d_Md_asked_30 (fun H locs hP hD hS => ?_)
    have hP : va_P D cls (wMo cI cJ cZ a 3 kn ed ct ti nm xa xb (nI ((f_Mo_isNotFor_2_63 ti nm xa xb it vs se rs wk n j t).1)) ((f_Mo_isNotFor_2_63 ti nm xa xb it vs se rs wk n j t).2.1) ((f_Mo_isNotFor_2_63 ti nm xa xb it vs se rs wk n j t).2.2.1) ((f_Mo_isNotFor_2_63 ti nm xa xb it vs se rs wk n j t).2.2.2.1) ((f_Mo_isNotFor_2_63 ti nm xa xb it vs se rs wk n j t).2.2.2.2.1) ((f_Mo_isNotFor_2_63 ti nm xa xb it vs se rs wk n j t).2.2.2.2.2.1) ((f_Mo_isNotFor_2_63 ti nm xa xb it vs se rs wk n j t).2.2.2.2.2.2) ors owk) H := hP
    have hD : va_D (blk a 15) (wMo cI cJ cZ a 3 kn ed ct ti nm xa xb (nI ((f_Mo_isNotFor_2_63 ti nm xa xb it vs se rs wk n j t).1)) ((f_Mo_isNotFor_2_63 ti nm xa xb it vs se rs wk n j t).2.1) ((f_Mo_isNotFor_2_63 ti nm xa xb it vs se rs wk n j t).2.2.1) ((f_Mo_isNotFor_2_63 ti nm xa xb it vs se rs wk n j t).2.2.2.1) ((f_Mo_isNotFor_2_63 ti nm xa xb it vs se rs wk n j t).2.2.2.2.1) ((f_Mo_isNotFor_2_63 ti nm xa xb it vs se rs wk n j t).2.2.2.2.2.1) ((f_Mo_isNotFor_2_63 ti nm xa xb it vs se rs wk n j t).2.2.2.2.2.2) ors owk) := hD
    refine lv_iload_n hx hb d_Md_asked_33 rfl (lv_at hl 0 rfl) ?_
    rw [if_neg hc1] at hR
    subst hR
    exact W.iret (v := (-1)) hx hb hr (fun t9 ht hW => ⟨rfl, hS.F ht, by rw [ht]; exact hP⟩) hS.2.2 d_Md_asked_34

def f_Mo_asked_3 (ti : Nat → Int32) (nm : Nat → Int32) (xa : Nat → Int32) (it : Nat → Int32) (vs : Nat → Int32) (se : Nat → Int32) (rs : Nat → Int64) (wk : Nat → Int32) (n : Nat) (j : Nat) (t : Int32) : Int32 × Int32 × Nat × (Nat → Int32) × (Nat → Int32) × (Nat → Int32) × Int64 × (Nat → Int64) × (Nat → Int32) := if ¬ (f_Mo_find ti n j t) = -1 then ((nI ((f_Mo_find ti n j t).toNatClampNeg), 0, (f_Mo_isNotFor_3_63 ti nm xa it vs se rs wk n j t).1, (f_Mo_isNotFor_3_63 ti nm xa it vs se rs wk n j t).2.1, (f_Mo_isNotFor_3_63 ti nm xa it vs se rs wk n j t).2.2.1, (f_Mo_isNotFor_3_63 ti nm xa it vs se rs wk n j t).2.2.2.1, (f_Mo_isNotFor_3_63 ti nm xa it vs se rs wk n j t).2.2.2.2.1, (f_Mo_isNotFor_3_63 ti nm xa it vs se rs wk n j t).2.2.2.2.2.1, (f_Mo_isNotFor_3_63 ti nm xa it vs se rs wk n j t).2.2.2.2.2.2)) else ((-1, 3, (f_Mo_isNotFor_3_63 ti nm xa it vs se rs wk n j t).1, (f_Mo_isNotFor_3_63 ti nm xa it vs se rs wk n j t).2.1, (f_Mo_isNotFor_3_63 ti nm xa it vs se rs wk n j t).2.2.1, (f_Mo_isNotFor_3_63 ti nm xa it vs se rs wk n j t).2.2.2.1, (f_Mo_isNotFor_3_63 ti nm xa it vs se rs wk n j t).2.2.2.2.1, (f_Mo_isNotFor_3_63 ti nm xa it vs se rs wk n j t).2.2.2.2.2.1, (f_Mo_isNotFor_3_63 ti nm xa it vs se rs wk n j t).2.2.2.2.2.2))
set_option maxHeartbeats 4000000 in
set_option maxRecDepth 100000 in
theorem m_Mo_asked_3 (l : Launch) (D : va_G) (cI cJ cZ cO : ClassId) (a : Nat) (code : Int32) (kn : Nat → Int32) (ed : Nat → Int32) (ct : Nat → Int32) (ti : Nat → Int32) (nm : Nat → Int32) (xa : Nat → Int32) (xb : Nat → Int32) (ma : Int32) (it : Nat → Int32) (vs : Nat → Int32) (se : Nat → Int32) (sm : Int64) (rs : Nat → Int64) (wk : Nat → Int32) (ors : Nat → Int64) (owk : Nat → Int32) (n : Nat) (j : Nat) (t : Int32) (hj : j < 4) (hlk : (f_Mo_lacks kn j t).1 = 0) (hk : kn j = 4) (hct : ct j = nI n) (hn : n ≤ 32) (R : Int32 × Int32 × Nat × (Nat → Int32) × (Nat → Int32) × (Nat → Int32) × Int64 × (Nat → Int64) × (Nat → Int32)) (hR : f_Mo_asked_3 ti nm xa it vs se rs wk n j t = R) : Met l y_Md_asked (k_Md_asked :: gt) rm_Md_asked (Pc0 D cI cJ cZ cO [.ref a, .int (nI j), .int t] (fun H => va_P D cls (wMo cI cJ cZ a code kn ed ct ti nm xa xb ma it vs se sm rs wk ors owk) H)) (Qd (blk a 15) (some (.int R.1)) (fun H => va_P D cls (wMo cI cJ cZ a R.2.1 kn ed ct ti nm xa xb (nI R.2.2.1) R.2.2.2.1 R.2.2.2.2.1 R.2.2.2.2.2.1 R.2.2.2.2.2.2.1 R.2.2.2.2.2.2.2.1 R.2.2.2.2.2.2.2.2 ors owk) H)) 0 0 (blk a 15) := by
  refine Met.ofW (cc := c_Md_asked) (maxL := 4) (ret := (Option.some FieldType.int)) (by decide) rfl ?_
  intro p e s m args below meth c s₁ B hml hv
  obtain ⟨rfl, hKn, hP⟩ := hv
  have hx := B.exec
  have hb := B.bytes
  have hr := B.returns
  have hts := atoms_spec (ws := k_Md_asked :: gt) B.pre
  have hg : ∀ w ∈ gt, w.before _ s = true := fun w h => hts w (List.mem_cons_of_mem _ h)
  have hown : s.vm.findClass R_Md = some m.cls := findClass_of_methodNamed B.named
  have hlocks := B.notSynchronized
  have hK := hKn.1
  have hl := lv_entry ([.ref a, .int (nI j), .int t]) (n := 4) (Nat.le_of_ble_eq_true rfl)
  rw [lg_entry_eq]
  generalize (lg_sl ([.ref a, .int (nI j), .int t]) ++ List.replicate (4 - (lg_sl ([.ref a, .int (nI j), .int t])).length) Slot.unset).toArray = ls at hl ⊢
  have hl : lv_has ls 4 [(0, .ref a), (1, .int (nI j)), (2, .int t)] := hl
  have hS : va_S (blk a 15) s.heap s.heap [] := va_S.rf
  have hD : va_D (blk a 15) (wMo cI cJ cZ a code kn ed ct ti nm xa xb ma it vs se sm rs wk ors owk) := (blk_D (wMo_in))
  have hR : (if ¬ (f_Mo_find ti n j t) = -1 then ((nI ((f_Mo_find ti n j t).toNatClampNeg), 0, (f_Mo_isNotFor_3_63 ti nm xa it vs se rs wk n j t).1, (f_Mo_isNotFor_3_63 ti nm xa it vs se rs wk n j t).2.1, (f_Mo_isNotFor_3_63 ti nm xa it vs se rs wk n j t).2.2.1, (f_Mo_isNotFor_3_63 ti nm xa it vs se rs wk n j t).2.2.2.1, (f_Mo_isNotFor_3_63 ti nm xa it vs se rs wk n j t).2.2.2.2.1, (f_Mo_isNotFor_3_63 ti nm xa it vs se rs wk n j t).2.2.2.2.2.1, (f_Mo_isNotFor_3_63 ti nm xa it vs se rs wk n j t).2.2.2.2.2.2)) else ((-1, 3, (f_Mo_isNotFor_3_63 ti nm xa it vs se rs wk n j t).1, (f_Mo_isNotFor_3_63 ti nm xa it vs se rs wk n j t).2.1, (f_Mo_isNotFor_3_63 ti nm xa it vs se rs wk n j t).2.2.1, (f_Mo_isNotFor_3_63 ti nm xa it vs se rs wk n j t).2.2.2.1, (f_Mo_isNotFor_3_63 ti nm xa it vs se rs wk n j t).2.2.2.2.1, (f_Mo_isNotFor_3_63 ti nm xa it vs se rs wk n j t).2.2.2.2.2.1, (f_Mo_isNotFor_3_63 ti nm xa it vs se rs wk n j t).2.2.2.2.2.2))) = R := hR
  refine lv_aload_n hx hb d_Md_asked_0 rfl (lv_at hl 0 rfl) ?_
  refine lv_iload_n hx hb d_Md_asked_1 rfl (lv_at hl 1 rfl) ?_
  refine lv_iload_n hx hb d_Md_asked_2 rfl (lv_at hl 2 rfl) ?_
  refine lv_bipush (v := 63) hx hb d_Md_asked_3 (by decide) ?_
  refine ep_callH (W.runV (As := [.int (nI j), .int t, .int 63]) (rest := []) ⟨hx, hb, hml, hown, hg⟩ (m_Mo_isNotFor_3_63 l D cI cJ cZ cO a code kn ed ct ti nm xa xb ma it vs se sm rs wk ors owk n j t (by omega) hlk hk hct (by omega) _ rfl) (ep_cwV 3 hg tw_828 tw_830 ts_16 tw_12 tk_Md_isNotFor rfl rfl (by decide +kernel) ⟨(Nat.le_of_ble_eq_true rfl), (Nat.le_of_ble_eq_true rfl)⟩) ⟨ep_blind, va_recv (q0 := 0) (ci := 9) hK hP rfl rfl, ep_pre hKn (hP)⟩ rfl rfl hl.1 rfl (lv_room (Nat.le_of_ble_eq_true rfl)) d_Md_asked_5 ⟨Nat.zero_le _, Nat.zero_le _⟩) hS (fun q h => h) (fun H locs hsz9 hk1 hP1 hS => ?_)
  refine W.eq (g2 := F0 m 8 ls [.int 0]) rfl ?_
  have hP : va_P D cls (wMo cI cJ cZ a 0 kn ed ct ti nm xa xb (nI ((f_Mo_isNotFor_3_63 ti nm xa it vs se rs wk n j t).1)) ((f_Mo_isNotFor_3_63 ti nm xa it vs se rs wk n j t).2.1) ((f_Mo_isNotFor_3_63 ti nm xa it vs se rs wk n j t).2.2.1) ((f_Mo_isNotFor_3_63 ti nm xa it vs se rs wk n j t).2.2.2.1) ((f_Mo_isNotFor_3_63 ti nm xa it vs se rs wk n j t).2.2.2.2.1) ((f_Mo_isNotFor_3_63 ti nm xa it vs se rs wk n j t).2.2.2.2.2.1) ((f_Mo_isNotFor_3_63 ti nm xa it vs se rs wk n j t).2.2.2.2.2.2) ors owk) H := hP1
  have hD : va_D (blk a 15) (wMo cI cJ cZ a 0 kn ed ct ti nm xa xb (nI ((f_Mo_isNotFor_3_63 ti nm xa it vs se rs wk n j t).1)) ((f_Mo_isNotFor_3_63 ti nm xa it vs se rs wk n j t).2.1) ((f_Mo_isNotFor_3_63 ti nm xa it vs se rs wk n j t).2.2.1) ((f_Mo_isNotFor_3_63 ti nm xa it vs se rs wk n j t).2.2.2.1) ((f_Mo_isNotFor_3_63 ti nm xa it vs se rs wk n j t).2.2.2.2.1) ((f_Mo_isNotFor_3_63 ti nm xa it vs se rs wk n j t).2.2.2.2.2.1) ((f_Mo_isNotFor_3_63 ti nm xa it vs se rs wk n j t).2.2.2.2.2.2) ors owk) := (blk_D (wMo_in))
  refine lv_if_eq (tgt := 13) hx hb d_Md_asked_8 (by decide) (fun hc => ?_) (fun hc => False.elim (by revert hc; decide))
  refine lv_aload_n hx hb d_Md_asked_13 rfl (lv_at hl 0 rfl) ?_
  refine lv_iload_n hx hb d_Md_asked_14 rfl (lv_at hl 1 rfl) ?_
  refine lv_iload_n hx hb d_Md_asked_15 rfl (lv_at hl 2 rfl) ?_
  refine ep_callP (W.runV (As := [.int (nI j), .int t]) (rest := []) ⟨hx, hb, hml, hown, hg⟩ (m_Mo_find l D cI cJ cZ cO a 0 kn ed ct ti nm xa xb (nI ((f_Mo_isNotFor_3_63 ti nm xa it vs se rs wk n j t).1)) ((f_Mo_isNotFor_3_63 ti nm xa it vs se rs wk n j t).2.1) ((f_Mo_isNotFor_3_63 ti nm xa it vs se rs wk n j t).2.2.1) ((f_Mo_isNotFor_3_63 ti nm xa it vs se rs wk n j t).2.2.2.1) ((f_Mo_isNotFor_3_63 ti nm xa it vs se rs wk n j t).2.2.2.2.1) ((f_Mo_isNotFor_3_63 ti nm xa it vs se rs wk n j t).2.2.2.2.2.1) ((f_Mo_isNotFor_3_63 ti nm xa it vs se rs wk n j t).2.2.2.2.2.2) ors owk n j t (by omega) hct (by omega) _ rfl) (ep_cwV 2 hg tw_785 tw_787 ts_10 tw_12 tk_Md_find rfl rfl (by decide +kernel) ⟨(Nat.le_of_ble_eq_true rfl), (Nat.le_of_ble_eq_true rfl)⟩) ⟨ep_blind, va_recv (q0 := 0) (ci := 9) hK hP rfl rfl, ep_pre hKn (hP)⟩ rfl rfl hl.1 rfl (lv_room (Nat.le_of_ble_eq_true rfl)) d_Md_asked_16 ⟨Nat.zero_le _, Nat.zero_le _⟩) ?_
  refine W.eq (g2 := F0 m 19 ls [.int (f_Mo_find ti n j t)]) rfl ?_
  refine lv_topi (fun z8 e_z8 => ?_)
  obtain rfl : z8 = oI (¬ (f_Mo_find ti n j t) = -1) ((f_Mo_find ti n j t).toNatClampNeg) := by rw [e_z8]; exact (oI_of (fi_at _ _ _ _ (by omega)))
  by_cases hc1 : ¬ (f_Mo_find ti n j t) = -1
  · rw [show oI (¬ (f_Mo_find ti n j t) = -1) ((f_Mo_find ti n j t).toNatClampNeg) = nI ((f_Mo_find ti n j t).toNatClampNeg) from if_pos hc1]
    have hp9 : ((f_Mo_find ti n j t)).toNatClampNeg < n := fi_lt _ _ _ _ (by omega) hc1
    refine lv_istore_n (lv' := [(3, .int (nI ((f_Mo_find ti n j t).toNatClampNeg))), (0, .ref a), (1, .int (nI j)), (2, .int t)]) hx hb d_Md_asked_19 rfl hl (by decide) rfl (fun ls hl => ?_)
    refine lv_aload_n hx hb d_Md_asked_20 rfl (lv_at hl 1 rfl) ?_
    refine lv_iload_n hx hb d_Md_asked_21 rfl (lv_at hl 0 rfl) ?_
    refine lv_if_ge (tgt := 29) hx hb d_Md_asked_22 (by decide) (fun hc => ?_) (fun hc => False.elim (by have hc : ¬ (0 ≤ (f_Mo_find ti n j t).toNatClampNeg) := fun h => hc (by exact (nI_leI (a := 0) (b := (f_Mo_find ti n j t).toNatClampNeg) (by omega) (by omega)).mpr h); omega))
    refine lv_iconst (v := 0) hx hb d_Md_asked_29 (by decide) ?_
    refine va_put (D := D) (ci := 9) (v := .int 0) (ty := .int) (C := R_Md) (T := F_Md) (N := 17) hx hb hg in_Md t_Md t_Md_ok n_Md hown hK hP hD hS 0 rfl rfl 0 (Nat.le_of_ble_eq_true rfl) (hg _ tw_706) (fun _ h9 => h9) rfl (by decide +kernel) rfl rfl (Nat.le_of_ble_eq_true rfl) d_Md_asked_30 (fun H locs hP hD hS => ?_)
    have hP : va_P D cls (wMo cI cJ cZ a 0 kn ed ct ti nm xa xb (nI ((f_Mo_isNotFor_3_63 ti nm xa it vs se rs wk n j t).1)) ((f_Mo_isNotFor_3_63 ti nm xa it vs se rs wk n j t).2.1) ((f_Mo_isNotFor_3_63 ti nm xa it vs se rs wk n j t).2.2.1) ((f_Mo_isNotFor_3_63 ti nm xa it vs se rs wk n j t).2.2.2.1) ((f_Mo_isNotFor_3_63 ti nm xa it vs se rs wk n j t).2.2.2.2.1) ((f_Mo_isNotFor_3_63 ti nm xa it vs se rs wk n j t).2.2.2.2.2.1) ((f_Mo_isNotFor_3_63 ti nm xa it vs se rs wk n j t).2.2.2.2.2.2) ors owk) H := hP
    have hD : va_D (blk a 15) (wMo cI cJ cZ a 0 kn ed ct ti nm xa xb (nI ((f_Mo_isNotFor_3_63 ti nm xa it vs se rs wk n j t).1)) ((f_Mo_isNotFor_3_63 ti nm xa it vs se rs wk n j t).2.1) ((f_Mo_isNotFor_3_63 ti nm xa it vs se rs wk n j t).2.2.1) ((f_Mo_isNotFor_3_63 ti nm xa it vs se rs wk n j t).2.2.2.1) ((f_Mo_isNotFor_3_63 ti nm xa it vs se rs wk n j t).2.2.2.2.1) ((f_Mo_isNotFor_3_63 ti nm xa it vs se rs wk n j t).2.2.2.2.2.1) ((f_Mo_isNotFor_3_63 ti nm xa it vs se rs wk n j t).2.2.2.2.2.2) ors owk) := hD
    refine lv_iload_n hx hb d_Md_asked_33 rfl (lv_at hl 0 rfl) ?_
    rw [if_pos hc1] at hR
    subst hR
    exact W.iret (v := (nI ((f_Mo_find ti n j t).toNatClampNeg))) hx hb hr (fun t9 ht hW => ⟨rfl, hS.F ht, by rw [ht]; exact hP⟩) hS.2.2 d_Md_asked_34
  · rw [show oI (¬ (f_Mo_find ti n j t) = -1) ((f_Mo_find ti n j t).toNatClampNeg) = -1 from if_neg hc1]
    refine lv_istore_n (lv' := [(3, .int (-1)), (0, .ref a), (1, .int (nI j)), (2, .int t)]) hx hb d_Md_asked_19 rfl hl (by decide) rfl (fun ls hl => ?_)
    refine lv_aload_n hx hb d_Md_asked_20 rfl (lv_at hl 1 rfl) ?_
    refine lv_iload_n hx hb d_Md_asked_21 rfl (lv_at hl 0 rfl) ?_
    refine lv_if_ge (tgt := 29) hx hb d_Md_asked_22 (by decide) (fun hc => False.elim (by revert hc; decide)) (fun hc => ?_)
    refine lv_iconst (v := 3) hx hb d_Md_asked_25 (by decide) ?_
    refine lv_goto (tgt := 30) hx hb d_Md_asked_26 (by decide) ?_
    refine va_put (D := D) (ci := 9) (v := .int 3) (ty := .int) (C := R_Md) (T := F_Md) (N := 17) hx hb hg in_Md t_Md t_Md_ok n_Md hown hK hP hD hS 0 rfl rfl 0 (Nat.le_of_ble_eq_true rfl) (hg _ tw_706) (fun _ h9 => h9) rfl (by decide +kernel) rfl rfl (Nat.le_of_ble_eq_true rfl) d_Md_asked_30 (fun H locs hP hD hS => ?_)
    have hP : va_P D cls (wMo cI cJ cZ a 3 kn ed ct ti nm xa xb (nI ((f_Mo_isNotFor_3_63 ti nm xa it vs se rs wk n j t).1)) ((f_Mo_isNotFor_3_63 ti nm xa it vs se rs wk n j t).2.1) ((f_Mo_isNotFor_3_63 ti nm xa it vs se rs wk n j t).2.2.1) ((f_Mo_isNotFor_3_63 ti nm xa it vs se rs wk n j t).2.2.2.1) ((f_Mo_isNotFor_3_63 ti nm xa it vs se rs wk n j t).2.2.2.2.1) ((f_Mo_isNotFor_3_63 ti nm xa it vs se rs wk n j t).2.2.2.2.2.1) ((f_Mo_isNotFor_3_63 ti nm xa it vs se rs wk n j t).2.2.2.2.2.2) ors owk) H := hP
    have hD : va_D (blk a 15) (wMo cI cJ cZ a 3 kn ed ct ti nm xa xb (nI ((f_Mo_isNotFor_3_63 ti nm xa it vs se rs wk n j t).1)) ((f_Mo_isNotFor_3_63 ti nm xa it vs se rs wk n j t).2.1) ((f_Mo_isNotFor_3_63 ti nm xa it vs se rs wk n j t).2.2.1) ((f_Mo_isNotFor_3_63 ti nm xa it vs se rs wk n j t).2.2.2.1) ((f_Mo_isNotFor_3_63 ti nm xa it vs se rs wk n j t).2.2.2.2.1) ((f_Mo_isNotFor_3_63 ti nm xa it vs se rs wk n j t).2.2.2.2.2.1) ((f_Mo_isNotFor_3_63 ti nm xa it vs se rs wk n j t).2.2.2.2.2.2) ors owk) := hD
    refine lv_iload_n hx hb d_Md_asked_33 rfl (lv_at hl 0 rfl) ?_
    rw [if_neg hc1] at hR
    subst hR
    exact W.iret (v := (-1)) hx hb hr (fun t9 ht hW => ⟨rfl, hS.F ht, by rw [ht]; exact hP⟩) hS.2.2 d_Md_asked_34

def f_Mo_asked_4 (ti : Nat → Int32) (xa : Nat → Int32) (it : Nat → Int32) (vs : Nat → Int32) (se : Nat → Int32) (rs : Nat → Int64) (wk : Nat → Int32) (n : Nat) (j : Nat) (t : Int32) : Int32 × Int32 × Int32 × (Nat → Int32) × (Nat → Int32) × (Nat → Int32) × Int64 × (Nat → Int64) × (Nat → Int32) := if ¬ (f_Mo_find ti n j t) = -1 then ((nI ((f_Mo_find ti n j t).toNatClampNeg), 0, (f_Mo_isNotFor_4_63 ti xa it vs se rs wk n j t).1, (f_Mo_isNotFor_4_63 ti xa it vs se rs wk n j t).2.1, (f_Mo_isNotFor_4_63 ti xa it vs se rs wk n j t).2.2.1, (f_Mo_isNotFor_4_63 ti xa it vs se rs wk n j t).2.2.2.1, (f_Mo_isNotFor_4_63 ti xa it vs se rs wk n j t).2.2.2.2.1, (f_Mo_isNotFor_4_63 ti xa it vs se rs wk n j t).2.2.2.2.2.1, (f_Mo_isNotFor_4_63 ti xa it vs se rs wk n j t).2.2.2.2.2.2)) else ((-1, 3, (f_Mo_isNotFor_4_63 ti xa it vs se rs wk n j t).1, (f_Mo_isNotFor_4_63 ti xa it vs se rs wk n j t).2.1, (f_Mo_isNotFor_4_63 ti xa it vs se rs wk n j t).2.2.1, (f_Mo_isNotFor_4_63 ti xa it vs se rs wk n j t).2.2.2.1, (f_Mo_isNotFor_4_63 ti xa it vs se rs wk n j t).2.2.2.2.1, (f_Mo_isNotFor_4_63 ti xa it vs se rs wk n j t).2.2.2.2.2.1, (f_Mo_isNotFor_4_63 ti xa it vs se rs wk n j t).2.2.2.2.2.2))
set_option maxHeartbeats 4000000 in
set_option maxRecDepth 100000 in
theorem m_Mo_asked_4 (l : Launch) (D : va_G) (cI cJ cZ cO : ClassId) (a : Nat) (code : Int32) (kn : Nat → Int32) (ed : Nat → Int32) (ct : Nat → Int32) (ti : Nat → Int32) (nm : Nat → Int32) (xa : Nat → Int32) (xb : Nat → Int32) (ma : Int32) (it : Nat → Int32) (vs : Nat → Int32) (se : Nat → Int32) (sm : Int64) (rs : Nat → Int64) (wk : Nat → Int32) (ors : Nat → Int64) (owk : Nat → Int32) (n : Nat) (j : Nat) (t : Int32) (hj : j < 4) (hlk : (f_Mo_lacks kn j t).1 = 0) (hk : kn j = 5) (hct : ct j = nI n) (hn : n ≤ 32) (R : Int32 × Int32 × Int32 × (Nat → Int32) × (Nat → Int32) × (Nat → Int32) × Int64 × (Nat → Int64) × (Nat → Int32)) (hR : f_Mo_asked_4 ti xa it vs se rs wk n j t = R) : Met l y_Md_asked (k_Md_asked :: gt) rm_Md_asked (Pc0 D cI cJ cZ cO [.ref a, .int (nI j), .int t] (fun H => va_P D cls (wMo cI cJ cZ a code kn ed ct ti nm xa xb ma it vs se sm rs wk ors owk) H)) (Qd (blk a 15) (some (.int R.1)) (fun H => va_P D cls (wMo cI cJ cZ a R.2.1 kn ed ct ti nm xa xb R.2.2.1 R.2.2.2.1 R.2.2.2.2.1 R.2.2.2.2.2.1 R.2.2.2.2.2.2.1 R.2.2.2.2.2.2.2.1 R.2.2.2.2.2.2.2.2 ors owk) H)) 0 0 (blk a 15) := by
  refine Met.ofW (cc := c_Md_asked) (maxL := 4) (ret := (Option.some FieldType.int)) (by decide) rfl ?_
  intro p e s m args below meth c s₁ B hml hv
  obtain ⟨rfl, hKn, hP⟩ := hv
  have hx := B.exec
  have hb := B.bytes
  have hr := B.returns
  have hts := atoms_spec (ws := k_Md_asked :: gt) B.pre
  have hg : ∀ w ∈ gt, w.before _ s = true := fun w h => hts w (List.mem_cons_of_mem _ h)
  have hown : s.vm.findClass R_Md = some m.cls := findClass_of_methodNamed B.named
  have hlocks := B.notSynchronized
  have hK := hKn.1
  have hl := lv_entry ([.ref a, .int (nI j), .int t]) (n := 4) (Nat.le_of_ble_eq_true rfl)
  rw [lg_entry_eq]
  generalize (lg_sl ([.ref a, .int (nI j), .int t]) ++ List.replicate (4 - (lg_sl ([.ref a, .int (nI j), .int t])).length) Slot.unset).toArray = ls at hl ⊢
  have hl : lv_has ls 4 [(0, .ref a), (1, .int (nI j)), (2, .int t)] := hl
  have hS : va_S (blk a 15) s.heap s.heap [] := va_S.rf
  have hD : va_D (blk a 15) (wMo cI cJ cZ a code kn ed ct ti nm xa xb ma it vs se sm rs wk ors owk) := (blk_D (wMo_in))
  have hR : (if ¬ (f_Mo_find ti n j t) = -1 then ((nI ((f_Mo_find ti n j t).toNatClampNeg), 0, (f_Mo_isNotFor_4_63 ti xa it vs se rs wk n j t).1, (f_Mo_isNotFor_4_63 ti xa it vs se rs wk n j t).2.1, (f_Mo_isNotFor_4_63 ti xa it vs se rs wk n j t).2.2.1, (f_Mo_isNotFor_4_63 ti xa it vs se rs wk n j t).2.2.2.1, (f_Mo_isNotFor_4_63 ti xa it vs se rs wk n j t).2.2.2.2.1, (f_Mo_isNotFor_4_63 ti xa it vs se rs wk n j t).2.2.2.2.2.1, (f_Mo_isNotFor_4_63 ti xa it vs se rs wk n j t).2.2.2.2.2.2)) else ((-1, 3, (f_Mo_isNotFor_4_63 ti xa it vs se rs wk n j t).1, (f_Mo_isNotFor_4_63 ti xa it vs se rs wk n j t).2.1, (f_Mo_isNotFor_4_63 ti xa it vs se rs wk n j t).2.2.1, (f_Mo_isNotFor_4_63 ti xa it vs se rs wk n j t).2.2.2.1, (f_Mo_isNotFor_4_63 ti xa it vs se rs wk n j t).2.2.2.2.1, (f_Mo_isNotFor_4_63 ti xa it vs se rs wk n j t).2.2.2.2.2.1, (f_Mo_isNotFor_4_63 ti xa it vs se rs wk n j t).2.2.2.2.2.2))) = R := hR
  refine lv_aload_n hx hb d_Md_asked_0 rfl (lv_at hl 0 rfl) ?_
  refine lv_iload_n hx hb d_Md_asked_1 rfl (lv_at hl 1 rfl) ?_
  refine lv_iload_n hx hb d_Md_asked_2 rfl (lv_at hl 2 rfl) ?_
  refine lv_bipush (v := 63) hx hb d_Md_asked_3 (by decide) ?_
  refine ep_callH (W.runV (As := [.int (nI j), .int t, .int 63]) (rest := []) ⟨hx, hb, hml, hown, hg⟩ (m_Mo_isNotFor_4_63 l D cI cJ cZ cO a code kn ed ct ti nm xa xb ma it vs se sm rs wk ors owk n j t (by omega) hlk hk hct (by omega) _ rfl) (ep_cwV 3 hg tw_828 tw_830 ts_16 tw_12 tk_Md_isNotFor rfl rfl (by decide +kernel) ⟨(Nat.le_of_ble_eq_true rfl), (Nat.le_of_ble_eq_true rfl)⟩) ⟨ep_blind, va_recv (q0 := 0) (ci := 9) hK hP rfl rfl, ep_pre hKn (hP)⟩ rfl rfl hl.1 rfl (lv_room (Nat.le_of_ble_eq_true rfl)) d_Md_asked_5 ⟨Nat.zero_le _, Nat.zero_le _⟩) hS (fun q h => h) (fun H locs hsz9 hk1 hP1 hS => ?_)
  refine W.eq (g2 := F0 m 8 ls [.int 0]) rfl ?_
  have hP : va_P D cls (wMo cI cJ cZ a 0 kn ed ct ti nm xa xb ((f_Mo_isNotFor_4_63 ti xa it vs se rs wk n j t).1) ((f_Mo_isNotFor_4_63 ti xa it vs se rs wk n j t).2.1) ((f_Mo_isNotFor_4_63 ti xa it vs se rs wk n j t).2.2.1) ((f_Mo_isNotFor_4_63 ti xa it vs se rs wk n j t).2.2.2.1) ((f_Mo_isNotFor_4_63 ti xa it vs se rs wk n j t).2.2.2.2.1) ((f_Mo_isNotFor_4_63 ti xa it vs se rs wk n j t).2.2.2.2.2.1) ((f_Mo_isNotFor_4_63 ti xa it vs se rs wk n j t).2.2.2.2.2.2) ors owk) H := hP1
  have hD : va_D (blk a 15) (wMo cI cJ cZ a 0 kn ed ct ti nm xa xb ((f_Mo_isNotFor_4_63 ti xa it vs se rs wk n j t).1) ((f_Mo_isNotFor_4_63 ti xa it vs se rs wk n j t).2.1) ((f_Mo_isNotFor_4_63 ti xa it vs se rs wk n j t).2.2.1) ((f_Mo_isNotFor_4_63 ti xa it vs se rs wk n j t).2.2.2.1) ((f_Mo_isNotFor_4_63 ti xa it vs se rs wk n j t).2.2.2.2.1) ((f_Mo_isNotFor_4_63 ti xa it vs se rs wk n j t).2.2.2.2.2.1) ((f_Mo_isNotFor_4_63 ti xa it vs se rs wk n j t).2.2.2.2.2.2) ors owk) := (blk_D (wMo_in))
  refine lv_if_eq (tgt := 13) hx hb d_Md_asked_8 (by decide) (fun hc => ?_) (fun hc => False.elim (by revert hc; decide))
  refine lv_aload_n hx hb d_Md_asked_13 rfl (lv_at hl 0 rfl) ?_
  refine lv_iload_n hx hb d_Md_asked_14 rfl (lv_at hl 1 rfl) ?_
  refine lv_iload_n hx hb d_Md_asked_15 rfl (lv_at hl 2 rfl) ?_
  refine ep_callP (W.runV (As := [.int (nI j), .int t]) (rest := []) ⟨hx, hb, hml, hown, hg⟩ (m_Mo_find l D cI cJ cZ cO a 0 kn ed ct ti nm xa xb ((f_Mo_isNotFor_4_63 ti xa it vs se rs wk n j t).1) ((f_Mo_isNotFor_4_63 ti xa it vs se rs wk n j t).2.1) ((f_Mo_isNotFor_4_63 ti xa it vs se rs wk n j t).2.2.1) ((f_Mo_isNotFor_4_63 ti xa it vs se rs wk n j t).2.2.2.1) ((f_Mo_isNotFor_4_63 ti xa it vs se rs wk n j t).2.2.2.2.1) ((f_Mo_isNotFor_4_63 ti xa it vs se rs wk n j t).2.2.2.2.2.1) ((f_Mo_isNotFor_4_63 ti xa it vs se rs wk n j t).2.2.2.2.2.2) ors owk n j t (by omega) hct (by omega) _ rfl) (ep_cwV 2 hg tw_785 tw_787 ts_10 tw_12 tk_Md_find rfl rfl (by decide +kernel) ⟨(Nat.le_of_ble_eq_true rfl), (Nat.le_of_ble_eq_true rfl)⟩) ⟨ep_blind, va_recv (q0 := 0) (ci := 9) hK hP rfl rfl, ep_pre hKn (hP)⟩ rfl rfl hl.1 rfl (lv_room (Nat.le_of_ble_eq_true rfl)) d_Md_asked_16 ⟨Nat.zero_le _, Nat.zero_le _⟩) ?_
  refine W.eq (g2 := F0 m 19 ls [.int (f_Mo_find ti n j t)]) rfl ?_
  refine lv_topi (fun z8 e_z8 => ?_)
  obtain rfl : z8 = oI (¬ (f_Mo_find ti n j t) = -1) ((f_Mo_find ti n j t).toNatClampNeg) := by rw [e_z8]; exact (oI_of (fi_at _ _ _ _ (by omega)))
  by_cases hc1 : ¬ (f_Mo_find ti n j t) = -1
  · rw [show oI (¬ (f_Mo_find ti n j t) = -1) ((f_Mo_find ti n j t).toNatClampNeg) = nI ((f_Mo_find ti n j t).toNatClampNeg) from if_pos hc1]
    have hp9 : ((f_Mo_find ti n j t)).toNatClampNeg < n := fi_lt _ _ _ _ (by omega) hc1
    refine lv_istore_n (lv' := [(3, .int (nI ((f_Mo_find ti n j t).toNatClampNeg))), (0, .ref a), (1, .int (nI j)), (2, .int t)]) hx hb d_Md_asked_19 rfl hl (by decide) rfl (fun ls hl => ?_)
    refine lv_aload_n hx hb d_Md_asked_20 rfl (lv_at hl 1 rfl) ?_
    refine lv_iload_n hx hb d_Md_asked_21 rfl (lv_at hl 0 rfl) ?_
    refine lv_if_ge (tgt := 29) hx hb d_Md_asked_22 (by decide) (fun hc => ?_) (fun hc => False.elim (by have hc : ¬ (0 ≤ (f_Mo_find ti n j t).toNatClampNeg) := fun h => hc (by exact (nI_leI (a := 0) (b := (f_Mo_find ti n j t).toNatClampNeg) (by omega) (by omega)).mpr h); omega))
    refine lv_iconst (v := 0) hx hb d_Md_asked_29 (by decide) ?_
    refine va_put (D := D) (ci := 9) (v := .int 0) (ty := .int) (C := R_Md) (T := F_Md) (N := 17) hx hb hg in_Md t_Md t_Md_ok n_Md hown hK hP hD hS 0 rfl rfl 0 (Nat.le_of_ble_eq_true rfl) (hg _ tw_706) (fun _ h9 => h9) rfl (by decide +kernel) rfl rfl (Nat.le_of_ble_eq_true rfl) d_Md_asked_30 (fun H locs hP hD hS => ?_)
    have hP : va_P D cls (wMo cI cJ cZ a 0 kn ed ct ti nm xa xb ((f_Mo_isNotFor_4_63 ti xa it vs se rs wk n j t).1) ((f_Mo_isNotFor_4_63 ti xa it vs se rs wk n j t).2.1) ((f_Mo_isNotFor_4_63 ti xa it vs se rs wk n j t).2.2.1) ((f_Mo_isNotFor_4_63 ti xa it vs se rs wk n j t).2.2.2.1) ((f_Mo_isNotFor_4_63 ti xa it vs se rs wk n j t).2.2.2.2.1) ((f_Mo_isNotFor_4_63 ti xa it vs se rs wk n j t).2.2.2.2.2.1) ((f_Mo_isNotFor_4_63 ti xa it vs se rs wk n j t).2.2.2.2.2.2) ors owk) H := hP
    have hD : va_D (blk a 15) (wMo cI cJ cZ a 0 kn ed ct ti nm xa xb ((f_Mo_isNotFor_4_63 ti xa it vs se rs wk n j t).1) ((f_Mo_isNotFor_4_63 ti xa it vs se rs wk n j t).2.1) ((f_Mo_isNotFor_4_63 ti xa it vs se rs wk n j t).2.2.1) ((f_Mo_isNotFor_4_63 ti xa it vs se rs wk n j t).2.2.2.1) ((f_Mo_isNotFor_4_63 ti xa it vs se rs wk n j t).2.2.2.2.1) ((f_Mo_isNotFor_4_63 ti xa it vs se rs wk n j t).2.2.2.2.2.1) ((f_Mo_isNotFor_4_63 ti xa it vs se rs wk n j t).2.2.2.2.2.2) ors owk) := hD
    refine lv_iload_n hx hb d_Md_asked_33 rfl (lv_at hl 0 rfl) ?_
    rw [if_pos hc1] at hR
    subst hR
    exact W.iret (v := (nI ((f_Mo_find ti n j t).toNatClampNeg))) hx hb hr (fun t9 ht hW => ⟨rfl, hS.F ht, by rw [ht]; exact hP⟩) hS.2.2 d_Md_asked_34
  · rw [show oI (¬ (f_Mo_find ti n j t) = -1) ((f_Mo_find ti n j t).toNatClampNeg) = -1 from if_neg hc1]
    refine lv_istore_n (lv' := [(3, .int (-1)), (0, .ref a), (1, .int (nI j)), (2, .int t)]) hx hb d_Md_asked_19 rfl hl (by decide) rfl (fun ls hl => ?_)
    refine lv_aload_n hx hb d_Md_asked_20 rfl (lv_at hl 1 rfl) ?_
    refine lv_iload_n hx hb d_Md_asked_21 rfl (lv_at hl 0 rfl) ?_
    refine lv_if_ge (tgt := 29) hx hb d_Md_asked_22 (by decide) (fun hc => False.elim (by revert hc; decide)) (fun hc => ?_)
    refine lv_iconst (v := 3) hx hb d_Md_asked_25 (by decide) ?_
    refine lv_goto (tgt := 30) hx hb d_Md_asked_26 (by decide) ?_
    refine va_put (D := D) (ci := 9) (v := .int 3) (ty := .int) (C := R_Md) (T := F_Md) (N := 17) hx hb hg in_Md t_Md t_Md_ok n_Md hown hK hP hD hS 0 rfl rfl 0 (Nat.le_of_ble_eq_true rfl) (hg _ tw_706) (fun _ h9 => h9) rfl (by decide +kernel) rfl rfl (Nat.le_of_ble_eq_true rfl) d_Md_asked_30 (fun H locs hP hD hS => ?_)
    have hP : va_P D cls (wMo cI cJ cZ a 3 kn ed ct ti nm xa xb ((f_Mo_isNotFor_4_63 ti xa it vs se rs wk n j t).1) ((f_Mo_isNotFor_4_63 ti xa it vs se rs wk n j t).2.1) ((f_Mo_isNotFor_4_63 ti xa it vs se rs wk n j t).2.2.1) ((f_Mo_isNotFor_4_63 ti xa it vs se rs wk n j t).2.2.2.1) ((f_Mo_isNotFor_4_63 ti xa it vs se rs wk n j t).2.2.2.2.1) ((f_Mo_isNotFor_4_63 ti xa it vs se rs wk n j t).2.2.2.2.2.1) ((f_Mo_isNotFor_4_63 ti xa it vs se rs wk n j t).2.2.2.2.2.2) ors owk) H := hP
    have hD : va_D (blk a 15) (wMo cI cJ cZ a 3 kn ed ct ti nm xa xb ((f_Mo_isNotFor_4_63 ti xa it vs se rs wk n j t).1) ((f_Mo_isNotFor_4_63 ti xa it vs se rs wk n j t).2.1) ((f_Mo_isNotFor_4_63 ti xa it vs se rs wk n j t).2.2.1) ((f_Mo_isNotFor_4_63 ti xa it vs se rs wk n j t).2.2.2.1) ((f_Mo_isNotFor_4_63 ti xa it vs se rs wk n j t).2.2.2.2.1) ((f_Mo_isNotFor_4_63 ti xa it vs se rs wk n j t).2.2.2.2.2.1) ((f_Mo_isNotFor_4_63 ti xa it vs se rs wk n j t).2.2.2.2.2.2) ors owk) := hD
    refine lv_iload_n hx hb d_Md_asked_33 rfl (lv_at hl 0 rfl) ?_
    rw [if_neg hc1] at hR
    subst hR
    exact W.iret (v := (-1)) hx hb hr (fun t9 ht hW => ⟨rfl, hS.F ht, by rw [ht]; exact hP⟩) hS.2.2 d_Md_asked_34

def f_Mo_asked_5 (ti : Nat → Int32) (xa : Nat → Int32) (xb : Nat → Int32) (it : Nat → Int32) (vs : Nat → Int32) (se : Nat → Int32) (rs : Nat → Int64) (wk : Nat → Int32) (n : Nat) (j : Nat) (t : Int32) : Int32 × Int32 × Int32 × (Nat → Int32) × (Nat → Int32) × (Nat → Int32) × Int64 × (Nat → Int64) × (Nat → Int32) := if ¬ (f_Mo_find ti n j t) = -1 then ((nI ((f_Mo_find ti n j t).toNatClampNeg), 0, (f_Mo_isNotFor_5_63 ti xa xb it vs se rs wk n j t).1, (f_Mo_isNotFor_5_63 ti xa xb it vs se rs wk n j t).2.1, (f_Mo_isNotFor_5_63 ti xa xb it vs se rs wk n j t).2.2.1, (f_Mo_isNotFor_5_63 ti xa xb it vs se rs wk n j t).2.2.2.1, (f_Mo_isNotFor_5_63 ti xa xb it vs se rs wk n j t).2.2.2.2.1, (f_Mo_isNotFor_5_63 ti xa xb it vs se rs wk n j t).2.2.2.2.2.1, (f_Mo_isNotFor_5_63 ti xa xb it vs se rs wk n j t).2.2.2.2.2.2)) else ((-1, 3, (f_Mo_isNotFor_5_63 ti xa xb it vs se rs wk n j t).1, (f_Mo_isNotFor_5_63 ti xa xb it vs se rs wk n j t).2.1, (f_Mo_isNotFor_5_63 ti xa xb it vs se rs wk n j t).2.2.1, (f_Mo_isNotFor_5_63 ti xa xb it vs se rs wk n j t).2.2.2.1, (f_Mo_isNotFor_5_63 ti xa xb it vs se rs wk n j t).2.2.2.2.1, (f_Mo_isNotFor_5_63 ti xa xb it vs se rs wk n j t).2.2.2.2.2.1, (f_Mo_isNotFor_5_63 ti xa xb it vs se rs wk n j t).2.2.2.2.2.2))
set_option maxHeartbeats 4000000 in
set_option maxRecDepth 100000 in
theorem m_Mo_asked_5 (l : Launch) (D : va_G) (cI cJ cZ cO : ClassId) (a : Nat) (code : Int32) (kn : Nat → Int32) (ed : Nat → Int32) (ct : Nat → Int32) (ti : Nat → Int32) (nm : Nat → Int32) (xa : Nat → Int32) (xb : Nat → Int32) (ma : Int32) (it : Nat → Int32) (vs : Nat → Int32) (se : Nat → Int32) (sm : Int64) (rs : Nat → Int64) (wk : Nat → Int32) (ors : Nat → Int64) (owk : Nat → Int32) (n : Nat) (j : Nat) (t : Int32) (hj : j < 4) (hlk : (f_Mo_lacks kn j t).1 = 0) (hk : kn j = 6) (hct : ct j = nI n) (hn : n ≤ 32) (hop : ∀ i, i < n → (xa (32 * j + i) = nI (xa (32 * j + i)).toNatClampNeg ∧ (xa (32 * j + i)).toNatClampNeg < 16) ∧ (xb (32 * j + i) = nI (xb (32 * j + i)).toNatClampNeg ∧ (xb (32 * j + i)).toNatClampNeg < 16)) (R : Int32 × Int32 × Int32 × (Nat → Int32) × (Nat → Int32) × (Nat → Int32) × Int64 × (Nat → Int64) × (Nat → Int32)) (hR : f_Mo_asked_5 ti xa xb it vs se rs wk n j t = R) : Met l y_Md_asked (k_Md_asked :: gt) rm_Md_asked (Pc0 D cI cJ cZ cO [.ref a, .int (nI j), .int t] (fun H => va_P D cls (wMo cI cJ cZ a code kn ed ct ti nm xa xb ma it vs se sm rs wk ors owk) H)) (Qd (blk a 15) (some (.int R.1)) (fun H => va_P D cls (wMo cI cJ cZ a R.2.1 kn ed ct ti nm xa xb R.2.2.1 R.2.2.2.1 R.2.2.2.2.1 R.2.2.2.2.2.1 R.2.2.2.2.2.2.1 R.2.2.2.2.2.2.2.1 R.2.2.2.2.2.2.2.2 ors owk) H)) 0 0 (blk a 15) := by
  refine Met.ofW (cc := c_Md_asked) (maxL := 4) (ret := (Option.some FieldType.int)) (by decide) rfl ?_
  intro p e s m args below meth c s₁ B hml hv
  obtain ⟨rfl, hKn, hP⟩ := hv
  have hx := B.exec
  have hb := B.bytes
  have hr := B.returns
  have hts := atoms_spec (ws := k_Md_asked :: gt) B.pre
  have hg : ∀ w ∈ gt, w.before _ s = true := fun w h => hts w (List.mem_cons_of_mem _ h)
  have hown : s.vm.findClass R_Md = some m.cls := findClass_of_methodNamed B.named
  have hlocks := B.notSynchronized
  have hK := hKn.1
  have hl := lv_entry ([.ref a, .int (nI j), .int t]) (n := 4) (Nat.le_of_ble_eq_true rfl)
  rw [lg_entry_eq]
  generalize (lg_sl ([.ref a, .int (nI j), .int t]) ++ List.replicate (4 - (lg_sl ([.ref a, .int (nI j), .int t])).length) Slot.unset).toArray = ls at hl ⊢
  have hl : lv_has ls 4 [(0, .ref a), (1, .int (nI j)), (2, .int t)] := hl
  have hS : va_S (blk a 15) s.heap s.heap [] := va_S.rf
  have hD : va_D (blk a 15) (wMo cI cJ cZ a code kn ed ct ti nm xa xb ma it vs se sm rs wk ors owk) := (blk_D (wMo_in))
  have hR : (if ¬ (f_Mo_find ti n j t) = -1 then ((nI ((f_Mo_find ti n j t).toNatClampNeg), 0, (f_Mo_isNotFor_5_63 ti xa xb it vs se rs wk n j t).1, (f_Mo_isNotFor_5_63 ti xa xb it vs se rs wk n j t).2.1, (f_Mo_isNotFor_5_63 ti xa xb it vs se rs wk n j t).2.2.1, (f_Mo_isNotFor_5_63 ti xa xb it vs se rs wk n j t).2.2.2.1, (f_Mo_isNotFor_5_63 ti xa xb it vs se rs wk n j t).2.2.2.2.1, (f_Mo_isNotFor_5_63 ti xa xb it vs se rs wk n j t).2.2.2.2.2.1, (f_Mo_isNotFor_5_63 ti xa xb it vs se rs wk n j t).2.2.2.2.2.2)) else ((-1, 3, (f_Mo_isNotFor_5_63 ti xa xb it vs se rs wk n j t).1, (f_Mo_isNotFor_5_63 ti xa xb it vs se rs wk n j t).2.1, (f_Mo_isNotFor_5_63 ti xa xb it vs se rs wk n j t).2.2.1, (f_Mo_isNotFor_5_63 ti xa xb it vs se rs wk n j t).2.2.2.1, (f_Mo_isNotFor_5_63 ti xa xb it vs se rs wk n j t).2.2.2.2.1, (f_Mo_isNotFor_5_63 ti xa xb it vs se rs wk n j t).2.2.2.2.2.1, (f_Mo_isNotFor_5_63 ti xa xb it vs se rs wk n j t).2.2.2.2.2.2))) = R := hR
  refine lv_aload_n hx hb d_Md_asked_0 rfl (lv_at hl 0 rfl) ?_
  refine lv_iload_n hx hb d_Md_asked_1 rfl (lv_at hl 1 rfl) ?_
  refine lv_iload_n hx hb d_Md_asked_2 rfl (lv_at hl 2 rfl) ?_
  refine lv_bipush (v := 63) hx hb d_Md_asked_3 (by decide) ?_
  refine ep_callH (W.runV (As := [.int (nI j), .int t, .int 63]) (rest := []) ⟨hx, hb, hml, hown, hg⟩ (m_Mo_isNotFor_5_63 l D cI cJ cZ cO a code kn ed ct ti nm xa xb ma it vs se sm rs wk ors owk n j t (by omega) hlk hk hct (by omega) hop _ rfl) (ep_cwV 3 hg tw_828 tw_830 ts_16 tw_12 tk_Md_isNotFor rfl rfl (by decide +kernel) ⟨(Nat.le_of_ble_eq_true rfl), (Nat.le_of_ble_eq_true rfl)⟩) ⟨ep_blind, va_recv (q0 := 0) (ci := 9) hK hP rfl rfl, ep_pre hKn (hP)⟩ rfl rfl hl.1 rfl (lv_room (Nat.le_of_ble_eq_true rfl)) d_Md_asked_5 ⟨Nat.zero_le _, Nat.zero_le _⟩) hS (fun q h => h) (fun H locs hsz9 hk1 hP1 hS => ?_)
  refine W.eq (g2 := F0 m 8 ls [.int 0]) rfl ?_
  have hP : va_P D cls (wMo cI cJ cZ a 0 kn ed ct ti nm xa xb ((f_Mo_isNotFor_5_63 ti xa xb it vs se rs wk n j t).1) ((f_Mo_isNotFor_5_63 ti xa xb it vs se rs wk n j t).2.1) ((f_Mo_isNotFor_5_63 ti xa xb it vs se rs wk n j t).2.2.1) ((f_Mo_isNotFor_5_63 ti xa xb it vs se rs wk n j t).2.2.2.1) ((f_Mo_isNotFor_5_63 ti xa xb it vs se rs wk n j t).2.2.2.2.1) ((f_Mo_isNotFor_5_63 ti xa xb it vs se rs wk n j t).2.2.2.2.2.1) ((f_Mo_isNotFor_5_63 ti xa xb it vs se rs wk n j t).2.2.2.2.2.2) ors owk) H := hP1
  have hD : va_D (blk a 15) (wMo cI cJ cZ a 0 kn ed ct ti nm xa xb ((f_Mo_isNotFor_5_63 ti xa xb it vs se rs wk n j t).1) ((f_Mo_isNotFor_5_63 ti xa xb it vs se rs wk n j t).2.1) ((f_Mo_isNotFor_5_63 ti xa xb it vs se rs wk n j t).2.2.1) ((f_Mo_isNotFor_5_63 ti xa xb it vs se rs wk n j t).2.2.2.1) ((f_Mo_isNotFor_5_63 ti xa xb it vs se rs wk n j t).2.2.2.2.1) ((f_Mo_isNotFor_5_63 ti xa xb it vs se rs wk n j t).2.2.2.2.2.1) ((f_Mo_isNotFor_5_63 ti xa xb it vs se rs wk n j t).2.2.2.2.2.2) ors owk) := (blk_D (wMo_in))
  refine lv_if_eq (tgt := 13) hx hb d_Md_asked_8 (by decide) (fun hc => ?_) (fun hc => False.elim (by revert hc; decide))
  refine lv_aload_n hx hb d_Md_asked_13 rfl (lv_at hl 0 rfl) ?_
  refine lv_iload_n hx hb d_Md_asked_14 rfl (lv_at hl 1 rfl) ?_
  refine lv_iload_n hx hb d_Md_asked_15 rfl (lv_at hl 2 rfl) ?_
  refine ep_callP (W.runV (As := [.int (nI j), .int t]) (rest := []) ⟨hx, hb, hml, hown, hg⟩ (m_Mo_find l D cI cJ cZ cO a 0 kn ed ct ti nm xa xb ((f_Mo_isNotFor_5_63 ti xa xb it vs se rs wk n j t).1) ((f_Mo_isNotFor_5_63 ti xa xb it vs se rs wk n j t).2.1) ((f_Mo_isNotFor_5_63 ti xa xb it vs se rs wk n j t).2.2.1) ((f_Mo_isNotFor_5_63 ti xa xb it vs se rs wk n j t).2.2.2.1) ((f_Mo_isNotFor_5_63 ti xa xb it vs se rs wk n j t).2.2.2.2.1) ((f_Mo_isNotFor_5_63 ti xa xb it vs se rs wk n j t).2.2.2.2.2.1) ((f_Mo_isNotFor_5_63 ti xa xb it vs se rs wk n j t).2.2.2.2.2.2) ors owk n j t (by omega) hct (by omega) _ rfl) (ep_cwV 2 hg tw_785 tw_787 ts_10 tw_12 tk_Md_find rfl rfl (by decide +kernel) ⟨(Nat.le_of_ble_eq_true rfl), (Nat.le_of_ble_eq_true rfl)⟩) ⟨ep_blind, va_recv (q0 := 0) (ci := 9) hK hP rfl rfl, ep_pre hKn (hP)⟩ rfl rfl hl.1 rfl (lv_room (Nat.le_of_ble_eq_true rfl)) d_Md_asked_16 ⟨Nat.zero_le _, Nat.zero_le _⟩) ?_
  refine W.eq (g2 := F0 m 19 ls [.int (f_Mo_find ti n j t)]) rfl ?_
  refine lv_topi (fun z8 e_z8 => ?_)
  obtain rfl : z8 = oI (¬ (f_Mo_find ti n j t) = -1) ((f_Mo_find ti n j t).toNatClampNeg) := by rw [e_z8]; exact (oI_of (fi_at _ _ _ _ (by omega)))
  by_cases hc1 : ¬ (f_Mo_find ti n j t) = -1
  · rw [show oI (¬ (f_Mo_find ti n j t) = -1) ((f_Mo_find ti n j t).toNatClampNeg) = nI ((f_Mo_find ti n j t).toNatClampNeg) from if_pos hc1]
    have hp9 : ((f_Mo_find ti n j t)).toNatClampNeg < n := fi_lt _ _ _ _ (by omega) hc1
    refine lv_istore_n (lv' := [(3, .int (nI ((f_Mo_find ti n j t).toNatClampNeg))), (0, .ref a), (1, .int (nI j)), (2, .int t)]) hx hb d_Md_asked_19 rfl hl (by decide) rfl (fun ls hl => ?_)
    refine lv_aload_n hx hb d_Md_asked_20 rfl (lv_at hl 1 rfl) ?_
    refine lv_iload_n hx hb d_Md_asked_21 rfl (lv_at hl 0 rfl) ?_
    refine lv_if_ge (tgt := 29) hx hb d_Md_asked_22 (by decide) (fun hc => ?_) (fun hc => False.elim (by have hc : ¬ (0 ≤ (f_Mo_find ti n j t).toNatClampNeg) := fun h => hc (by exact (nI_leI (a := 0) (b := (f_Mo_find ti n j t).toNatClampNeg) (by omega) (by omega)).mpr h); omega))
    refine lv_iconst (v := 0) hx hb d_Md_asked_29 (by decide) ?_
    refine va_put (D := D) (ci := 9) (v := .int 0) (ty := .int) (C := R_Md) (T := F_Md) (N := 17) hx hb hg in_Md t_Md t_Md_ok n_Md hown hK hP hD hS 0 rfl rfl 0 (Nat.le_of_ble_eq_true rfl) (hg _ tw_706) (fun _ h9 => h9) rfl (by decide +kernel) rfl rfl (Nat.le_of_ble_eq_true rfl) d_Md_asked_30 (fun H locs hP hD hS => ?_)
    have hP : va_P D cls (wMo cI cJ cZ a 0 kn ed ct ti nm xa xb ((f_Mo_isNotFor_5_63 ti xa xb it vs se rs wk n j t).1) ((f_Mo_isNotFor_5_63 ti xa xb it vs se rs wk n j t).2.1) ((f_Mo_isNotFor_5_63 ti xa xb it vs se rs wk n j t).2.2.1) ((f_Mo_isNotFor_5_63 ti xa xb it vs se rs wk n j t).2.2.2.1) ((f_Mo_isNotFor_5_63 ti xa xb it vs se rs wk n j t).2.2.2.2.1) ((f_Mo_isNotFor_5_63 ti xa xb it vs se rs wk n j t).2.2.2.2.2.1) ((f_Mo_isNotFor_5_63 ti xa xb it vs se rs wk n j t).2.2.2.2.2.2) ors owk) H := hP
    have hD : va_D (blk a 15) (wMo cI cJ cZ a 0 kn ed ct ti nm xa xb ((f_Mo_isNotFor_5_63 ti xa xb it vs se rs wk n j t).1) ((f_Mo_isNotFor_5_63 ti xa xb it vs se rs wk n j t).2.1) ((f_Mo_isNotFor_5_63 ti xa xb it vs se rs wk n j t).2.2.1) ((f_Mo_isNotFor_5_63 ti xa xb it vs se rs wk n j t).2.2.2.1) ((f_Mo_isNotFor_5_63 ti xa xb it vs se rs wk n j t).2.2.2.2.1) ((f_Mo_isNotFor_5_63 ti xa xb it vs se rs wk n j t).2.2.2.2.2.1) ((f_Mo_isNotFor_5_63 ti xa xb it vs se rs wk n j t).2.2.2.2.2.2) ors owk) := hD
    refine lv_iload_n hx hb d_Md_asked_33 rfl (lv_at hl 0 rfl) ?_
    rw [if_pos hc1] at hR
    subst hR
    exact W.iret (v := (nI ((f_Mo_find ti n j t).toNatClampNeg))) hx hb hr (fun t9 ht hW => ⟨rfl, hS.F ht, by rw [ht]; exact hP⟩) hS.2.2 d_Md_asked_34
  · rw [show oI (¬ (f_Mo_find ti n j t) = -1) ((f_Mo_find ti n j t).toNatClampNeg) = -1 from if_neg hc1]
    refine lv_istore_n (lv' := [(3, .int (-1)), (0, .ref a), (1, .int (nI j)), (2, .int t)]) hx hb d_Md_asked_19 rfl hl (by decide) rfl (fun ls hl => ?_)
    refine lv_aload_n hx hb d_Md_asked_20 rfl (lv_at hl 1 rfl) ?_
    refine lv_iload_n hx hb d_Md_asked_21 rfl (lv_at hl 0 rfl) ?_
    refine lv_if_ge (tgt := 29) hx hb d_Md_asked_22 (by decide) (fun hc => False.elim (by revert hc; decide)) (fun hc => ?_)
    refine lv_iconst (v := 3) hx hb d_Md_asked_25 (by decide) ?_
    refine lv_goto (tgt := 30) hx hb d_Md_asked_26 (by decide) ?_
    refine va_put (D := D) (ci := 9) (v := .int 3) (ty := .int) (C := R_Md) (T := F_Md) (N := 17) hx hb hg in_Md t_Md t_Md_ok n_Md hown hK hP hD hS 0 rfl rfl 0 (Nat.le_of_ble_eq_true rfl) (hg _ tw_706) (fun _ h9 => h9) rfl (by decide +kernel) rfl rfl (Nat.le_of_ble_eq_true rfl) d_Md_asked_30 (fun H locs hP hD hS => ?_)
    have hP : va_P D cls (wMo cI cJ cZ a 3 kn ed ct ti nm xa xb ((f_Mo_isNotFor_5_63 ti xa xb it vs se rs wk n j t).1) ((f_Mo_isNotFor_5_63 ti xa xb it vs se rs wk n j t).2.1) ((f_Mo_isNotFor_5_63 ti xa xb it vs se rs wk n j t).2.2.1) ((f_Mo_isNotFor_5_63 ti xa xb it vs se rs wk n j t).2.2.2.1) ((f_Mo_isNotFor_5_63 ti xa xb it vs se rs wk n j t).2.2.2.2.1) ((f_Mo_isNotFor_5_63 ti xa xb it vs se rs wk n j t).2.2.2.2.2.1) ((f_Mo_isNotFor_5_63 ti xa xb it vs se rs wk n j t).2.2.2.2.2.2) ors owk) H := hP
    have hD : va_D (blk a 15) (wMo cI cJ cZ a 3 kn ed ct ti nm xa xb ((f_Mo_isNotFor_5_63 ti xa xb it vs se rs wk n j t).1) ((f_Mo_isNotFor_5_63 ti xa xb it vs se rs wk n j t).2.1) ((f_Mo_isNotFor_5_63 ti xa xb it vs se rs wk n j t).2.2.1) ((f_Mo_isNotFor_5_63 ti xa xb it vs se rs wk n j t).2.2.2.1) ((f_Mo_isNotFor_5_63 ti xa xb it vs se rs wk n j t).2.2.2.2.1) ((f_Mo_isNotFor_5_63 ti xa xb it vs se rs wk n j t).2.2.2.2.2.1) ((f_Mo_isNotFor_5_63 ti xa xb it vs se rs wk n j t).2.2.2.2.2.2) ors owk) := hD
    refine lv_iload_n hx hb d_Md_asked_33 rfl (lv_at hl 0 rfl) ?_
    rw [if_neg hc1] at hR
    subst hR
    exact W.iret (v := (-1)) hx hb hr (fun t9 ht hW => ⟨rfl, hS.F ht, by rw [ht]; exact hP⟩) hS.2.2 d_Md_asked_34
