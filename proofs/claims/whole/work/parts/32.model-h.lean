/-! contracts of EditablePastModel (by wip/whole/gen/model.py) -/
def f_Mo_effective_e (kn : Nat → Int32) (j : Nat) (t : Int32) (u : Int32) : Int32 := ((f_Mo_lacksTwo kn j t u).2)
set_option maxHeartbeats 4000000 in
set_option maxRecDepth 100000 in
theorem m_Mo_effective_e (l : Launch) (D : va_G) (cI cJ cZ cO : ClassId) (a : Nat) (code : Int32) (kn : Nat → Int32) (ed : Nat → Int32) (ct : Nat → Int32) (ti : Nat → Int32) (nm : Nat → Int32) (xa : Nat → Int32) (xb : Nat → Int32) (ma : Int32) (it : Nat → Int32) (vs : Nat → Int32) (se : Nat → Int32) (sm : Int64) (rs : Nat → Int64) (wk : Nat → Int32) (ors : Nat → Int64) (owk : Nat → Int32) (j : Nat) (t : Int32) (u : Int32) (hj : j < 4) (hlk : ¬ (f_Mo_lacksTwo kn j t u).1 = 0) (R : Int32) (hR : f_Mo_effective_e kn j t u = R) : Met l y_Md_effective (k_Md_effective :: gt) rm_Md_effective (Pc0 D cI cJ cZ cO [.ref a, .int (nI j), .int t, .int u] (fun H => va_P D cls (wMo cI cJ cZ a code kn ed ct ti nm xa xb ma it vs se sm rs wk ors owk) H)) (Qd (blk a 15) (some (.int 0)) (fun H => va_P D cls (wMo cI cJ cZ a R kn ed ct ti nm xa xb ma it vs se sm rs wk ors owk) H)) 0 0 (blk a 15) := by
  refine Met.ofW (cc := c_Md_effective) (maxL := 7) (ret := (Option.some FieldType.int)) (by decide) rfl ?_
  intro p e s m args below meth c s₁ B hml hv
  obtain ⟨rfl, hKn, hP⟩ := hv
  have hx := B.exec
  have hb := B.bytes
  have hr := B.returns
  have hts := atoms_spec (ws := k_Md_effective :: gt) B.pre
  have hg : ∀ w ∈ gt, w.before _ s = true := fun w h => hts w (List.mem_cons_of_mem _ h)
  have hown : s.vm.findClass R_Md = some m.cls := findClass_of_methodNamed B.named
  have hlocks := B.notSynchronized
  have hK := hKn.1
  have hl := lv_entry ([.ref a, .int (nI j), .int t, .int u]) (n := 7) (Nat.le_of_ble_eq_true rfl)
  rw [lg_entry_eq]
  generalize (lg_sl ([.ref a, .int (nI j), .int t, .int u]) ++ List.replicate (7 - (lg_sl ([.ref a, .int (nI j), .int t, .int u])).length) Slot.unset).toArray = ls at hl ⊢
  have hl : lv_has ls 7 [(0, .ref a), (1, .int (nI j)), (2, .int t), (3, .int u)] := hl
  have hS : va_S (blk a 15) s.heap s.heap [] := va_S.rf
  have hD : va_D (blk a 15) (wMo cI cJ cZ a code kn ed ct ti nm xa xb ma it vs se sm rs wk ors owk) := (blk_D (wMo_in))
  have hR : (((f_Mo_lacksTwo kn j t u).2)) = R := hR
  refine lv_aload_n hx hb d_Md_effective_0 rfl (lv_at hl 0 rfl) ?_
  refine lv_iload_n hx hb d_Md_effective_1 rfl (lv_at hl 1 rfl) ?_
  refine lv_iload_n hx hb d_Md_effective_2 rfl (lv_at hl 2 rfl) ?_
  refine lv_iload_n hx hb d_Md_effective_3 rfl (lv_at hl 3 rfl) ?_
  refine ep_callH (W.runV (As := [.int (nI j), .int t, .int u]) (rest := []) ⟨hx, hb, hml, hown, hg⟩ (m_Mo_lacksTwo l D cI cJ cZ cO a code kn ed ct ti nm xa xb ma it vs se sm rs wk ors owk j t u (by omega) _ rfl) (ep_cwV 3 hg tw_896 tw_898 ts_25 tw_12 tk_Md_lacksTwo rfl rfl (by decide +kernel) ⟨(Nat.le_of_ble_eq_true rfl), (Nat.le_of_ble_eq_true rfl)⟩) ⟨ep_blind, va_recv (q0 := 0) (ci := 9) hK hP rfl rfl, ep_pre hKn (hP)⟩ rfl rfl hl.1 rfl (lv_room (Nat.le_of_ble_eq_true rfl)) d_Md_effective_4 ⟨Nat.zero_le _, Nat.zero_le _⟩) hS (fun q h => h) (fun H locs hsz9 hk1 hP1 hS => ?_)
  refine W.eq (g2 := F0 m 7 ls [.int ((f_Mo_lacksTwo kn j t u).1)]) rfl ?_
  have hP : va_P D cls (wMo cI cJ cZ a ((f_Mo_lacksTwo kn j t u).2) kn ed ct ti nm xa xb ma it vs se sm rs wk ors owk) H := hP1
  have hD : va_D (blk a 15) (wMo cI cJ cZ a ((f_Mo_lacksTwo kn j t u).2) kn ed ct ti nm xa xb ma it vs se sm rs wk ors owk) := (blk_D (wMo_in))
  refine lv_if_eq (tgt := 12) hx hb d_Md_effective_7 (by decide) (fun hc => absurd hc hlk) (fun hc => ?_)
  refine lv_iconst (v := 0) hx hb d_Md_effective_10 (by decide) ?_
  subst hR
  exact W.iret (v := 0) hx hb hr (fun t9 ht hW => ⟨rfl, hS.F ht, by rw [ht]; exact hP⟩) hS.2.2 d_Md_effective_11

def f_Mo_effective_b  : Int32 := f_Mo_lacksTwo_b.2
set_option maxHeartbeats 4000000 in
set_option maxRecDepth 100000 in
theorem m_Mo_effective_b (l : Launch) (D : va_G) (cI cJ cZ cO : ClassId) (a : Nat) (code : Int32) (kn : Nat → Int32) (ed : Nat → Int32) (ct : Nat → Int32) (ti : Nat → Int32) (nm : Nat → Int32) (xa : Nat → Int32) (xb : Nat → Int32) (ma : Int32) (it : Nat → Int32) (vs : Nat → Int32) (se : Nat → Int32) (sm : Int64) (rs : Nat → Int64) (wk : Nat → Int32) (ors : Nat → Int64) (owk : Nat → Int32) (id : Int32) (t : Int32) (u : Int32) (hid : ¬ okI id) (R : Int32) (hR : f_Mo_effective_b = R) : Met l y_Md_effective (k_Md_effective :: gt) rm_Md_effective (Pc0 D cI cJ cZ cO [.ref a, .int id, .int t, .int u] (fun H => va_P D cls (wMo cI cJ cZ a code kn ed ct ti nm xa xb ma it vs se sm rs wk ors owk) H)) (Qd (blk a 15) (some (.int 0)) (fun H => va_P D cls (wMo cI cJ cZ a R kn ed ct ti nm xa xb ma it vs se sm rs wk ors owk) H)) 0 0 (blk a 15) := by
  refine Met.ofW (cc := c_Md_effective) (maxL := 7) (ret := (Option.some FieldType.int)) (by decide) rfl ?_
  intro p e s m args below meth c s₁ B hml hv
  obtain ⟨rfl, hKn, hP⟩ := hv
  have hx := B.exec
  have hb := B.bytes
  have hr := B.returns
  have hts := atoms_spec (ws := k_Md_effective :: gt) B.pre
  have hg : ∀ w ∈ gt, w.before _ s = true := fun w h => hts w (List.mem_cons_of_mem _ h)
  have hown : s.vm.findClass R_Md = some m.cls := findClass_of_methodNamed B.named
  have hlocks := B.notSynchronized
  have hK := hKn.1
  have hl := lv_entry ([.ref a, .int id, .int t, .int u]) (n := 7) (Nat.le_of_ble_eq_true rfl)
  rw [lg_entry_eq]
  generalize (lg_sl ([.ref a, .int id, .int t, .int u]) ++ List.replicate (7 - (lg_sl ([.ref a, .int id, .int t, .int u])).length) Slot.unset).toArray = ls at hl ⊢
  have hl : lv_has ls 7 [(0, .ref a), (1, .int id), (2, .int t), (3, .int u)] := hl
  have hS : va_S (blk a 15) s.heap s.heap [] := va_S.rf
  have hD : va_D (blk a 15) (wMo cI cJ cZ a code kn ed ct ti nm xa xb ma it vs se sm rs wk ors owk) := (blk_D (wMo_in))
  have hR : (f_Mo_lacksTwo_b.2) = R := hR
  refine lv_aload_n hx hb d_Md_effective_0 rfl (lv_at hl 0 rfl) ?_
  refine lv_iload_n hx hb d_Md_effective_1 rfl (lv_at hl 1 rfl) ?_
  refine lv_iload_n hx hb d_Md_effective_2 rfl (lv_at hl 2 rfl) ?_
  refine lv_iload_n hx hb d_Md_effective_3 rfl (lv_at hl 3 rfl) ?_
  refine ep_callH (W.runV (As := [.int id, .int t, .int u]) (rest := []) ⟨hx, hb, hml, hown, hg⟩ (m_Mo_lacksTwo_b l D cI cJ cZ cO a code kn ed ct ti nm xa xb ma it vs se sm rs wk ors owk id t u hid _ rfl) (ep_cwV 3 hg tw_896 tw_898 ts_25 tw_12 tk_Md_lacksTwo rfl rfl (by decide +kernel) ⟨(Nat.le_of_ble_eq_true rfl), (Nat.le_of_ble_eq_true rfl)⟩) ⟨ep_blind, va_recv (q0 := 0) (ci := 9) hK hP rfl rfl, ep_pre hKn (hP)⟩ rfl rfl hl.1 rfl (lv_room (Nat.le_of_ble_eq_true rfl)) d_Md_effective_4 ⟨Nat.zero_le _, Nat.zero_le _⟩) hS (fun q h => h) (fun H locs hsz9 hk1 hP1 hS => ?_)
  refine W.eq (g2 := F0 m 7 ls [.int f_Mo_lacksTwo_b.1]) rfl ?_
  have hP : va_P D cls (wMo cI cJ cZ a f_Mo_lacksTwo_b.2 kn ed ct ti nm xa xb ma it vs se sm rs wk ors owk) H := hP1
  have hD : va_D (blk a 15) (wMo cI cJ cZ a f_Mo_lacksTwo_b.2 kn ed ct ti nm xa xb ma it vs se sm rs wk ors owk) := (blk_D (wMo_in))
  refine lv_topi (fun z9 e_z9 => ?_)
  obtain rfl : z9 = 1 := by rw [e_z9]; exact rfl
  refine lv_if_eq (tgt := 12) hx hb d_Md_effective_7 (by decide) (fun hc => False.elim (by revert hc; decide)) (fun hc => ?_)
  refine lv_iconst (v := 0) hx hb d_Md_effective_10 (by decide) ?_
  subst hR
  exact W.iret (v := 0) hx hb hr (fun t9 ht hW => ⟨rfl, hS.F ht, by rw [ht]; exact hP⟩) hS.2.2 d_Md_effective_11

def f_Mo_firstChange_e (kn : Nat → Int32) (j : Nat) (t : Int32) (u : Int32) : Int32 := ((f_Mo_lacksTwo kn j t u).2)
set_option maxHeartbeats 4000000 in
set_option maxRecDepth 100000 in
theorem m_Mo_firstChange_e (l : Launch) (D : va_G) (cI cJ cZ cO : ClassId) (a : Nat) (code : Int32) (kn : Nat → Int32) (ed : Nat → Int32) (ct : Nat → Int32) (ti : Nat → Int32) (nm : Nat → Int32) (xa : Nat → Int32) (xb : Nat → Int32) (ma : Int32) (it : Nat → Int32) (vs : Nat → Int32) (se : Nat → Int32) (sm : Int64) (rs : Nat → Int64) (wk : Nat → Int32) (ors : Nat → Int64) (owk : Nat → Int32) (j : Nat) (t : Int32) (u : Int32) (hj : j < 4) (hlk : ¬ (f_Mo_lacksTwo kn j t u).1 = 0) (R : Int32) (hR : f_Mo_firstChange_e kn j t u = R) : Met l y_Md_firstChange (k_Md_firstChange :: gt) rm_Md_firstChange (Pc0 D cI cJ cZ cO [.ref a, .int (nI j), .int t, .int u] (fun H => va_P D cls (wMo cI cJ cZ a code kn ed ct ti nm xa xb ma it vs se sm rs wk ors owk) H)) (Qd (blk a 15) (some (.int 0)) (fun H => va_P D cls (wMo cI cJ cZ a R kn ed ct ti nm xa xb ma it vs se sm rs wk ors owk) H)) 0 0 (blk a 15) := by
  refine Met.ofW (cc := c_Md_firstChange) (maxL := 9) (ret := (Option.some FieldType.int)) (by decide) rfl ?_
  intro p e s m args below meth c s₁ B hml hv
  obtain ⟨rfl, hKn, hP⟩ := hv
  have hx := B.exec
  have hb := B.bytes
  have hr := B.returns
  have hts := atoms_spec (ws := k_Md_firstChange :: gt) B.pre
  have hg : ∀ w ∈ gt, w.before _ s = true := fun w h => hts w (List.mem_cons_of_mem _ h)
  have hown : s.vm.findClass R_Md = some m.cls := findClass_of_methodNamed B.named
  have hlocks := B.notSynchronized
  have hK := hKn.1
  have hl := lv_entry ([.ref a, .int (nI j), .int t, .int u]) (n := 9) (Nat.le_of_ble_eq_true rfl)
  rw [lg_entry_eq]
  generalize (lg_sl ([.ref a, .int (nI j), .int t, .int u]) ++ List.replicate (9 - (lg_sl ([.ref a, .int (nI j), .int t, .int u])).length) Slot.unset).toArray = ls at hl ⊢
  have hl : lv_has ls 9 [(0, .ref a), (1, .int (nI j)), (2, .int t), (3, .int u)] := hl
  have hS : va_S (blk a 15) s.heap s.heap [] := va_S.rf
  have hD : va_D (blk a 15) (wMo cI cJ cZ a code kn ed ct ti nm xa xb ma it vs se sm rs wk ors owk) := (blk_D (wMo_in))
  have hR : (((f_Mo_lacksTwo kn j t u).2)) = R := hR
  refine lv_aload_n hx hb d_Md_firstChange_0 rfl (lv_at hl 0 rfl) ?_
  refine lv_iload_n hx hb d_Md_firstChange_1 rfl (lv_at hl 1 rfl) ?_
  refine lv_iload_n hx hb d_Md_firstChange_2 rfl (lv_at hl 2 rfl) ?_
  refine lv_iload_n hx hb d_Md_firstChange_3 rfl (lv_at hl 3 rfl) ?_
  refine ep_callH (W.runV (As := [.int (nI j), .int t, .int u]) (rest := []) ⟨hx, hb, hml, hown, hg⟩ (m_Mo_lacksTwo l D cI cJ cZ cO a code kn ed ct ti nm xa xb ma it vs se sm rs wk ors owk j t u (by omega) _ rfl) (ep_cwV 3 hg tw_896 tw_898 ts_25 tw_12 tk_Md_lacksTwo rfl rfl (by decide +kernel) ⟨(Nat.le_of_ble_eq_true rfl), (Nat.le_of_ble_eq_true rfl)⟩) ⟨ep_blind, va_recv (q0 := 0) (ci := 9) hK hP rfl rfl, ep_pre hKn (hP)⟩ rfl rfl hl.1 rfl (lv_room (Nat.le_of_ble_eq_true rfl)) d_Md_firstChange_4 ⟨Nat.zero_le _, Nat.zero_le _⟩) hS (fun q h => h) (fun H locs hsz9 hk1 hP1 hS => ?_)
  refine W.eq (g2 := F0 m 7 ls [.int ((f_Mo_lacksTwo kn j t u).1)]) rfl ?_
  have hP : va_P D cls (wMo cI cJ cZ a ((f_Mo_lacksTwo kn j t u).2) kn ed ct ti nm xa xb ma it vs se sm rs wk ors owk) H := hP1
  have hD : va_D (blk a 15) (wMo cI cJ cZ a ((f_Mo_lacksTwo kn j t u).2) kn ed ct ti nm xa xb ma it vs se sm rs wk ors owk) := (blk_D (wMo_in))
  refine lv_if_ne (tgt := 19) hx hb d_Md_firstChange_7 (by decide) (fun hc => ?_) (fun hc => absurd hc hlk)
  refine lv_iconst (v := 0) hx hb d_Md_firstChange_19 (by decide) ?_
  subst hR
  exact W.iret (v := 0) hx hb hr (fun t9 ht hW => ⟨rfl, hS.F ht, by rw [ht]; exact hP⟩) hS.2.2 d_Md_firstChange_20

def f_Mo_firstChange_b  : Int32 := f_Mo_lacksTwo_b.2
set_option maxHeartbeats 4000000 in
set_option maxRecDepth 100000 in
theorem m_Mo_firstChange_b (l : Launch) (D : va_G) (cI cJ cZ cO : ClassId) (a : Nat) (code : Int32) (kn : Nat → Int32) (ed : Nat → Int32) (ct : Nat → Int32) (ti : Nat → Int32) (nm : Nat → Int32) (xa : Nat → Int32) (xb : Nat → Int32) (ma : Int32) (it : Nat → Int32) (vs : Nat → Int32) (se : Nat → Int32) (sm : Int64) (rs : Nat → Int64) (wk : Nat → Int32) (ors : Nat → Int64) (owk : Nat → Int32) (id : Int32) (t : Int32) (u : Int32) (hid : ¬ okI id) (R : Int32) (hR : f_Mo_firstChange_b = R) : Met l y_Md_firstChange (k_Md_firstChange :: gt) rm_Md_firstChange (Pc0 D cI cJ cZ cO [.ref a, .int id, .int t, .int u] (fun H => va_P D cls (wMo cI cJ cZ a code kn ed ct ti nm xa xb ma it vs se sm rs wk ors owk) H)) (Qd (blk a 15) (some (.int 0)) (fun H => va_P D cls (wMo cI cJ cZ a R kn ed ct ti nm xa xb ma it vs se sm rs wk ors owk) H)) 0 0 (blk a 15) := by
  refine Met.ofW (cc := c_Md_firstChange) (maxL := 9) (ret := (Option.some FieldType.int)) (by decide) rfl ?_
  intro p e s m args below meth c s₁ B hml hv
  obtain ⟨rfl, hKn, hP⟩ := hv
  have hx := B.exec
  have hb := B.bytes
  have hr := B.returns
  have hts := atoms_spec (ws := k_Md_firstChange :: gt) B.pre
  have hg : ∀ w ∈ gt, w.before _ s = true := fun w h => hts w (List.mem_cons_of_mem _ h)
  have hown : s.vm.findClass R_Md = some m.cls := findClass_of_methodNamed B.named
  have hlocks := B.notSynchronized
  have hK := hKn.1
  have hl := lv_entry ([.ref a, .int id, .int t, .int u]) (n := 9) (Nat.le_of_ble_eq_true rfl)
  rw [lg_entry_eq]
  generalize (lg_sl ([.ref a, .int id, .int t, .int u]) ++ List.replicate (9 - (lg_sl ([.ref a, .int id, .int t, .int u])).length) Slot.unset).toArray = ls at hl ⊢
  have hl : lv_has ls 9 [(0, .ref a), (1, .int id), (2, .int t), (3, .int u)] := hl
  have hS : va_S (blk a 15) s.heap s.heap [] := va_S.rf
  have hD : va_D (blk a 15) (wMo cI cJ cZ a code kn ed ct ti nm xa xb ma it vs se sm rs wk ors owk) := (blk_D (wMo_in))
  have hR : (f_Mo_lacksTwo_b.2) = R := hR
  refine lv_aload_n hx hb d_Md_firstChange_0 rfl (lv_at hl 0 rfl) ?_
  refine lv_iload_n hx hb d_Md_firstChange_1 rfl (lv_at hl 1 rfl) ?_
  refine lv_iload_n hx hb d_Md_firstChange_2 rfl (lv_at hl 2 rfl) ?_
  refine lv_iload_n hx hb d_Md_firstChange_3 rfl (lv_at hl 3 rfl) ?_
  refine ep_callH (W.runV (As := [.int id, .int t, .int u]) (rest := []) ⟨hx, hb, hml, hown, hg⟩ (m_Mo_lacksTwo_b l D cI cJ cZ cO a code kn ed ct ti nm xa xb ma it vs se sm rs wk ors owk id t u hid _ rfl) (ep_cwV 3 hg tw_896 tw_898 ts_25 tw_12 tk_Md_lacksTwo rfl rfl (by decide +kernel) ⟨(Nat.le_of_ble_eq_true rfl), (Nat.le_of_ble_eq_true rfl)⟩) ⟨ep_blind, va_recv (q0 := 0) (ci := 9) hK hP rfl rfl, ep_pre hKn (hP)⟩ rfl rfl hl.1 rfl (lv_room (Nat.le_of_ble_eq_true rfl)) d_Md_firstChange_4 ⟨Nat.zero_le _, Nat.zero_le _⟩) hS (fun q h => h) (fun H locs hsz9 hk1 hP1 hS => ?_)
  refine W.eq (g2 := F0 m 7 ls [.int f_Mo_lacksTwo_b.1]) rfl ?_
  have hP : va_P D cls (wMo cI cJ cZ a f_Mo_lacksTwo_b.2 kn ed ct ti nm xa xb ma it vs se sm rs wk ors owk) H := hP1
  have hD : va_D (blk a 15) (wMo cI cJ cZ a f_Mo_lacksTwo_b.2 kn ed ct ti nm xa xb ma it vs se sm rs wk ors owk) := (blk_D (wMo_in))
  refine lv_topi (fun z9 e_z9 => ?_)
  obtain rfl : z9 = 1 := by rw [e_z9]; exact rfl
  refine lv_if_ne (tgt := 19) hx hb d_Md_firstChange_7 (by decide) (fun hc => ?_) (fun hc => False.elim (by revert hc; decide))
  refine lv_iconst (v := 0) hx hb d_Md_firstChange_19 (by decide) ?_
  subst hR
  exact W.iret (v := 0) hx hb hr (fun t9 ht hW => ⟨rfl, hS.F ht, by rw [ht]; exact hP⟩) hS.2.2 d_Md_firstChange_20

def f_Mo_firstChange_n (kn : Nat → Int32) (j : Nat) (t : Int32) (u : Int32) : Int32 := ((f_Mo_lacksTwo kn j t u).2)
set_option maxHeartbeats 4000000 in
set_option maxRecDepth 100000 in
theorem m_Mo_firstChange_n (l : Launch) (D : va_G) (cI cJ cZ cO : ClassId) (a : Nat) (code : Int32) (kn : Nat → Int32) (ed : Nat → Int32) (ct : Nat → Int32) (ti : Nat → Int32) (nm : Nat → Int32) (xa : Nat → Int32) (xb : Nat → Int32) (ma : Int32) (it : Nat → Int32) (vs : Nat → Int32) (se : Nat → Int32) (sm : Int64) (rs : Nat → Int64) (wk : Nat → Int32) (ors : Nat → Int64) (owk : Nat → Int32) (j : Nat) (t : Int32) (u : Int32) (hj : j < 4) (hlk : (f_Mo_lacksTwo kn j t u).1 = 0) (hed : ed j = 0) (R : Int32) (hR : f_Mo_firstChange_n kn j t u = R) : Met l y_Md_firstChange (k_Md_firstChange :: gt) rm_Md_firstChange (Pc0 D cI cJ cZ cO [.ref a, .int (nI j), .int t, .int u] (fun H => va_P D cls (wMo cI cJ cZ a code kn ed ct ti nm xa xb ma it vs se sm rs wk ors owk) H)) (Qd (blk a 15) (some (.int 0)) (fun H => va_P D cls (wMo cI cJ cZ a R kn ed ct ti nm xa xb ma it vs se sm rs wk ors owk) H)) 0 0 (blk a 15) := by
  refine Met.ofW (cc := c_Md_firstChange) (maxL := 9) (ret := (Option.some FieldType.int)) (by decide) rfl ?_
  intro p e s m args below meth c s₁ B hml hv
  obtain ⟨rfl, hKn, hP⟩ := hv
  have hx := B.exec
  have hb := B.bytes
  have hr := B.returns
  have hts := atoms_spec (ws := k_Md_firstChange :: gt) B.pre
  have hg : ∀ w ∈ gt, w.before _ s = true := fun w h => hts w (List.mem_cons_of_mem _ h)
  have hown : s.vm.findClass R_Md = some m.cls := findClass_of_methodNamed B.named
  have hlocks := B.notSynchronized
  have hK := hKn.1
  have hl := lv_entry ([.ref a, .int (nI j), .int t, .int u]) (n := 9) (Nat.le_of_ble_eq_true rfl)
  rw [lg_entry_eq]
  generalize (lg_sl ([.ref a, .int (nI j), .int t, .int u]) ++ List.replicate (9 - (lg_sl ([.ref a, .int (nI j), .int t, .int u])).length) Slot.unset).toArray = ls at hl ⊢
  have hl : lv_has ls 9 [(0, .ref a), (1, .int (nI j)), (2, .int t), (3, .int u)] := hl
  have hS : va_S (blk a 15) s.heap s.heap [] := va_S.rf
  have hD : va_D (blk a 15) (wMo cI cJ cZ a code kn ed ct ti nm xa xb ma it vs se sm rs wk ors owk) := (blk_D (wMo_in))
  have hR : (((f_Mo_lacksTwo kn j t u).2)) = R := hR
  refine lv_aload_n hx hb d_Md_firstChange_0 rfl (lv_at hl 0 rfl) ?_
  refine lv_iload_n hx hb d_Md_firstChange_1 rfl (lv_at hl 1 rfl) ?_
  refine lv_iload_n hx hb d_Md_firstChange_2 rfl (lv_at hl 2 rfl) ?_
  refine lv_iload_n hx hb d_Md_firstChange_3 rfl (lv_at hl 3 rfl) ?_
  refine ep_callH (W.runV (As := [.int (nI j), .int t, .int u]) (rest := []) ⟨hx, hb, hml, hown, hg⟩ (m_Mo_lacksTwo l D cI cJ cZ cO a code kn ed ct ti nm xa xb ma it vs se sm rs wk ors owk j t u (by omega) _ rfl) (ep_cwV 3 hg tw_896 tw_898 ts_25 tw_12 tk_Md_lacksTwo rfl rfl (by decide +kernel) ⟨(Nat.le_of_ble_eq_true rfl), (Nat.le_of_ble_eq_true rfl)⟩) ⟨ep_blind, va_recv (q0 := 0) (ci := 9) hK hP rfl rfl, ep_pre hKn (hP)⟩ rfl rfl hl.1 rfl (lv_room (Nat.le_of_ble_eq_true rfl)) d_Md_firstChange_4 ⟨Nat.zero_le _, Nat.zero_le _⟩) hS (fun q h => h) (fun H locs hsz9 hk1 hP1 hS => ?_)
  refine W.eq (g2 := F0 m 7 ls [.int ((f_Mo_lacksTwo kn j t u).1)]) rfl ?_
  have hP : va_P D cls (wMo cI cJ cZ a ((f_Mo_lacksTwo kn j t u).2) kn ed ct ti nm xa xb ma it vs se sm rs wk ors owk) H := hP1
  have hD : va_D (blk a 15) (wMo cI cJ cZ a ((f_Mo_lacksTwo kn j t u).2) kn ed ct ti nm xa xb ma it vs se sm rs wk ors owk) := (blk_D (wMo_in))
  refine lv_if_ne (tgt := 19) hx hb d_Md_firstChange_7 (by decide) (fun hc => absurd hlk hc) (fun hc => ?_)
  refine lv_aload_n hx hb d_Md_firstChange_10 rfl (lv_at hl 0 rfl) ?_
  refine va_get (D := D) (ci := 9) (v := .ref (a + 2)) (C := R_Md) (T := F_Md) (N := 17) hx hb hg in_Md hown hK hP 0 rfl rfl 2 (Nat.le_of_ble_eq_true rfl) (hg _ tw_708) (fun _ h9 => h9) rfl d_Md_firstChange_11 ?_
  refine lv_iload_n hx hb d_Md_firstChange_14 rfl (lv_at hl 1 rfl) ?_
  refine ep_zald hx hb hK hP 2 2 rfl rfl (i := j) (by omega) (by decide) d_Md_firstChange_15 ?_
  refine lv_if_ne (tgt := 21) hx hb d_Md_firstChange_16 (by decide) (fun hc => absurd hed hc) (fun hc => ?_)
  refine lv_iconst (v := 0) hx hb d_Md_firstChange_19 (by decide) ?_
  subst hR
  exact W.iret (v := 0) hx hb hr (fun t9 ht hW => ⟨rfl, hS.F ht, by rw [ht]; exact hP⟩) hS.2.2 d_Md_firstChange_20

def g_Mo_effective_0_29 (kn : Nat → Int32) (ti : Nat → Int32) (j : Nat) (t : Int32) (u : Int32) : Nat → Nat → Nat → Nat → (Nat → Int32) → (Nat → Int32) → (Nat → Int32) → Int64 → (Nat → Int64) → (Nat → Int32) → Nat × Int32 × Nat × (Nat → Int32) × (Nat → Int32) × (Nat → Int32) × Int64 × (Nat → Int64) × (Nat → Int32)
  | 0, i, c9, mc, it, vs, se, sm, rs, wk => (c9, (f_Mo_lacksTwo kn j t u).2, mc, it, vs, se, sm, rs, wk)
  | k + 1, i, c9, mc, it, vs, se, sm, rs, wk => if (ti (32 * j + i)) < t then (g_Mo_effective_0_29 kn ti j t u k (i + 1) (c9 + 0) mc it vs se sm rs wk) else (if u < (ti (32 * j + i)) then (g_Mo_effective_0_29 kn ti j t u k (i + 1) (c9 + 0) mc it vs se sm rs wk) else (if (wk i) = 0 then (g_Mo_effective_0_29 kn ti j t u k (i + 1) (c9 + 0) mc it vs se sm rs wk) else (g_Mo_effective_0_29 kn ti j t u k (i + 1) (c9 + 1) mc it vs se sm rs wk)))

def f_Mo_effective_0 (kn : Nat → Int32) (ti : Nat → Int32) (nm : Nat → Int32) (xa : Nat → Int32) (it : Nat → Int32) (vs : Nat → Int32) (se : Nat → Int32) (rs : Nat → Int64) (wk : Nat → Int32) (n : Nat) (j : Nat) (t : Int32) (u : Int32) : Nat × Int32 × Nat × (Nat → Int32) × (Nat → Int32) × (Nat → Int32) × Int64 × (Nat → Int64) × (Nat → Int32) := g_Mo_effective_0_29 kn ti j t u n 0 0 ((f_Mo_run_0 ti nm xa it vs se rs wk n j u).1) ((f_Mo_run_0 ti nm xa it vs se rs wk n j u).2.1) ((f_Mo_run_0 ti nm xa it vs se rs wk n j u).2.2.1) ((f_Mo_run_0 ti nm xa it vs se rs wk n j u).2.2.2.1) ((f_Mo_run_0 ti nm xa it vs se rs wk n j u).2.2.2.2.1) ((f_Mo_run_0 ti nm xa it vs se rs wk n j u).2.2.2.2.2.1) ((f_Mo_run_0 ti nm xa it vs se rs wk n j u).2.2.2.2.2.2)
set_option maxHeartbeats 4000000 in
set_option maxRecDepth 100000 in
theorem m_Mo_effective_0 (l : Launch) (D : va_G) (cI cJ cZ cO : ClassId) (a : Nat) (code : Int32) (kn : Nat → Int32) (ed : Nat → Int32) (ct : Nat → Int32) (ti : Nat → Int32) (nm : Nat → Int32) (xa : Nat → Int32) (xb : Nat → Int32) (ma : Int32) (it : Nat → Int32) (vs : Nat → Int32) (se : Nat → Int32) (sm : Int64) (rs : Nat → Int64) (wk : Nat → Int32) (ors : Nat → Int64) (owk : Nat → Int32) (n : Nat) (j : Nat) (t : Int32) (u : Int32) (hj : j < 4) (hlk : (f_Mo_lacksTwo kn j t u).1 = 0) (hk : kn j = 1) (hct : ct j = nI n) (hn : n ≤ 32) (R : Nat × Int32 × Nat × (Nat → Int32) × (Nat → Int32) × (Nat → Int32) × Int64 × (Nat → Int64) × (Nat → Int32)) (hR : f_Mo_effective_0 kn ti nm xa it vs se rs wk n j t u = R) : Met l y_Md_effective (k_Md_effective :: gt) rm_Md_effective (Pc0 D cI cJ cZ cO [.ref a, .int (nI j), .int t, .int u] (fun H => va_P D cls (wMo cI cJ cZ a code kn ed ct ti nm xa xb ma it vs se sm rs wk ors owk) H)) (Qd (blk a 15) (some (.int (nI R.1))) (fun H => va_P D cls (wMo cI cJ cZ a R.2.1 kn ed ct ti nm xa xb (nI R.2.2.1) R.2.2.2.1 R.2.2.2.2.1 R.2.2.2.2.2.1 R.2.2.2.2.2.2.1 R.2.2.2.2.2.2.2.1 R.2.2.2.2.2.2.2.2 ors owk) H)) 0 0 (blk a 15) := by
  refine Met.ofW (cc := c_Md_effective) (maxL := 7) (ret := (Option.some FieldType.int)) (by decide) rfl ?_
  intro p e s m args below meth c s₁ B hml hv
  obtain ⟨rfl, hKn, hP⟩ := hv
  have hx := B.exec
  have hb := B.bytes
  have hr := B.returns
  have hts := atoms_spec (ws := k_Md_effective :: gt) B.pre
  have hg : ∀ w ∈ gt, w.before _ s = true := fun w h => hts w (List.mem_cons_of_mem _ h)
  have hown : s.vm.findClass R_Md = some m.cls := findClass_of_methodNamed B.named
  have hlocks := B.notSynchronized
  have hK := hKn.1
  have hl := lv_entry ([.ref a, .int (nI j), .int t, .int u]) (n := 7) (Nat.le_of_ble_eq_true rfl)
  rw [lg_entry_eq]
  generalize (lg_sl ([.ref a, .int (nI j), .int t, .int u]) ++ List.replicate (7 - (lg_sl ([.ref a, .int (nI j), .int t, .int u])).length) Slot.unset).toArray = ls at hl ⊢
  have hl : lv_has ls 7 [(0, .ref a), (1, .int (nI j)), (2, .int t), (3, .int u)] := hl
  have hS : va_S (blk a 15) s.heap s.heap [] := va_S.rf
  have hD : va_D (blk a 15) (wMo cI cJ cZ a code kn ed ct ti nm xa xb ma it vs se sm rs wk ors owk) := (blk_D (wMo_in))
  have key_29 : ∀ (k : Nat) (i : Nat) (c9 : Nat) (mc : Nat) (it : Nat → Int32) (vs : Nat → Int32) (se : Nat → Int32) (sm : Int64) (rs : Nat → Int64) (wk : Nat → Int32) (H : Heap) (locs : List Loc) (ls : Array Slot), i + k = n → g_Mo_effective_0_29 kn ti j t u k i c9 mc it vs se sm rs wk = R → lv_has ls 7 [(5, .int (nI i)), (4, .int (nI c9)), (0, .ref a), (1, .int (nI j)), (2, .int t), (3, .int u)] → va_P D cls (wMo cI cJ cZ a ((f_Mo_lacksTwo kn j t u).2) kn ed ct ti nm xa xb (nI mc) it vs se sm rs wk ors owk) H → va_S (blk a 15) s.heap H locs → W p l e (headSpec (k_Md_effective :: gt) rm_Md_effective).room s m ([.ref a, .int (nI j), .int t, .int u] : List Value).toArray below meth c H locs 0 0 (MQ below (Qd (blk a 15) (some (.int (nI R.1))) (fun H => va_P D cls (wMo cI cJ cZ a R.2.1 kn ed ct ti nm xa xb (nI R.2.2.1) R.2.2.2.1 R.2.2.2.2.1 R.2.2.2.2.2.1 R.2.2.2.2.2.2.1 R.2.2.2.2.2.2.2.1 R.2.2.2.2.2.2.2.2 ors owk) H)) ([.ref a, .int (nI j), .int t, .int u] : List Value).toArray s 0 0 (blk a 15)) (F0 m 29 ls []) := by
    intro k
    induction k with
    | zero =>
      intro i c9 mc it vs se sm rs wk H locs ls hi hR hl hP hS
      have hR : ((c9, (f_Mo_lacksTwo kn j t u).2, mc, it, vs, se, sm, rs, wk)) = R := hR
      have hD : va_D (blk a 15) (wMo cI cJ cZ a ((f_Mo_lacksTwo kn j t u).2) kn ed ct ti nm xa xb (nI mc) it vs se sm rs wk ors owk) := (blk_D (wMo_in))
      refine lv_iload hx hb d_Md_effective_29 (lv_at hl 0 rfl) ?_
      refine lv_aload_n hx hb d_Md_effective_31 rfl (lv_at hl 2 rfl) ?_
      refine va_get (D := D) (ci := 9) (v := .ref (a + 3)) (C := R_Md) (T := F_Md) (N := 17) hx hb hg in_Md hown hK hP 0 rfl rfl 3 (Nat.le_of_ble_eq_true rfl) (hg _ tw_709) (fun _ h9 => h9) rfl d_Md_effective_32 ?_
      refine lv_iload_n hx hb d_Md_effective_35 rfl (lv_at hl 3 rfl) ?_
      refine ep_iald hx hb hK hP 3 0 rfl rfl (i := j) (by omega) (by decide) d_Md_effective_36 ?_
      refine lv_topi (fun z9 e_z9 => ?_)
      obtain rfl : z9 = nI n := by rw [e_z9]; exact hct
      refine lv_icmp_ge (tgt := 92) hx hb d_Md_effective_37 (by decide) (fun hc => ?_) (fun hc => False.elim (by have hc : ¬ (n ≤ i) := fun h => hc (by exact (nI_leI (a := n) (b := i) (by omega) (by omega)).mpr h); omega))
      refine lv_iload hx hb d_Md_effective_92 (lv_at hl 1 rfl) ?_
      subst hR
      exact W.iret (v := (nI c9)) hx hb hr (fun t9 ht hW => ⟨rfl, hS.F ht, by rw [ht]; exact hP⟩) hS.2.2 d_Md_effective_94
    | succ k ih =>
      intro i c9 mc it vs se sm rs wk H locs ls hi hR hl hP hS
      have hR : (if (ti (32 * j + i)) < t then (g_Mo_effective_0_29 kn ti j t u k (i + 1) (c9 + 0) mc it vs se sm rs wk) else (if u < (ti (32 * j + i)) then (g_Mo_effective_0_29 kn ti j t u k (i + 1) (c9 + 0) mc it vs se sm rs wk) else (if (wk i) = 0 then (g_Mo_effective_0_29 kn ti j t u k (i + 1) (c9 + 0) mc it vs se sm rs wk) else (g_Mo_effective_0_29 kn ti j t u k (i + 1) (c9 + 1) mc it vs se sm rs wk)))) = R := hR
      have hD : va_D (blk a 15) (wMo cI cJ cZ a ((f_Mo_lacksTwo kn j t u).2) kn ed ct ti nm xa xb (nI mc) it vs se sm rs wk ors owk) := (blk_D (wMo_in))
      refine lv_iload hx hb d_Md_effective_29 (lv_at hl 0 rfl) ?_
      refine lv_aload_n hx hb d_Md_effective_31 rfl (lv_at hl 2 rfl) ?_
      refine va_get (D := D) (ci := 9) (v := .ref (a + 3)) (C := R_Md) (T := F_Md) (N := 17) hx hb hg in_Md hown hK hP 0 rfl rfl 3 (Nat.le_of_ble_eq_true rfl) (hg _ tw_709) (fun _ h9 => h9) rfl d_Md_effective_32 ?_
      refine lv_iload_n hx hb d_Md_effective_35 rfl (lv_at hl 3 rfl) ?_
      refine ep_iald hx hb hK hP 3 0 rfl rfl (i := j) (by omega) (by decide) d_Md_effective_36 ?_
      refine lv_topi (fun z9 e_z9 => ?_)
      obtain rfl : z9 = nI n := by rw [e_z9]; exact hct
      refine lv_icmp_ge (tgt := 92) hx hb d_Md_effective_37 (by decide) (fun hc => False.elim (by have hc := (nI_leI (a := n) (b := i) (by omega) (by omega)).mp hc; omega)) (fun hc => ?_)
      refine lv_aload_n hx hb d_Md_effective_40 rfl (lv_at hl 2 rfl) ?_
      refine va_get (D := D) (ci := 9) (v := .ref (a + 4)) (C := R_Md) (T := F_Md) (N := 17) hx hb hg in_Md hown hK hP 0 rfl rfl 4 (Nat.le_of_ble_eq_true rfl) (hg _ tw_710) (fun _ h9 => h9) rfl d_Md_effective_41 ?_
      refine lv_bipush (v := 32) hx hb d_Md_effective_44 (by decide) ?_
      refine lv_iload_n hx hb d_Md_effective_46 rfl (lv_at hl 3 rfl) ?_
      refine lv_imul hx hb d_Md_effective_47 ?_
      refine lv_topi (fun z9 e_z9 => ?_)
      obtain rfl : z9 = nI (32 * j) := by rw [e_z9]; exact (nI_mul 32 j)
      refine lv_iload hx hb d_Md_effective_48 (lv_at hl 0 rfl) ?_
      refine lv_iadd hx hb d_Md_effective_50 ?_
      refine lv_topi (fun z9 e_z9 => ?_)
      obtain rfl : z9 = nI (32 * j + i) := by rw [e_z9]; exact (nI_add (32 * j) i)
      refine ep_iald hx hb hK hP 4 0 rfl rfl (i := (32 * j + i)) (by omega) (by decide) d_Md_effective_51 ?_
      refine lv_istore (lv' := [(6, .int (ti (32 * j + i))), (5, .int (nI i)), (4, .int (nI c9)), (0, .ref a), (1, .int (nI j)), (2, .int t), (3, .int u)]) hx hb d_Md_effective_52 hl (by decide) rfl (fun ls hl => ?_)
      refine lv_iload hx hb d_Md_effective_54 (lv_at hl 2 rfl) ?_
      refine lv_iload hx hb d_Md_effective_56 (lv_at hl 0 rfl) ?_
      refine lv_iload_n hx hb d_Md_effective_58 rfl (lv_at hl 5 rfl) ?_
      refine lv_icmp_lt (tgt := 82) hx hb d_Md_effective_59 (by decide) (fun hc1 => ?_) (fun hc1 => ?_)
      · have hc1 : (ti (32 * j + i)) < t := hc1
        refine lv_iconst (v := 0) hx hb d_Md_effective_82 (by decide) ?_
        refine lv_iadd hx hb d_Md_effective_83 ?_
        refine lv_topi (fun z9 e_z9 => ?_)
        obtain rfl : z9 = nI (c9 + 0) := by rw [e_z9]; exact (nI_add c9 0)
        refine lv_istore (lv' := [(4, .int (nI (c9 + 0))), (6, .int (ti (32 * j + i))), (5, .int (nI i)), (0, .ref a), (1, .int (nI j)), (2, .int t), (3, .int u)]) hx hb d_Md_effective_84 hl (by decide) rfl (fun ls hl => ?_)
        refine lv_iinc (k := 2) (lv' := [(5, .int (nI (i + 1))), (4, .int (nI (c9 + 0))), (6, .int (ti (32 * j + i))), (0, .ref a), (1, .int (nI j)), (2, .int t), (3, .int u)]) hx hb d_Md_effective_86 hl rfl (inc1 _) (by decide) rfl (fun ls hl => ?_)
        refine lv_goto (tgt := 29) hx hb d_Md_effective_89 (by decide) ?_
        rw [if_pos hc1] at hR
        exact ih (i + 1) (c9 + 0) mc it vs se sm rs wk _ _ ls (by omega) hR (lv_sub hl [0, 1, 3, 4, 5, 6] rfl) hP hS
      · have hc1 : ¬ ((ti (32 * j + i)) < t) := hc1
        refine lv_iload hx hb d_Md_effective_62 (lv_at hl 0 rfl) ?_
        refine lv_iload_n hx hb d_Md_effective_64 rfl (lv_at hl 6 rfl) ?_
        refine lv_icmp_gt (tgt := 82) hx hb d_Md_effective_65 (by decide) (fun hc2 => ?_) (fun hc2 => ?_)
        · have hc2 : u < (ti (32 * j + i)) := hc2
          refine lv_iconst (v := 0) hx hb d_Md_effective_82 (by decide) ?_
          refine lv_iadd hx hb d_Md_effective_83 ?_
          refine lv_topi (fun z9 e_z9 => ?_)
          obtain rfl : z9 = nI (c9 + 0) := by rw [e_z9]; exact (nI_add c9 0)
          refine lv_istore (lv' := [(4, .int (nI (c9 + 0))), (6, .int (ti (32 * j + i))), (5, .int (nI i)), (0, .ref a), (1, .int (nI j)), (2, .int t), (3, .int u)]) hx hb d_Md_effective_84 hl (by decide) rfl (fun ls hl => ?_)
          refine lv_iinc (k := 2) (lv' := [(5, .int (nI (i + 1))), (4, .int (nI (c9 + 0))), (6, .int (ti (32 * j + i))), (0, .ref a), (1, .int (nI j)), (2, .int t), (3, .int u)]) hx hb d_Md_effective_86 hl rfl (inc1 _) (by decide) rfl (fun ls hl => ?_)
          refine lv_goto (tgt := 29) hx hb d_Md_effective_89 (by decide) ?_
          rw [if_neg hc1, if_pos hc2] at hR
          exact ih (i + 1) (c9 + 0) mc it vs se sm rs wk _ _ ls (by omega) hR (lv_sub hl [0, 1, 3, 4, 5, 6] rfl) hP hS
        · have hc2 : ¬ (u < (ti (32 * j + i))) := hc2
          refine lv_aload_n hx hb d_Md_effective_68 rfl (lv_at hl 3 rfl) ?_
          refine va_get (D := D) (ci := 9) (v := .ref (a + 12)) (C := R_Md) (T := F_Md) (N := 17) hx hb hg in_Md hown hK hP 0 rfl rfl 14 (Nat.le_of_ble_eq_true rfl) (hg _ tw_720) (fun _ h9 => h9) rfl d_Md_effective_69 ?_
          refine lv_iload hx hb d_Md_effective_72 (lv_at hl 1 rfl) ?_
          refine ep_zald hx hb hK hP 12 2 rfl rfl (i := i) (by omega) (by decide) d_Md_effective_74 ?_
          refine lv_if_eq (tgt := 82) hx hb d_Md_effective_75 (by decide) (fun hc3 => ?_) (fun hc3 => ?_)
          · have hc3 : (wk i) = 0 := hc3
            refine lv_iconst (v := 0) hx hb d_Md_effective_82 (by decide) ?_
            refine lv_iadd hx hb d_Md_effective_83 ?_
            refine lv_topi (fun z9 e_z9 => ?_)
            obtain rfl : z9 = nI (c9 + 0) := by rw [e_z9]; exact (nI_add c9 0)
            refine lv_istore (lv' := [(4, .int (nI (c9 + 0))), (6, .int (ti (32 * j + i))), (5, .int (nI i)), (0, .ref a), (1, .int (nI j)), (2, .int t), (3, .int u)]) hx hb d_Md_effective_84 hl (by decide) rfl (fun ls hl => ?_)
            refine lv_iinc (k := 2) (lv' := [(5, .int (nI (i + 1))), (4, .int (nI (c9 + 0))), (6, .int (ti (32 * j + i))), (0, .ref a), (1, .int (nI j)), (2, .int t), (3, .int u)]) hx hb d_Md_effective_86 hl rfl (inc1 _) (by decide) rfl (fun ls hl => ?_)
            refine lv_goto (tgt := 29) hx hb d_Md_effective_89 (by decide) ?_
            rw [if_neg hc1, if_neg hc2, if_pos hc3] at hR
            exact ih (i + 1) (c9 + 0) mc it vs se sm rs wk _ _ ls (by omega) hR (lv_sub hl [0, 1, 3, 4, 5, 6] rfl) hP hS
          · have hc3 : ¬ ((wk i) = 0) := hc3
            refine lv_iconst (v := 1) hx hb d_Md_effective_78 (by decide) ?_
            refine lv_goto (tgt := 83) hx hb d_Md_effective_79 (by decide) ?_
            refine lv_iadd hx hb d_Md_effective_83 ?_
            refine lv_topi (fun z9 e_z9 => ?_)
            obtain rfl : z9 = nI (c9 + 1) := by rw [e_z9]; exact (nI_add c9 1)
            refine lv_istore (lv' := [(4, .int (nI (c9 + 1))), (6, .int (ti (32 * j + i))), (5, .int (nI i)), (0, .ref a), (1, .int (nI j)), (2, .int t), (3, .int u)]) hx hb d_Md_effective_84 hl (by decide) rfl (fun ls hl => ?_)
            refine lv_iinc (k := 2) (lv' := [(5, .int (nI (i + 1))), (4, .int (nI (c9 + 1))), (6, .int (ti (32 * j + i))), (0, .ref a), (1, .int (nI j)), (2, .int t), (3, .int u)]) hx hb d_Md_effective_86 hl rfl (inc1 _) (by decide) rfl (fun ls hl => ?_)
            refine lv_goto (tgt := 29) hx hb d_Md_effective_89 (by decide) ?_
            rw [if_neg hc1, if_neg hc2, if_neg hc3] at hR
            exact ih (i + 1) (c9 + 1) mc it vs se sm rs wk _ _ ls (by omega) hR (lv_sub hl [0, 1, 3, 4, 5, 6] rfl) hP hS
  have hR : (g_Mo_effective_0_29 kn ti j t u n 0 0 ((f_Mo_run_0 ti nm xa it vs se rs wk n j u).1) ((f_Mo_run_0 ti nm xa it vs se rs wk n j u).2.1) ((f_Mo_run_0 ti nm xa it vs se rs wk n j u).2.2.1) ((f_Mo_run_0 ti nm xa it vs se rs wk n j u).2.2.2.1) ((f_Mo_run_0 ti nm xa it vs se rs wk n j u).2.2.2.2.1) ((f_Mo_run_0 ti nm xa it vs se rs wk n j u).2.2.2.2.2.1) ((f_Mo_run_0 ti nm xa it vs se rs wk n j u).2.2.2.2.2.2)) = R := hR
  refine lv_aload_n hx hb d_Md_effective_0 rfl (lv_at hl 0 rfl) ?_
  refine lv_iload_n hx hb d_Md_effective_1 rfl (lv_at hl 1 rfl) ?_
  refine lv_iload_n hx hb d_Md_effective_2 rfl (lv_at hl 2 rfl) ?_
  refine lv_iload_n hx hb d_Md_effective_3 rfl (lv_at hl 3 rfl) ?_
  refine ep_callH (W.runV (As := [.int (nI j), .int t, .int u]) (rest := []) ⟨hx, hb, hml, hown, hg⟩ (m_Mo_lacksTwo l D cI cJ cZ cO a code kn ed ct ti nm xa xb ma it vs se sm rs wk ors owk j t u (by omega) _ rfl) (ep_cwV 3 hg tw_896 tw_898 ts_25 tw_12 tk_Md_lacksTwo rfl rfl (by decide +kernel) ⟨(Nat.le_of_ble_eq_true rfl), (Nat.le_of_ble_eq_true rfl)⟩) ⟨ep_blind, va_recv (q0 := 0) (ci := 9) hK hP rfl rfl, ep_pre hKn (hP)⟩ rfl rfl hl.1 rfl (lv_room (Nat.le_of_ble_eq_true rfl)) d_Md_effective_4 ⟨Nat.zero_le _, Nat.zero_le _⟩) hS (fun q h => h) (fun H locs hsz9 hk1 hP1 hS => ?_)
  refine W.eq (g2 := F0 m 7 ls [.int ((f_Mo_lacksTwo kn j t u).1)]) rfl ?_
  have hP : va_P D cls (wMo cI cJ cZ a ((f_Mo_lacksTwo kn j t u).2) kn ed ct ti nm xa xb ma it vs se sm rs wk ors owk) H := hP1
  have hD : va_D (blk a 15) (wMo cI cJ cZ a ((f_Mo_lacksTwo kn j t u).2) kn ed ct ti nm xa xb ma it vs se sm rs wk ors owk) := (blk_D (wMo_in))
  refine lv_if_eq (tgt := 12) hx hb d_Md_effective_7 (by decide) (fun hc => ?_) (fun hc => absurd hlk hc)
  refine lv_aload_n hx hb d_Md_effective_12 rfl (lv_at hl 0 rfl) ?_
  refine lv_iload_n hx hb d_Md_effective_13 rfl (lv_at hl 1 rfl) ?_
  refine lv_aload_n hx hb d_Md_effective_14 rfl (lv_at hl 0 rfl) ?_
  refine lv_iload_n hx hb d_Md_effective_15 rfl (lv_at hl 1 rfl) ?_
  refine ep_callP (W.runV (As := [.int (nI j)]) (rest := [.int (nI j), .ref a]) ⟨hx, hb, hml, hown, hg⟩ (m_Mo_kindOf l D cI cJ cZ cO a ((f_Mo_lacksTwo kn j t u).2) kn ed ct ti nm xa xb ma it vs se sm rs wk ors owk j (by omega) _ rfl) (ep_cwV 1 hg tw_789 tw_791 ts_11 tw_12 tk_Md_kindOf rfl rfl (by decide +kernel) ⟨(Nat.le_of_ble_eq_true rfl), (Nat.le_of_ble_eq_true rfl)⟩) ⟨ep_blind, va_recv (q0 := 0) (ci := 9) hK hP rfl rfl, ep_pre hKn (hP)⟩ rfl rfl hl.1 rfl (lv_room (Nat.le_of_ble_eq_true rfl)) d_Md_effective_16 ⟨Nat.zero_le _, Nat.zero_le _⟩) ?_
  refine W.eq (g2 := F0 m 19 ls [.int (f_Mo_kindOf kn j), .int (nI j), .ref a]) rfl ?_
  refine lv_topi (fun z9 e_z9 => ?_)
  obtain rfl : z9 = 0 := by rw [e_z9]; exact (by rw [show f_Mo_kindOf kn j = kn j - 1 from rfl, hk]; decide)
  refine lv_iload_n hx hb d_Md_effective_19 rfl (lv_at hl 3 rfl) ?_
  refine ep_callH (W.runV (As := [.int (nI j), .int 0, .int u]) (rest := []) ⟨hx, hb, hml, hown, hg⟩ (m_Mo_run_0 l D cI cJ cZ cO a ((f_Mo_lacksTwo kn j t u).2) kn ed ct ti nm xa xb ma it vs se sm rs wk ors owk n j u (by omega) hct (by omega) _ rfl) (ep_cwV 3 hg tw_832 tw_834 ts_17 tw_12 tk_Md_run rfl rfl (by decide +kernel) ⟨(Nat.le_of_ble_eq_true rfl), (Nat.le_of_ble_eq_true rfl)⟩) ⟨ep_blind, va_recv (q0 := 0) (ci := 9) hK hP rfl rfl, ep_pre hKn (hP)⟩ rfl rfl hl.1 rfl (lv_room (Nat.le_of_ble_eq_true rfl)) d_Md_effective_20 ⟨Nat.zero_le _, Nat.zero_le _⟩) hS (fun q h => h) (fun H locs hsz9 hk1 hP1 hS => ?_)
  refine W.eq (g2 := F0 m 23 ls []) rfl ?_
  have hP : va_P D cls (wMo cI cJ cZ a ((f_Mo_lacksTwo kn j t u).2) kn ed ct ti nm xa xb (nI ((f_Mo_run_0 ti nm xa it vs se rs wk n j u).1)) ((f_Mo_run_0 ti nm xa it vs se rs wk n j u).2.1) ((f_Mo_run_0 ti nm xa it vs se rs wk n j u).2.2.1) ((f_Mo_run_0 ti nm xa it vs se rs wk n j u).2.2.2.1) ((f_Mo_run_0 ti nm xa it vs se rs wk n j u).2.2.2.2.1) ((f_Mo_run_0 ti nm xa it vs se rs wk n j u).2.2.2.2.2.1) ((f_Mo_run_0 ti nm xa it vs se rs wk n j u).2.2.2.2.2.2) ors owk) H := hP1
  have hD : va_D (blk a 15) (wMo cI cJ cZ a ((f_Mo_lacksTwo kn j t u).2) kn ed ct ti nm xa xb (nI ((f_Mo_run_0 ti nm xa it vs se rs wk n j u).1)) ((f_Mo_run_0 ti nm xa it vs se rs wk n j u).2.1) ((f_Mo_run_0 ti nm xa it vs se rs wk n j u).2.2.1) ((f_Mo_run_0 ti nm xa it vs se rs wk n j u).2.2.2.1) ((f_Mo_run_0 ti nm xa it vs se rs wk n j u).2.2.2.2.1) ((f_Mo_run_0 ti nm xa it vs se rs wk n j u).2.2.2.2.2.1) ((f_Mo_run_0 ti nm xa it vs se rs wk n j u).2.2.2.2.2.2) ors owk) := (blk_D (wMo_in))
  refine lv_iconst (v := 0) hx hb d_Md_effective_23 (by decide) ?_
  refine lv_istore (lv' := [(4, .int 0), (0, .ref a), (1, .int (nI j)), (2, .int t), (3, .int u)]) hx hb d_Md_effective_24 hl (by decide) rfl (fun ls hl => ?_)
  refine lv_iconst (v := 0) hx hb d_Md_effective_26 (by decide) ?_
  refine lv_istore (lv' := [(5, .int 0), (4, .int 0), (0, .ref a), (1, .int (nI j)), (2, .int t), (3, .int u)]) hx hb d_Md_effective_27 hl (by decide) rfl (fun ls hl => ?_)
  exact key_29 n 0 0 ((f_Mo_run_0 ti nm xa it vs se rs wk n j u).1) ((f_Mo_run_0 ti nm xa it vs se rs wk n j u).2.1) ((f_Mo_run_0 ti nm xa it vs se rs wk n j u).2.2.1) ((f_Mo_run_0 ti nm xa it vs se rs wk n j u).2.2.2.1) ((f_Mo_run_0 ti nm xa it vs se rs wk n j u).2.2.2.2.1) ((f_Mo_run_0 ti nm xa it vs se rs wk n j u).2.2.2.2.2.1) ((f_Mo_run_0 ti nm xa it vs se rs wk n j u).2.2.2.2.2.2) _ _ ls (by omega) hR hl hP hS

def g_Mo_firstChange_0_227 (kn : Nat → Int32) (ti : Nat → Int32) (n : Nat) (j : Nat) (t : Int32) (u : Int32) : Nat → Nat → Int32 → Nat → (Nat → Int32) → (Nat → Int32) → (Nat → Int32) → Int64 → (Nat → Int64) → (Nat → Int32) → (Nat → Int64) → (Nat → Int32) → Int32 × Int32 × Nat × (Nat → Int32) × (Nat → Int32) × (Nat → Int32) × Int64 × (Nat → Int64) × (Nat → Int32) × (Nat → Int64) × (Nat → Int32)
  | 0, i, be, mc, it, vs, se, sm, rs, wk, ors, owk => (be, (f_Mo_lacksTwo kn j t u).2, mc, it, vs, se, sm, rs, wk, ors, owk)
  | k + 1, i, be, mc, it, vs, se, sm, rs, wk, ors, owk => if ¬ (f_Mo_find ti n j (ti (32 * (j + 4) + i))) = -1 then (g_Mo_firstChange_0_227 kn ti n j t u k (i + 1) be mc it vs se sm rs wk ors owk) else (if (ti (32 * (j + 4) + i)) < t then (g_Mo_firstChange_0_227 kn ti n j t u k (i + 1) be mc it vs se sm rs wk ors owk) else (if u < (ti (32 * (j + 4) + i)) then (g_Mo_firstChange_0_227 kn ti n j t u k (i + 1) be mc it vs se sm rs wk ors owk) else (if be = 0 then (g_Mo_firstChange_0_227 kn ti n j t u k (i + 1) (ti (32 * (j + 4) + i)) mc it vs se sm rs wk ors owk) else (if be ≤ (ti (32 * (j + 4) + i)) then (g_Mo_firstChange_0_227 kn ti n j t u k (i + 1) be mc it vs se sm rs wk ors owk) else (g_Mo_firstChange_0_227 kn ti n j t u k (i + 1) (ti (32 * (j + 4) + i)) mc it vs se sm rs wk ors owk)))))

def g_Mo_firstChange_0_97 (kn : Nat → Int32) (ti : Nat → Int32) (n : Nat) (n2 : Nat) (j : Nat) (t : Int32) (u : Int32) : Nat → Nat → Int32 → Nat → (Nat → Int32) → (Nat → Int32) → (Nat → Int32) → Int64 → (Nat → Int64) → (Nat → Int32) → (Nat → Int64) → (Nat → Int32) → Int32 × Int32 × Nat × (Nat → Int32) × (Nat → Int32) × (Nat → Int32) × Int64 × (Nat → Int64) × (Nat → Int32) × (Nat → Int64) × (Nat → Int32)
  | 0, i, be, mc, it, vs, se, sm, rs, wk, ors, owk => g_Mo_firstChange_0_227 kn ti n j t u n2 0 be mc it vs se sm rs wk ors owk
  | k + 1, i, be, mc, it, vs, se, sm, rs, wk, ors, owk => if ¬ (f_Mo_find ti n2 (j + 4) (ti (32 * j + i))) = -1 then (if (lg_cmp (ors ((f_Mo_find ti n2 (j + 4) (ti (32 * j + i))).toNatClampNeg)) (rs i)) = 0 then (if (owk ((f_Mo_find ti n2 (j + 4) (ti (32 * j + i))).toNatClampNeg)) = (wk i) then (g_Mo_firstChange_0_97 kn ti n n2 j t u k (i + 1) be mc it vs se sm rs wk ors owk) else (if (ti (32 * j + i)) < t then (g_Mo_firstChange_0_97 kn ti n n2 j t u k (i + 1) be mc it vs se sm rs wk ors owk) else (if u < (ti (32 * j + i)) then (g_Mo_firstChange_0_97 kn ti n n2 j t u k (i + 1) be mc it vs se sm rs wk ors owk) else (if be = 0 then (g_Mo_firstChange_0_97 kn ti n n2 j t u k (i + 1) (ti (32 * j + i)) mc it vs se sm rs wk ors owk) else (if be ≤ (ti (32 * j + i)) then (g_Mo_firstChange_0_97 kn ti n n2 j t u k (i + 1) be mc it vs se sm rs wk ors owk) else (g_Mo_firstChange_0_97 kn ti n n2 j t u k (i + 1) (ti (32 * j + i)) mc it vs se sm rs wk ors owk)))))) else (if (ti (32 * j + i)) < t then (g_Mo_firstChange_0_97 kn ti n n2 j t u k (i + 1) be mc it vs se sm rs wk ors owk) else (if u < (ti (32 * j + i)) then (g_Mo_firstChange_0_97 kn ti n n2 j t u k (i + 1) be mc it vs se sm rs wk ors owk) else (if be = 0 then (g_Mo_firstChange_0_97 kn ti n n2 j t u k (i + 1) (ti (32 * j + i)) mc it vs se sm rs wk ors owk) else (if be ≤ (ti (32 * j + i)) then (g_Mo_firstChange_0_97 kn ti n n2 j t u k (i + 1) be mc it vs se sm rs wk ors owk) else (g_Mo_firstChange_0_97 kn ti n n2 j t u k (i + 1) (ti (32 * j + i)) mc it vs se sm rs wk ors owk)))))) else (if (ti (32 * j + i)) < t then (g_Mo_firstChange_0_97 kn ti n n2 j t u k (i + 1) be mc it vs se sm rs wk ors owk) else (if u < (ti (32 * j + i)) then (g_Mo_firstChange_0_97 kn ti n n2 j t u k (i + 1) be mc it vs se sm rs wk ors owk) else (if be = 0 then (g_Mo_firstChange_0_97 kn ti n n2 j t u k (i + 1) (ti (32 * j + i)) mc it vs se sm rs wk ors owk) else (if be ≤ (ti (32 * j + i)) then (g_Mo_firstChange_0_97 kn ti n n2 j t u k (i + 1) be mc it vs se sm rs wk ors owk) else (g_Mo_firstChange_0_97 kn ti n n2 j t u k (i + 1) (ti (32 * j + i)) mc it vs se sm rs wk ors owk)))))

def g_Mo_firstChange_0_38 (kn : Nat → Int32) (ti : Nat → Int32) (nm : Nat → Int32) (xa : Nat → Int32) (n : Nat) (n2 : Nat) (j : Nat) (t : Int32) (u : Int32) : Nat → Nat → Nat → (Nat → Int32) → (Nat → Int32) → (Nat → Int32) → Int64 → (Nat → Int64) → (Nat → Int32) → (Nat → Int64) → (Nat → Int32) → Int32 × Int32 × Nat × (Nat → Int32) × (Nat → Int32) × (Nat → Int32) × Int64 × (Nat → Int64) × (Nat → Int32) × (Nat → Int64) × (Nat → Int32)
  | 0, i, mc, it, vs, se, sm, rs, wk, ors, owk => g_Mo_firstChange_0_97 kn ti n n2 j t u n 0 0 ((f_Mo_run_0 ti nm xa it vs se rs wk n j 1000000000).1) ((f_Mo_run_0 ti nm xa it vs se rs wk n j 1000000000).2.1) ((f_Mo_run_0 ti nm xa it vs se rs wk n j 1000000000).2.2.1) ((f_Mo_run_0 ti nm xa it vs se rs wk n j 1000000000).2.2.2.1) ((f_Mo_run_0 ti nm xa it vs se rs wk n j 1000000000).2.2.2.2.1) ((f_Mo_run_0 ti nm xa it vs se rs wk n j 1000000000).2.2.2.2.2.1) ((f_Mo_run_0 ti nm xa it vs se rs wk n j 1000000000).2.2.2.2.2.2) ors owk
  | k + 1, i, mc, it, vs, se, sm, rs, wk, ors, owk => g_Mo_firstChange_0_38 kn ti nm xa n n2 j t u k (i + 1) mc it vs se sm rs wk (vp_updL ors i (rs i)) (upd owk i (wk i))

def f_Mo_firstChange_0 (kn : Nat → Int32) (ti : Nat → Int32) (nm : Nat → Int32) (xa : Nat → Int32) (it : Nat → Int32) (vs : Nat → Int32) (se : Nat → Int32) (rs : Nat → Int64) (wk : Nat → Int32) (ors : Nat → Int64) (owk : Nat → Int32) (n : Nat) (n2 : Nat) (j : Nat) (t : Int32) (u : Int32) : Int32 × Int32 × Nat × (Nat → Int32) × (Nat → Int32) × (Nat → Int32) × Int64 × (Nat → Int64) × (Nat → Int32) × (Nat → Int64) × (Nat → Int32) := g_Mo_firstChange_0_38 kn ti nm xa n n2 j t u 32 0 ((f_Mo_run_0 ti nm xa it vs se rs wk n2 (j + 4) 1000000000).1) ((f_Mo_run_0 ti nm xa it vs se rs wk n2 (j + 4) 1000000000).2.1) ((f_Mo_run_0 ti nm xa it vs se rs wk n2 (j + 4) 1000000000).2.2.1) ((f_Mo_run_0 ti nm xa it vs se rs wk n2 (j + 4) 1000000000).2.2.2.1) ((f_Mo_run_0 ti nm xa it vs se rs wk n2 (j + 4) 1000000000).2.2.2.2.1) ((f_Mo_run_0 ti nm xa it vs se rs wk n2 (j + 4) 1000000000).2.2.2.2.2.1) ((f_Mo_run_0 ti nm xa it vs se rs wk n2 (j + 4) 1000000000).2.2.2.2.2.2) ors owk
set_option maxHeartbeats 4000000 in
set_option maxRecDepth 100000 in
theorem m_Mo_firstChange_0 (l : Launch) (D : va_G) (cI cJ cZ cO : ClassId) (a : Nat) (code : Int32) (kn : Nat → Int32) (ed : Nat → Int32) (ct : Nat → Int32) (ti : Nat → Int32) (nm : Nat → Int32) (xa : Nat → Int32) (xb : Nat → Int32) (ma : Int32) (it : Nat → Int32) (vs : Nat → Int32) (se : Nat → Int32) (sm : Int64) (rs : Nat → Int64) (wk : Nat → Int32) (ors : Nat → Int64) (owk : Nat → Int32) (n : Nat) (n2 : Nat) (j : Nat) (t : Int32) (u : Int32) (hj : j < 4) (hlk : (f_Mo_lacksTwo kn j t u).1 = 0) (hk : kn j = 1) (hct : ct j = nI n) (hn : n ≤ 32) (hct2 : ct (j + 4) = nI n2) (hn2 : n2 ≤ 32) (hbz : bz wk) (hed : ¬ ed j = 0) (R : Int32 × Int32 × Nat × (Nat → Int32) × (Nat → Int32) × (Nat → Int32) × Int64 × (Nat → Int64) × (Nat → Int32) × (Nat → Int64) × (Nat → Int32)) (hR : f_Mo_firstChange_0 kn ti nm xa it vs se rs wk ors owk n n2 j t u = R) : Met l y_Md_firstChange (k_Md_firstChange :: gt) rm_Md_firstChange (Pc0 D cI cJ cZ cO [.ref a, .int (nI j), .int t, .int u] (fun H => va_P D cls (wMo cI cJ cZ a code kn ed ct ti nm xa xb ma it vs se sm rs wk ors owk) H)) (Qd (blk a 15) (some (.int R.1)) (fun H => va_P D cls (wMo cI cJ cZ a R.2.1 kn ed ct ti nm xa xb (nI R.2.2.1) R.2.2.2.1 R.2.2.2.2.1 R.2.2.2.2.2.1 R.2.2.2.2.2.2.1 R.2.2.2.2.2.2.2.1 R.2.2.2.2.2.2.2.2.1 R.2.2.2.2.2.2.2.2.2.1 R.2.2.2.2.2.2.2.2.2.2) H)) 0 0 (blk a 15) := by
  refine Met.ofW (cc := c_Md_firstChange) (maxL := 9) (ret := (Option.some FieldType.int)) (by decide) rfl ?_
  intro p e s m args below meth c s₁ B hml hv
  obtain ⟨rfl, hKn, hP⟩ := hv
  have hx := B.exec
  have hb := B.bytes
  have hr := B.returns
  have hts := atoms_spec (ws := k_Md_firstChange :: gt) B.pre
  have hg : ∀ w ∈ gt, w.before _ s = true := fun w h => hts w (List.mem_cons_of_mem _ h)
  have hown : s.vm.findClass R_Md = some m.cls := findClass_of_methodNamed B.named
  have hlocks := B.notSynchronized
  have hK := hKn.1
  have hl := lv_entry ([.ref a, .int (nI j), .int t, .int u]) (n := 9) (Nat.le_of_ble_eq_true rfl)
  rw [lg_entry_eq]
  generalize (lg_sl ([.ref a, .int (nI j), .int t, .int u]) ++ List.replicate (9 - (lg_sl ([.ref a, .int (nI j), .int t, .int u])).length) Slot.unset).toArray = ls at hl ⊢
  have hl : lv_has ls 9 [(0, .ref a), (1, .int (nI j)), (2, .int t), (3, .int u)] := hl
  have hS : va_S (blk a 15) s.heap s.heap [] := va_S.rf
  have hD : va_D (blk a 15) (wMo cI cJ cZ a code kn ed ct ti nm xa xb ma it vs se sm rs wk ors owk) := (blk_D (wMo_in))
  have key_227 : ∀ (k : Nat) (i : Nat) (be : Int32) (mc : Nat) (it : Nat → Int32) (vs : Nat → Int32) (se : Nat → Int32) (sm : Int64) (rs : Nat → Int64) (wk : Nat → Int32) (ors : Nat → Int64) (owk : Nat → Int32) (H : Heap) (locs : List Loc) (ls : Array Slot), i + k = n2 → g_Mo_firstChange_0_227 kn ti n j t u k i be mc it vs se sm rs wk ors owk = R → lv_has ls 9 [(5, .int (nI i)), (4, .int be), (0, .ref a), (1, .int (nI j)), (2, .int t), (3, .int u)] → va_P D cls (wMo cI cJ cZ a ((f_Mo_lacksTwo kn j t u).2) kn ed ct ti nm xa xb (nI mc) it vs se sm rs wk ors owk) H → va_S (blk a 15) s.heap H locs → W p l e (headSpec (k_Md_firstChange :: gt) rm_Md_firstChange).room s m ([.ref a, .int (nI j), .int t, .int u] : List Value).toArray below meth c H locs 0 0 (MQ below (Qd (blk a 15) (some (.int R.1)) (fun H => va_P D cls (wMo cI cJ cZ a R.2.1 kn ed ct ti nm xa xb (nI R.2.2.1) R.2.2.2.1 R.2.2.2.2.1 R.2.2.2.2.2.1 R.2.2.2.2.2.2.1 R.2.2.2.2.2.2.2.1 R.2.2.2.2.2.2.2.2.1 R.2.2.2.2.2.2.2.2.2.1 R.2.2.2.2.2.2.2.2.2.2) H)) ([.ref a, .int (nI j), .int t, .int u] : List Value).toArray s 0 0 (blk a 15)) (F0 m 227 ls []) := by
    intro k
    induction k with
    | zero =>
      intro i be mc it vs se sm rs wk ors owk H locs ls hi hR hl hP hS
      have hR : ((be, (f_Mo_lacksTwo kn j t u).2, mc, it, vs, se, sm, rs, wk, ors, owk)) = R := hR
      have hD : va_D (blk a 15) (wMo cI cJ cZ a ((f_Mo_lacksTwo kn j t u).2) kn ed ct ti nm xa xb (nI mc) it vs se sm rs wk ors owk) := (blk_D (wMo_in))
      refine lv_iload hx hb d_Md_firstChange_227 (lv_at hl 0 rfl) ?_
      refine lv_aload_n hx hb d_Md_firstChange_229 rfl (lv_at hl 2 rfl) ?_
      refine va_get (D := D) (ci := 9) (v := .ref (a + 3)) (C := R_Md) (T := F_Md) (N := 17) hx hb hg in_Md hown hK hP 0 rfl rfl 3 (Nat.le_of_ble_eq_true rfl) (hg _ tw_709) (fun _ h9 => h9) rfl d_Md_firstChange_230 ?_
      refine lv_iload_n hx hb d_Md_firstChange_233 rfl (lv_at hl 3 rfl) ?_
      refine lv_iconst (v := 4) hx hb d_Md_firstChange_234 (by decide) ?_
      refine lv_iadd hx hb d_Md_firstChange_235 ?_
      refine lv_topi (fun z9 e_z9 => ?_)
      obtain rfl : z9 = nI (j + 4) := by rw [e_z9]; exact (nI_add j 4)
      refine ep_iald hx hb hK hP 3 0 rfl rfl (i := (j + 4)) (by omega) (by decide) d_Md_firstChange_236 ?_
      refine lv_topi (fun z9 e_z9 => ?_)
      obtain rfl : z9 = nI n2 := by rw [e_z9]; exact hct2
      refine lv_icmp_ge (tgt := 305) hx hb d_Md_firstChange_237 (by decide) (fun hc => ?_) (fun hc => False.elim (by have hc : ¬ (n2 ≤ i) := fun h => hc (by exact (nI_leI (a := n2) (b := i) (by omega) (by omega)).mpr h); omega))
      refine lv_iload hx hb d_Md_firstChange_305 (lv_at hl 1 rfl) ?_
      subst hR
      exact W.iret (v := be) hx hb hr (fun t9 ht hW => ⟨rfl, hS.F ht, by rw [ht]; exact hP⟩) hS.2.2 d_Md_firstChange_307
    | succ k ih =>
      intro i be mc it vs se sm rs wk ors owk H locs ls hi hR hl hP hS
      have hR : (if ¬ (f_Mo_find ti n j (ti (32 * (j + 4) + i))) = -1 then (g_Mo_firstChange_0_227 kn ti n j t u k (i + 1) be mc it vs se sm rs wk ors owk) else (if (ti (32 * (j + 4) + i)) < t then (g_Mo_firstChange_0_227 kn ti n j t u k (i + 1) be mc it vs se sm rs wk ors owk) else (if u < (ti (32 * (j + 4) + i)) then (g_Mo_firstChange_0_227 kn ti n j t u k (i + 1) be mc it vs se sm rs wk ors owk) else (if be = 0 then (g_Mo_firstChange_0_227 kn ti n j t u k (i + 1) (ti (32 * (j + 4) + i)) mc it vs se sm rs wk ors owk) else (if be ≤ (ti (32 * (j + 4) + i)) then (g_Mo_firstChange_0_227 kn ti n j t u k (i + 1) be mc it vs se sm rs wk ors owk) else (g_Mo_firstChange_0_227 kn ti n j t u k (i + 1) (ti (32 * (j + 4) + i)) mc it vs se sm rs wk ors owk)))))) = R := hR
      have hD : va_D (blk a 15) (wMo cI cJ cZ a ((f_Mo_lacksTwo kn j t u).2) kn ed ct ti nm xa xb (nI mc) it vs se sm rs wk ors owk) := (blk_D (wMo_in))
      refine lv_iload hx hb d_Md_firstChange_227 (lv_at hl 0 rfl) ?_
      refine lv_aload_n hx hb d_Md_firstChange_229 rfl (lv_at hl 2 rfl) ?_
      refine va_get (D := D) (ci := 9) (v := .ref (a + 3)) (C := R_Md) (T := F_Md) (N := 17) hx hb hg in_Md hown hK hP 0 rfl rfl 3 (Nat.le_of_ble_eq_true rfl) (hg _ tw_709) (fun _ h9 => h9) rfl d_Md_firstChange_230 ?_
      refine lv_iload_n hx hb d_Md_firstChange_233 rfl (lv_at hl 3 rfl) ?_
      refine lv_iconst (v := 4) hx hb d_Md_firstChange_234 (by decide) ?_
      refine lv_iadd hx hb d_Md_firstChange_235 ?_
      refine lv_topi (fun z9 e_z9 => ?_)
      obtain rfl : z9 = nI (j + 4) := by rw [e_z9]; exact (nI_add j 4)
      refine ep_iald hx hb hK hP 3 0 rfl rfl (i := (j + 4)) (by omega) (by decide) d_Md_firstChange_236 ?_
      refine lv_topi (fun z9 e_z9 => ?_)
      obtain rfl : z9 = nI n2 := by rw [e_z9]; exact hct2
      refine lv_icmp_ge (tgt := 305) hx hb d_Md_firstChange_237 (by decide) (fun hc => False.elim (by have hc := (nI_leI (a := n2) (b := i) (by omega) (by omega)).mp hc; omega)) (fun hc => ?_)
      refine lv_aload_n hx hb d_Md_firstChange_240 rfl (lv_at hl 2 rfl) ?_
      refine va_get (D := D) (ci := 9) (v := .ref (a + 4)) (C := R_Md) (T := F_Md) (N := 17) hx hb hg in_Md hown hK hP 0 rfl rfl 4 (Nat.le_of_ble_eq_true rfl) (hg _ tw_710) (fun _ h9 => h9) rfl d_Md_firstChange_241 ?_
      refine lv_bipush (v := 32) hx hb d_Md_firstChange_244 (by decide) ?_
      refine lv_iload_n hx hb d_Md_firstChange_246 rfl (lv_at hl 3 rfl) ?_
      refine lv_iconst (v := 4) hx hb d_Md_firstChange_247 (by decide) ?_
      refine lv_iadd hx hb d_Md_firstChange_248 ?_
      refine lv_topi (fun z9 e_z9 => ?_)
      obtain rfl : z9 = nI (j + 4) := by rw [e_z9]; exact (nI_add j 4)
      refine lv_imul hx hb d_Md_firstChange_249 ?_
      refine lv_topi (fun z9 e_z9 => ?_)
      obtain rfl : z9 = nI (32 * (j + 4)) := by rw [e_z9]; exact (nI_mul 32 (j + 4))
      refine lv_iload hx hb d_Md_firstChange_250 (lv_at hl 0 rfl) ?_
      refine lv_iadd hx hb d_Md_firstChange_252 ?_
      refine lv_topi (fun z9 e_z9 => ?_)
      obtain rfl : z9 = nI (32 * (j + 4) + i) := by rw [e_z9]; exact (nI_add (32 * (j + 4)) i)
      refine ep_iald hx hb hK hP 4 0 rfl rfl (i := (32 * (j + 4) + i)) (by omega) (by decide) d_Md_firstChange_253 ?_
      refine lv_istore (lv' := [(6, .int (ti (32 * (j + 4) + i))), (5, .int (nI i)), (4, .int be), (0, .ref a), (1, .int (nI j)), (2, .int t), (3, .int u)]) hx hb d_Md_firstChange_254 hl (by decide) rfl (fun ls hl => ?_)
      refine lv_aload_n hx hb d_Md_firstChange_256 rfl (lv_at hl 3 rfl) ?_
      refine lv_iload_n hx hb d_Md_firstChange_257 rfl (lv_at hl 4 rfl) ?_
      refine lv_iload hx hb d_Md_firstChange_258 (lv_at hl 0 rfl) ?_
      refine ep_callP (W.runV (As := [.int (nI j), .int (ti (32 * (j + 4) + i))]) (rest := []) ⟨hx, hb, hml, hown, hg⟩ (m_Mo_find l D cI cJ cZ cO a ((f_Mo_lacksTwo kn j t u).2) kn ed ct ti nm xa xb (nI mc) it vs se sm rs wk ors owk n j (ti (32 * (j + 4) + i)) (by omega) hct (by omega) _ rfl) (ep_cwV 2 hg tw_785 tw_787 ts_10 tw_12 tk_Md_find rfl rfl (by decide +kernel) ⟨(Nat.le_of_ble_eq_true rfl), (Nat.le_of_ble_eq_true rfl)⟩) ⟨ep_blind, va_recv (q0 := 0) (ci := 9) hK hP rfl rfl, ep_pre hKn (hP)⟩ rfl rfl hl.1 rfl (lv_room (Nat.le_of_ble_eq_true rfl)) d_Md_firstChange_260 ⟨Nat.zero_le _, Nat.zero_le _⟩) ?_
      refine W.eq (g2 := F0 m 263 ls [.int (f_Mo_find ti n j (ti (32 * (j + 4) + i)))]) rfl ?_
      refine lv_topi (fun z8 e_z8 => ?_)
      obtain rfl : z8 = oI (¬ (f_Mo_find ti n j (ti (32 * (j + 4) + i))) = -1) ((f_Mo_find ti n j (ti (32 * (j + 4) + i))).toNatClampNeg) := by rw [e_z8]; exact (oI_of (fi_at _ _ _ _ (by omega)))
      by_cases hc1 : ¬ (f_Mo_find ti n j (ti (32 * (j + 4) + i))) = -1
      · rw [show oI (¬ (f_Mo_find ti n j (ti (32 * (j + 4) + i))) = -1) ((f_Mo_find ti n j (ti (32 * (j + 4) + i))).toNatClampNeg) = nI ((f_Mo_find ti n j (ti (32 * (j + 4) + i))).toNatClampNeg) from if_pos hc1]
        have hp9 : (f_Mo_find ti n j (ti (32 * (j + 4) + i))).toNatClampNeg < n := fi_lt _ _ _ _ (by omega) hc1
        refine lv_if_ge (tgt := 295) hx hb d_Md_firstChange_263 (by decide) (fun hc => ?_) (fun hc => False.elim (by have hc : ¬ (0 ≤ (f_Mo_find ti n j (ti (32 * (j + 4) + i))).toNatClampNeg) := fun h => hc (by exact (nI_leI (a := 0) (b := (f_Mo_find ti n j (ti (32 * (j + 4) + i))).toNatClampNeg) (by omega) (by omega)).mpr h); omega))
        refine lv_iload hx hb d_Md_firstChange_295 (lv_at hl 2 rfl) ?_
        refine lv_istore (lv' := [(4, .int be), (6, .int (ti (32 * (j + 4) + i))), (5, .int (nI i)), (0, .ref a), (1, .int (nI j)), (2, .int t), (3, .int u)]) hx hb d_Md_firstChange_297 hl (by decide) rfl (fun ls hl => ?_)
        refine lv_iinc (k := 2) (lv' := [(5, .int (nI (i + 1))), (4, .int be), (6, .int (ti (32 * (j + 4) + i))), (0, .ref a), (1, .int (nI j)), (2, .int t), (3, .int u)]) hx hb d_Md_firstChange_299 hl rfl (inc1 _) (by decide) rfl (fun ls hl => ?_)
        refine lv_goto (tgt := 227) hx hb d_Md_firstChange_302 (by decide) ?_
        rw [if_pos hc1] at hR
        exact ih (i + 1) be mc it vs se sm rs wk ors owk _ _ ls (by omega) hR (lv_sub hl [0, 1, 3, 4, 5, 6] rfl) hP hS
      · rw [show oI (¬ (f_Mo_find ti n j (ti (32 * (j + 4) + i))) = -1) ((f_Mo_find ti n j (ti (32 * (j + 4) + i))).toNatClampNeg) = -1 from if_neg hc1]
        refine lv_if_ge (tgt := 295) hx hb d_Md_firstChange_263 (by decide) (fun hc => False.elim (by revert hc; decide)) (fun hc => ?_)
        refine lv_iload hx hb d_Md_firstChange_266 (lv_at hl 0 rfl) ?_
        refine lv_iload_n hx hb d_Md_firstChange_268 rfl (lv_at hl 5 rfl) ?_
        refine lv_icmp_lt (tgt := 295) hx hb d_Md_firstChange_269 (by decide) (fun hc2 => ?_) (fun hc2 => ?_)
        · have hc2 : (ti (32 * (j + 4) + i)) < t := hc2
          refine lv_iload hx hb d_Md_firstChange_295 (lv_at hl 2 rfl) ?_
          refine lv_istore (lv' := [(4, .int be), (6, .int (ti (32 * (j + 4) + i))), (5, .int (nI i)), (0, .ref a), (1, .int (nI j)), (2, .int t), (3, .int u)]) hx hb d_Md_firstChange_297 hl (by decide) rfl (fun ls hl => ?_)
          refine lv_iinc (k := 2) (lv' := [(5, .int (nI (i + 1))), (4, .int be), (6, .int (ti (32 * (j + 4) + i))), (0, .ref a), (1, .int (nI j)), (2, .int t), (3, .int u)]) hx hb d_Md_firstChange_299 hl rfl (inc1 _) (by decide) rfl (fun ls hl => ?_)
          refine lv_goto (tgt := 227) hx hb d_Md_firstChange_302 (by decide) ?_
          rw [if_neg hc1, if_pos hc2] at hR
          exact ih (i + 1) be mc it vs se sm rs wk ors owk _ _ ls (by omega) hR (lv_sub hl [0, 1, 3, 4, 5, 6] rfl) hP hS
        · have hc2 : ¬ ((ti (32 * (j + 4) + i)) < t) := hc2
          refine lv_iload hx hb d_Md_firstChange_272 (lv_at hl 0 rfl) ?_
          refine lv_iload_n hx hb d_Md_firstChange_274 rfl (lv_at hl 6 rfl) ?_
          refine lv_icmp_gt (tgt := 295) hx hb d_Md_firstChange_275 (by decide) (fun hc3 => ?_) (fun hc3 => ?_)
          · have hc3 : u < (ti (32 * (j + 4) + i)) := hc3
            refine lv_iload hx hb d_Md_firstChange_295 (lv_at hl 2 rfl) ?_
            refine lv_istore (lv' := [(4, .int be), (6, .int (ti (32 * (j + 4) + i))), (5, .int (nI i)), (0, .ref a), (1, .int (nI j)), (2, .int t), (3, .int u)]) hx hb d_Md_firstChange_297 hl (by decide) rfl (fun ls hl => ?_)
            refine lv_iinc (k := 2) (lv' := [(5, .int (nI (i + 1))), (4, .int be), (6, .int (ti (32 * (j + 4) + i))), (0, .ref a), (1, .int (nI j)), (2, .int t), (3, .int u)]) hx hb d_Md_firstChange_299 hl rfl (inc1 _) (by decide) rfl (fun ls hl => ?_)
            refine lv_goto (tgt := 227) hx hb d_Md_firstChange_302 (by decide) ?_
            rw [if_neg hc1, if_neg hc2, if_pos hc3] at hR
            exact ih (i + 1) be mc it vs se sm rs wk ors owk _ _ ls (by omega) hR (lv_sub hl [0, 1, 3, 4, 5, 6] rfl) hP hS
          · have hc3 : ¬ (u < (ti (32 * (j + 4) + i))) := hc3
            refine lv_iload hx hb d_Md_firstChange_278 (lv_at hl 2 rfl) ?_
            refine lv_if_eq (tgt := 290) hx hb d_Md_firstChange_280 (by decide) (fun hc4 => ?_) (fun hc4 => ?_)
            · have hc4 : be = 0 := hc4
              refine lv_iload hx hb d_Md_firstChange_290 (lv_at hl 0 rfl) ?_
              refine lv_goto (tgt := 297) hx hb d_Md_firstChange_292 (by decide) ?_
              refine lv_istore (lv' := [(4, .int (ti (32 * (j + 4) + i))), (6, .int (ti (32 * (j + 4) + i))), (5, .int (nI i)), (0, .ref a), (1, .int (nI j)), (2, .int t), (3, .int u)]) hx hb d_Md_firstChange_297 hl (by decide) rfl (fun ls hl => ?_)
              refine lv_iinc (k := 2) (lv' := [(5, .int (nI (i + 1))), (4, .int (ti (32 * (j + 4) + i))), (6, .int (ti (32 * (j + 4) + i))), (0, .ref a), (1, .int (nI j)), (2, .int t), (3, .int u)]) hx hb d_Md_firstChange_299 hl rfl (inc1 _) (by decide) rfl (fun ls hl => ?_)
              refine lv_goto (tgt := 227) hx hb d_Md_firstChange_302 (by decide) ?_
              rw [if_neg hc1, if_neg hc2, if_neg hc3, if_pos hc4] at hR
              exact ih (i + 1) (ti (32 * (j + 4) + i)) mc it vs se sm rs wk ors owk _ _ ls (by omega) hR (lv_sub hl [0, 1, 3, 4, 5, 6] rfl) hP hS
            · have hc4 : ¬ (be = 0) := hc4
              refine lv_iload hx hb d_Md_firstChange_283 (lv_at hl 0 rfl) ?_
              refine lv_iload hx hb d_Md_firstChange_285 (lv_at hl 2 rfl) ?_
              refine lv_icmp_ge (tgt := 295) hx hb d_Md_firstChange_287 (by decide) (fun hc5 => ?_) (fun hc5 => ?_)
              · have hc5 : be ≤ (ti (32 * (j + 4) + i)) := hc5
                refine lv_iload hx hb d_Md_firstChange_295 (lv_at hl 2 rfl) ?_
                refine lv_istore (lv' := [(4, .int be), (6, .int (ti (32 * (j + 4) + i))), (5, .int (nI i)), (0, .ref a), (1, .int (nI j)), (2, .int t), (3, .int u)]) hx hb d_Md_firstChange_297 hl (by decide) rfl (fun ls hl => ?_)
                refine lv_iinc (k := 2) (lv' := [(5, .int (nI (i + 1))), (4, .int be), (6, .int (ti (32 * (j + 4) + i))), (0, .ref a), (1, .int (nI j)), (2, .int t), (3, .int u)]) hx hb d_Md_firstChange_299 hl rfl (inc1 _) (by decide) rfl (fun ls hl => ?_)
                refine lv_goto (tgt := 227) hx hb d_Md_firstChange_302 (by decide) ?_
                rw [if_neg hc1, if_neg hc2, if_neg hc3, if_neg hc4, if_pos hc5] at hR
                exact ih (i + 1) be mc it vs se sm rs wk ors owk _ _ ls (by omega) hR (lv_sub hl [0, 1, 3, 4, 5, 6] rfl) hP hS
              · have hc5 : ¬ (be ≤ (ti (32 * (j + 4) + i))) := hc5
                refine lv_iload hx hb d_Md_firstChange_290 (lv_at hl 0 rfl) ?_
                refine lv_goto (tgt := 297) hx hb d_Md_firstChange_292 (by decide) ?_
                refine lv_istore (lv' := [(4, .int (ti (32 * (j + 4) + i))), (6, .int (ti (32 * (j + 4) + i))), (5, .int (nI i)), (0, .ref a), (1, .int (nI j)), (2, .int t), (3, .int u)]) hx hb d_Md_firstChange_297 hl (by decide) rfl (fun ls hl => ?_)
                refine lv_iinc (k := 2) (lv' := [(5, .int (nI (i + 1))), (4, .int (ti (32 * (j + 4) + i))), (6, .int (ti (32 * (j + 4) + i))), (0, .ref a), (1, .int (nI j)), (2, .int t), (3, .int u)]) hx hb d_Md_firstChange_299 hl rfl (inc1 _) (by decide) rfl (fun ls hl => ?_)
                refine lv_goto (tgt := 227) hx hb d_Md_firstChange_302 (by decide) ?_
                rw [if_neg hc1, if_neg hc2, if_neg hc3, if_neg hc4, if_neg hc5] at hR
                exact ih (i + 1) (ti (32 * (j + 4) + i)) mc it vs se sm rs wk ors owk _ _ ls (by omega) hR (lv_sub hl [0, 1, 3, 4, 5, 6] rfl) hP hS
  have key_97 : ∀ (k : Nat) (i : Nat) (be : Int32) (mc : Nat) (it : Nat → Int32) (vs : Nat → Int32) (se : Nat → Int32) (sm : Int64) (rs : Nat → Int64) (wk : Nat → Int32) (ors : Nat → Int64) (owk : Nat → Int32) (H : Heap) (locs : List Loc) (ls : Array Slot), i + k = n → g_Mo_firstChange_0_97 kn ti n n2 j t u k i be mc it vs se sm rs wk ors owk = R → lv_has ls 9 [(5, .int (nI i)), (4, .int be), (0, .ref a), (1, .int (nI j)), (2, .int t), (3, .int u)] → va_P D cls (wMo cI cJ cZ a ((f_Mo_lacksTwo kn j t u).2) kn ed ct ti nm xa xb (nI mc) it vs se sm rs wk ors owk) H → va_S (blk a 15) s.heap H locs → W p l e (headSpec (k_Md_firstChange :: gt) rm_Md_firstChange).room s m ([.ref a, .int (nI j), .int t, .int u] : List Value).toArray below meth c H locs 0 0 (MQ below (Qd (blk a 15) (some (.int R.1)) (fun H => va_P D cls (wMo cI cJ cZ a R.2.1 kn ed ct ti nm xa xb (nI R.2.2.1) R.2.2.2.1 R.2.2.2.2.1 R.2.2.2.2.2.1 R.2.2.2.2.2.2.1 R.2.2.2.2.2.2.2.1 R.2.2.2.2.2.2.2.2.1 R.2.2.2.2.2.2.2.2.2.1 R.2.2.2.2.2.2.2.2.2.2) H)) ([.ref a, .int (nI j), .int t, .int u] : List Value).toArray s 0 0 (blk a 15)) (F0 m 97 ls []) := by
    intro k
    induction k with
    | zero =>
      intro i be mc it vs se sm rs wk ors owk H locs ls hi hR hl hP hS
      have hR : (g_Mo_firstChange_0_227 kn ti n j t u n2 0 be mc it vs se sm rs wk ors owk) = R := hR
      have hD : va_D (blk a 15) (wMo cI cJ cZ a ((f_Mo_lacksTwo kn j t u).2) kn ed ct ti nm xa xb (nI mc) it vs se sm rs wk ors owk) := (blk_D (wMo_in))
      refine lv_iload hx hb d_Md_firstChange_97 (lv_at hl 0 rfl) ?_
      refine lv_aload_n hx hb d_Md_firstChange_99 rfl (lv_at hl 2 rfl) ?_
      refine va_get (D := D) (ci := 9) (v := .ref (a + 3)) (C := R_Md) (T := F_Md) (N := 17) hx hb hg in_Md hown hK hP 0 rfl rfl 3 (Nat.le_of_ble_eq_true rfl) (hg _ tw_709) (fun _ h9 => h9) rfl d_Md_firstChange_100 ?_
      refine lv_iload_n hx hb d_Md_firstChange_103 rfl (lv_at hl 3 rfl) ?_
      refine ep_iald hx hb hK hP 3 0 rfl rfl (i := j) (by omega) (by decide) d_Md_firstChange_104 ?_
      refine lv_topi (fun z9 e_z9 => ?_)
      obtain rfl : z9 = nI n := by rw [e_z9]; exact hct
      refine lv_icmp_ge (tgt := 224) hx hb d_Md_firstChange_105 (by decide) (fun hc => ?_) (fun hc => False.elim (by have hc : ¬ (n ≤ i) := fun h => hc (by exact (nI_leI (a := n) (b := i) (by omega) (by omega)).mpr h); omega))
      refine lv_iconst (v := 0) hx hb d_Md_firstChange_224 (by decide) ?_
      refine lv_istore (lv' := [(5, .int 0), (4, .int be), (0, .ref a), (1, .int (nI j)), (2, .int t), (3, .int u)]) hx hb d_Md_firstChange_225 hl (by decide) rfl (fun ls hl => ?_)
      exact key_227 n2 0 be mc it vs se sm rs wk ors owk _ _ ls (by omega) hR hl hP hS
    | succ k ih =>
      intro i be mc it vs se sm rs wk ors owk H locs ls hi hR hl hP hS
      have hR : (if ¬ (f_Mo_find ti n2 (j + 4) (ti (32 * j + i))) = -1 then (if (lg_cmp (ors ((f_Mo_find ti n2 (j + 4) (ti (32 * j + i))).toNatClampNeg)) (rs i)) = 0 then (if (owk ((f_Mo_find ti n2 (j + 4) (ti (32 * j + i))).toNatClampNeg)) = (wk i) then (g_Mo_firstChange_0_97 kn ti n n2 j t u k (i + 1) be mc it vs se sm rs wk ors owk) else (if (ti (32 * j + i)) < t then (g_Mo_firstChange_0_97 kn ti n n2 j t u k (i + 1) be mc it vs se sm rs wk ors owk) else (if u < (ti (32 * j + i)) then (g_Mo_firstChange_0_97 kn ti n n2 j t u k (i + 1) be mc it vs se sm rs wk ors owk) else (if be = 0 then (g_Mo_firstChange_0_97 kn ti n n2 j t u k (i + 1) (ti (32 * j + i)) mc it vs se sm rs wk ors owk) else (if be ≤ (ti (32 * j + i)) then (g_Mo_firstChange_0_97 kn ti n n2 j t u k (i + 1) be mc it vs se sm rs wk ors owk) else (g_Mo_firstChange_0_97 kn ti n n2 j t u k (i + 1) (ti (32 * j + i)) mc it vs se sm rs wk ors owk)))))) else (if (ti (32 * j + i)) < t then (g_Mo_firstChange_0_97 kn ti n n2 j t u k (i + 1) be mc it vs se sm rs wk ors owk) else (if u < (ti (32 * j + i)) then (g_Mo_firstChange_0_97 kn ti n n2 j t u k (i + 1) be mc it vs se sm rs wk ors owk) else (if be = 0 then (g_Mo_firstChange_0_97 kn ti n n2 j t u k (i + 1) (ti (32 * j + i)) mc it vs se sm rs wk ors owk) else (if be ≤ (ti (32 * j + i)) then (g_Mo_firstChange_0_97 kn ti n n2 j t u k (i + 1) be mc it vs se sm rs wk ors owk) else (g_Mo_firstChange_0_97 kn ti n n2 j t u k (i + 1) (ti (32 * j + i)) mc it vs se sm rs wk ors owk)))))) else (if (ti (32 * j + i)) < t then (g_Mo_firstChange_0_97 kn ti n n2 j t u k (i + 1) be mc it vs se sm rs wk ors owk) else (if u < (ti (32 * j + i)) then (g_Mo_firstChange_0_97 kn ti n n2 j t u k (i + 1) be mc it vs se sm rs wk ors owk) else (if be = 0 then (g_Mo_firstChange_0_97 kn ti n n2 j t u k (i + 1) (ti (32 * j + i)) mc it vs se sm rs wk ors owk) else (if be ≤ (ti (32 * j + i)) then (g_Mo_firstChange_0_97 kn ti n n2 j t u k (i + 1) be mc it vs se sm rs wk ors owk) else (g_Mo_firstChange_0_97 kn ti n n2 j t u k (i + 1) (ti (32 * j + i)) mc it vs se sm rs wk ors owk)))))) = R := hR
      have hD : va_D (blk a 15) (wMo cI cJ cZ a ((f_Mo_lacksTwo kn j t u).2) kn ed ct ti nm xa xb (nI mc) it vs se sm rs wk ors owk) := (blk_D (wMo_in))
      refine lv_iload hx hb d_Md_firstChange_97 (lv_at hl 0 rfl) ?_
      refine lv_aload_n hx hb d_Md_firstChange_99 rfl (lv_at hl 2 rfl) ?_
      refine va_get (D := D) (ci := 9) (v := .ref (a + 3)) (C := R_Md) (T := F_Md) (N := 17) hx hb hg in_Md hown hK hP 0 rfl rfl 3 (Nat.le_of_ble_eq_true rfl) (hg _ tw_709) (fun _ h9 => h9) rfl d_Md_firstChange_100 ?_
      refine lv_iload_n hx hb d_Md_firstChange_103 rfl (lv_at hl 3 rfl) ?_
      refine ep_iald hx hb hK hP 3 0 rfl rfl (i := j) (by omega) (by decide) d_Md_firstChange_104 ?_
      refine lv_topi (fun z9 e_z9 => ?_)
      obtain rfl : z9 = nI n := by rw [e_z9]; exact hct
      refine lv_icmp_ge (tgt := 224) hx hb d_Md_firstChange_105 (by decide) (fun hc => False.elim (by have hc := (nI_leI (a := n) (b := i) (by omega) (by omega)).mp hc; omega)) (fun hc => ?_)
      refine lv_aload_n hx hb d_Md_firstChange_108 rfl (lv_at hl 2 rfl) ?_
      refine va_get (D := D) (ci := 9) (v := .ref (a + 4)) (C := R_Md) (T := F_Md) (N := 17) hx hb hg in_Md hown hK hP 0 rfl rfl 4 (Nat.le_of_ble_eq_true rfl) (hg _ tw_710) (fun _ h9 => h9) rfl d_Md_firstChange_109 ?_
      refine lv_bipush (v := 32) hx hb d_Md_firstChange_112 (by decide) ?_
      refine lv_iload_n hx hb d_Md_firstChange_114 rfl (lv_at hl 3 rfl) ?_
      refine lv_imul hx hb d_Md_firstChange_115 ?_
      refine lv_topi (fun z9 e_z9 => ?_)
      obtain rfl : z9 = nI (32 * j) := by rw [e_z9]; exact (nI_mul 32 j)
      refine lv_iload hx hb d_Md_firstChange_116 (lv_at hl 0 rfl) ?_
      refine lv_iadd hx hb d_Md_firstChange_118 ?_
      refine lv_topi (fun z9 e_z9 => ?_)
      obtain rfl : z9 = nI (32 * j + i) := by rw [e_z9]; exact (nI_add (32 * j) i)
      refine ep_iald hx hb hK hP 4 0 rfl rfl (i := (32 * j + i)) (by omega) (by decide) d_Md_firstChange_119 ?_
      refine lv_istore (lv' := [(6, .int (ti (32 * j + i))), (5, .int (nI i)), (4, .int be), (0, .ref a), (1, .int (nI j)), (2, .int t), (3, .int u)]) hx hb d_Md_firstChange_120 hl (by decide) rfl (fun ls hl => ?_)
      refine lv_aload_n hx hb d_Md_firstChange_122 rfl (lv_at hl 3 rfl) ?_
      refine lv_iload_n hx hb d_Md_firstChange_123 rfl (lv_at hl 4 rfl) ?_
      refine lv_iconst (v := 4) hx hb d_Md_firstChange_124 (by decide) ?_
      refine lv_iadd hx hb d_Md_firstChange_125 ?_
      refine lv_topi (fun z9 e_z9 => ?_)
      obtain rfl : z9 = nI (j + 4) := by rw [e_z9]; exact (nI_add j 4)
      refine lv_iload hx hb d_Md_firstChange_126 (lv_at hl 0 rfl) ?_
      refine ep_callP (W.runV (As := [.int (nI (j + 4)), .int (ti (32 * j + i))]) (rest := []) ⟨hx, hb, hml, hown, hg⟩ (m_Mo_find l D cI cJ cZ cO a ((f_Mo_lacksTwo kn j t u).2) kn ed ct ti nm xa xb (nI mc) it vs se sm rs wk ors owk n2 (j + 4) (ti (32 * j + i)) (by omega) hct2 (by omega) _ rfl) (ep_cwV 2 hg tw_785 tw_787 ts_10 tw_12 tk_Md_find rfl rfl (by decide +kernel) ⟨(Nat.le_of_ble_eq_true rfl), (Nat.le_of_ble_eq_true rfl)⟩) ⟨ep_blind, va_recv (q0 := 0) (ci := 9) hK hP rfl rfl, ep_pre hKn (hP)⟩ rfl rfl hl.1 rfl (lv_room (Nat.le_of_ble_eq_true rfl)) d_Md_firstChange_128 ⟨Nat.zero_le _, Nat.zero_le _⟩) ?_
      refine W.eq (g2 := F0 m 131 ls [.int (f_Mo_find ti n2 (j + 4) (ti (32 * j + i)))]) rfl ?_
      refine lv_topi (fun z8 e_z8 => ?_)
      obtain rfl : z8 = oI (¬ (f_Mo_find ti n2 (j + 4) (ti (32 * j + i))) = -1) ((f_Mo_find ti n2 (j + 4) (ti (32 * j + i))).toNatClampNeg) := by rw [e_z8]; exact (oI_of (fi_at _ _ _ _ (by omega)))
      by_cases hc6 : ¬ (f_Mo_find ti n2 (j + 4) (ti (32 * j + i))) = -1
      · rw [show oI (¬ (f_Mo_find ti n2 (j + 4) (ti (32 * j + i))) = -1) ((f_Mo_find ti n2 (j + 4) (ti (32 * j + i))).toNatClampNeg) = nI ((f_Mo_find ti n2 (j + 4) (ti (32 * j + i))).toNatClampNeg) from if_pos hc6]
        have hp9 : (f_Mo_find ti n2 (j + 4) (ti (32 * j + i))).toNatClampNeg < n2 := fi_lt _ _ _ _ (by omega) hc6
        refine lv_istore (lv' := [(7, .int (nI ((f_Mo_find ti n2 (j + 4) (ti (32 * j + i))).toNatClampNeg))), (6, .int (ti (32 * j + i))), (5, .int (nI i)), (4, .int be), (0, .ref a), (1, .int (nI j)), (2, .int t), (3, .int u)]) hx hb d_Md_firstChange_131 hl (by decide) rfl (fun ls hl => ?_)
        refine lv_iload hx hb d_Md_firstChange_133 (lv_at hl 0 rfl) ?_
        refine lv_if_lt (tgt := 173) hx hb d_Md_firstChange_135 (by decide) (fun hc => False.elim (by have hc := (nI_ltI (a := (f_Mo_find ti n2 (j + 4) (ti (32 * j + i))).toNatClampNeg) (b := 0) (by omega) (by omega)).mp hc; omega)) (fun hc => ?_)
        refine lv_aload_n hx hb d_Md_firstChange_138 rfl (lv_at hl 4 rfl) ?_
        refine va_get (D := D) (ci := 9) (v := .ref (a + 13)) (C := R_Md) (T := F_Md) (N := 17) hx hb hg in_Md hown hK hP 0 rfl rfl 15 (Nat.le_of_ble_eq_true rfl) (hg _ tw_721) (fun _ h9 => h9) rfl d_Md_firstChange_139 ?_
        refine lv_iload hx hb d_Md_firstChange_142 (lv_at hl 0 rfl) ?_
        refine ep_lald hx hb hK hP 13 1 rfl rfl (i := ((f_Mo_find ti n2 (j + 4) (ti (32 * j + i))).toNatClampNeg)) (by omega) (by decide) d_Md_firstChange_144 ?_
        refine lv_aload_n hx hb d_Md_firstChange_145 rfl (lv_at hl 4 rfl) ?_
        refine va_get (D := D) (ci := 9) (v := .ref (a + 11)) (C := R_Md) (T := F_Md) (N := 17) hx hb hg in_Md hown hK hP 0 rfl rfl 13 (Nat.le_of_ble_eq_true rfl) (hg _ tw_719) (fun _ h9 => h9) rfl d_Md_firstChange_146 ?_
        refine lv_iload hx hb d_Md_firstChange_149 (lv_at hl 2 rfl) ?_
        refine ep_lald hx hb hK hP 11 1 rfl rfl (i := i) (by omega) (by decide) d_Md_firstChange_151 ?_
        refine W.lcmp hx hb d_Md_firstChange_152 ?_
        refine lv_if_ne (tgt := 173) hx hb d_Md_firstChange_153 (by decide) (fun hc7 => ?_) (fun hc7 => ?_)
        · have hc7 : ¬ ((lg_cmp (ors ((f_Mo_find ti n2 (j + 4) (ti (32 * j + i))).toNatClampNeg)) (rs i)) = 0) := hc7
          refine lv_iconst (v := 1) hx hb d_Md_firstChange_173 (by decide) ?_
          refine lv_goto (tgt := 178) hx hb d_Md_firstChange_174 (by decide) ?_
          refine lv_istore (lv' := [(8, .int 1), (7, .int (nI ((f_Mo_find ti n2 (j + 4) (ti (32 * j + i))).toNatClampNeg))), (6, .int (ti (32 * j + i))), (5, .int (nI i)), (4, .int be), (0, .ref a), (1, .int (nI j)), (2, .int t), (3, .int u)]) hx hb d_Md_firstChange_178 hl (by decide) rfl (fun ls hl => ?_)
          refine lv_iload hx hb d_Md_firstChange_180 (lv_at hl 0 rfl) ?_
          refine lv_if_eq (tgt := 214) hx hb d_Md_firstChange_182 (by decide) (fun hc => False.elim (by revert hc; decide)) (fun hc => ?_)
          refine lv_iload hx hb d_Md_firstChange_185 (lv_at hl 2 rfl) ?_
          refine lv_iload_n hx hb d_Md_firstChange_187 rfl (lv_at hl 7 rfl) ?_
          refine lv_icmp_lt (tgt := 214) hx hb d_Md_firstChange_188 (by decide) (fun hc8 => ?_) (fun hc8 => ?_)
          · have hc8 : (ti (32 * j + i)) < t := hc8
            refine lv_iload hx hb d_Md_firstChange_214 (lv_at hl 4 rfl) ?_
            refine lv_istore (lv' := [(4, .int be), (8, .int 1), (7, .int (nI ((f_Mo_find ti n2 (j + 4) (ti (32 * j + i))).toNatClampNeg))), (6, .int (ti (32 * j + i))), (5, .int (nI i)), (0, .ref a), (1, .int (nI j)), (2, .int t), (3, .int u)]) hx hb d_Md_firstChange_216 hl (by decide) rfl (fun ls hl => ?_)
            refine lv_iinc (k := 4) (lv' := [(5, .int (nI (i + 1))), (4, .int be), (8, .int 1), (7, .int (nI ((f_Mo_find ti n2 (j + 4) (ti (32 * j + i))).toNatClampNeg))), (6, .int (ti (32 * j + i))), (0, .ref a), (1, .int (nI j)), (2, .int t), (3, .int u)]) hx hb d_Md_firstChange_218 hl rfl (inc1 _) (by decide) rfl (fun ls hl => ?_)
            refine lv_goto (tgt := 97) hx hb d_Md_firstChange_221 (by decide) ?_
            rw [if_pos hc6, if_neg hc7, if_pos hc8] at hR
            exact ih (i + 1) be mc it vs se sm rs wk ors owk _ _ ls (by omega) hR (lv_sub hl [0, 1, 5, 6, 7, 8] rfl) hP hS
          · have hc8 : ¬ ((ti (32 * j + i)) < t) := hc8
            refine lv_iload hx hb d_Md_firstChange_191 (lv_at hl 2 rfl) ?_
            refine lv_iload_n hx hb d_Md_firstChange_193 rfl (lv_at hl 8 rfl) ?_
            refine lv_icmp_gt (tgt := 214) hx hb d_Md_firstChange_194 (by decide) (fun hc9 => ?_) (fun hc9 => ?_)
            · have hc9 : u < (ti (32 * j + i)) := hc9
              refine lv_iload hx hb d_Md_firstChange_214 (lv_at hl 4 rfl) ?_
              refine lv_istore (lv' := [(4, .int be), (8, .int 1), (7, .int (nI ((f_Mo_find ti n2 (j + 4) (ti (32 * j + i))).toNatClampNeg))), (6, .int (ti (32 * j + i))), (5, .int (nI i)), (0, .ref a), (1, .int (nI j)), (2, .int t), (3, .int u)]) hx hb d_Md_firstChange_216 hl (by decide) rfl (fun ls hl => ?_)
              refine lv_iinc (k := 4) (lv' := [(5, .int (nI (i + 1))), (4, .int be), (8, .int 1), (7, .int (nI ((f_Mo_find ti n2 (j + 4) (ti (32 * j + i))).toNatClampNeg))), (6, .int (ti (32 * j + i))), (0, .ref a), (1, .int (nI j)), (2, .int t), (3, .int u)]) hx hb d_Md_firstChange_218 hl rfl (inc1 _) (by decide) rfl (fun ls hl => ?_)
              refine lv_goto (tgt := 97) hx hb d_Md_firstChange_221 (by decide) ?_
              rw [if_pos hc6, if_neg hc7, if_neg hc8, if_pos hc9] at hR
              exact ih (i + 1) be mc it vs se sm rs wk ors owk _ _ ls (by omega) hR (lv_sub hl [0, 1, 5, 6, 7, 8] rfl) hP hS
            · have hc9 : ¬ (u < (ti (32 * j + i))) := hc9
              refine lv_iload hx hb d_Md_firstChange_197 (lv_at hl 4 rfl) ?_
              refine lv_if_eq (tgt := 209) hx hb d_Md_firstChange_199 (by decide) (fun hc10 => ?_) (fun hc10 => ?_)
              · have hc10 : be = 0 := hc10
                refine lv_iload hx hb d_Md_firstChange_209 (lv_at hl 2 rfl) ?_
                refine lv_goto (tgt := 216) hx hb d_Md_firstChange_211 (by decide) ?_
                refine lv_istore (lv' := [(4, .int (ti (32 * j + i))), (8, .int 1), (7, .int (nI ((f_Mo_find ti n2 (j + 4) (ti (32 * j + i))).toNatClampNeg))), (6, .int (ti (32 * j + i))), (5, .int (nI i)), (0, .ref a), (1, .int (nI j)), (2, .int t), (3, .int u)]) hx hb d_Md_firstChange_216 hl (by decide) rfl (fun ls hl => ?_)
                refine lv_iinc (k := 4) (lv' := [(5, .int (nI (i + 1))), (4, .int (ti (32 * j + i))), (8, .int 1), (7, .int (nI ((f_Mo_find ti n2 (j + 4) (ti (32 * j + i))).toNatClampNeg))), (6, .int (ti (32 * j + i))), (0, .ref a), (1, .int (nI j)), (2, .int t), (3, .int u)]) hx hb d_Md_firstChange_218 hl rfl (inc1 _) (by decide) rfl (fun ls hl => ?_)
                refine lv_goto (tgt := 97) hx hb d_Md_firstChange_221 (by decide) ?_
                rw [if_pos hc6, if_neg hc7, if_neg hc8, if_neg hc9, if_pos hc10] at hR
                exact ih (i + 1) (ti (32 * j + i)) mc it vs se sm rs wk ors owk _ _ ls (by omega) hR (lv_sub hl [0, 1, 5, 6, 7, 8] rfl) hP hS
              · have hc10 : ¬ (be = 0) := hc10
                refine lv_iload hx hb d_Md_firstChange_202 (lv_at hl 2 rfl) ?_
                refine lv_iload hx hb d_Md_firstChange_204 (lv_at hl 4 rfl) ?_
                refine lv_icmp_ge (tgt := 214) hx hb d_Md_firstChange_206 (by decide) (fun hc11 => ?_) (fun hc11 => ?_)
                · have hc11 : be ≤ (ti (32 * j + i)) := hc11
                  refine lv_iload hx hb d_Md_firstChange_214 (lv_at hl 4 rfl) ?_
                  refine lv_istore (lv' := [(4, .int be), (8, .int 1), (7, .int (nI ((f_Mo_find ti n2 (j + 4) (ti (32 * j + i))).toNatClampNeg))), (6, .int (ti (32 * j + i))), (5, .int (nI i)), (0, .ref a), (1, .int (nI j)), (2, .int t), (3, .int u)]) hx hb d_Md_firstChange_216 hl (by decide) rfl (fun ls hl => ?_)
                  refine lv_iinc (k := 4) (lv' := [(5, .int (nI (i + 1))), (4, .int be), (8, .int 1), (7, .int (nI ((f_Mo_find ti n2 (j + 4) (ti (32 * j + i))).toNatClampNeg))), (6, .int (ti (32 * j + i))), (0, .ref a), (1, .int (nI j)), (2, .int t), (3, .int u)]) hx hb d_Md_firstChange_218 hl rfl (inc1 _) (by decide) rfl (fun ls hl => ?_)
                  refine lv_goto (tgt := 97) hx hb d_Md_firstChange_221 (by decide) ?_
                  rw [if_pos hc6, if_neg hc7, if_neg hc8, if_neg hc9, if_neg hc10, if_pos hc11] at hR
                  exact ih (i + 1) be mc it vs se sm rs wk ors owk _ _ ls (by omega) hR (lv_sub hl [0, 1, 5, 6, 7, 8] rfl) hP hS
                · have hc11 : ¬ (be ≤ (ti (32 * j + i))) := hc11
                  refine lv_iload hx hb d_Md_firstChange_209 (lv_at hl 2 rfl) ?_
                  refine lv_goto (tgt := 216) hx hb d_Md_firstChange_211 (by decide) ?_
                  refine lv_istore (lv' := [(4, .int (ti (32 * j + i))), (8, .int 1), (7, .int (nI ((f_Mo_find ti n2 (j + 4) (ti (32 * j + i))).toNatClampNeg))), (6, .int (ti (32 * j + i))), (5, .int (nI i)), (0, .ref a), (1, .int (nI j)), (2, .int t), (3, .int u)]) hx hb d_Md_firstChange_216 hl (by decide) rfl (fun ls hl => ?_)
                  refine lv_iinc (k := 4) (lv' := [(5, .int (nI (i + 1))), (4, .int (ti (32 * j + i))), (8, .int 1), (7, .int (nI ((f_Mo_find ti n2 (j + 4) (ti (32 * j + i))).toNatClampNeg))), (6, .int (ti (32 * j + i))), (0, .ref a), (1, .int (nI j)), (2, .int t), (3, .int u)]) hx hb d_Md_firstChange_218 hl rfl (inc1 _) (by decide) rfl (fun ls hl => ?_)
                  refine lv_goto (tgt := 97) hx hb d_Md_firstChange_221 (by decide) ?_
                  rw [if_pos hc6, if_neg hc7, if_neg hc8, if_neg hc9, if_neg hc10, if_neg hc11] at hR
                  exact ih (i + 1) (ti (32 * j + i)) mc it vs se sm rs wk ors owk _ _ ls (by omega) hR (lv_sub hl [0, 1, 5, 6, 7, 8] rfl) hP hS
        · have hc7 : (lg_cmp (ors ((f_Mo_find ti n2 (j + 4) (ti (32 * j + i))).toNatClampNeg)) (rs i)) = 0 := hc7
          refine lv_aload_n hx hb d_Md_firstChange_156 rfl (lv_at hl 4 rfl) ?_
          refine va_get (D := D) (ci := 9) (v := .ref (a + 14)) (C := R_Md) (T := F_Md) (N := 17) hx hb hg in_Md hown hK hP 0 rfl rfl 16 (Nat.le_of_ble_eq_true rfl) (hg _ tw_722) (fun _ h9 => h9) rfl d_Md_firstChange_157 ?_
          refine lv_iload hx hb d_Md_firstChange_160 (lv_at hl 0 rfl) ?_
          refine ep_zald hx hb hK hP 14 2 rfl rfl (i := ((f_Mo_find ti n2 (j + 4) (ti (32 * j + i))).toNatClampNeg)) (by omega) (by decide) d_Md_firstChange_162 ?_
          refine lv_aload_n hx hb d_Md_firstChange_163 rfl (lv_at hl 4 rfl) ?_
          refine va_get (D := D) (ci := 9) (v := .ref (a + 12)) (C := R_Md) (T := F_Md) (N := 17) hx hb hg in_Md hown hK hP 0 rfl rfl 14 (Nat.le_of_ble_eq_true rfl) (hg _ tw_720) (fun _ h9 => h9) rfl d_Md_firstChange_164 ?_
          refine lv_iload hx hb d_Md_firstChange_167 (lv_at hl 2 rfl) ?_
          refine ep_zald hx hb hK hP 12 2 rfl rfl (i := i) (by omega) (by decide) d_Md_firstChange_169 ?_
          refine lv_icmp_eq (tgt := 177) hx hb d_Md_firstChange_170 (by decide) (fun hc12 => ?_) (fun hc12 => ?_)
          · have hc12 : (owk ((f_Mo_find ti n2 (j + 4) (ti (32 * j + i))).toNatClampNeg)) = (wk i) := hc12
            refine lv_iconst (v := 0) hx hb d_Md_firstChange_177 (by decide) ?_
            refine lv_istore (lv' := [(8, .int 0), (7, .int (nI ((f_Mo_find ti n2 (j + 4) (ti (32 * j + i))).toNatClampNeg))), (6, .int (ti (32 * j + i))), (5, .int (nI i)), (4, .int be), (0, .ref a), (1, .int (nI j)), (2, .int t), (3, .int u)]) hx hb d_Md_firstChange_178 hl (by decide) rfl (fun ls hl => ?_)
            refine lv_iload hx hb d_Md_firstChange_180 (lv_at hl 0 rfl) ?_
            refine lv_if_eq (tgt := 214) hx hb d_Md_firstChange_182 (by decide) (fun hc => ?_) (fun hc => False.elim (by revert hc; decide))
            refine lv_iload hx hb d_Md_firstChange_214 (lv_at hl 4 rfl) ?_
            refine lv_istore (lv' := [(4, .int be), (8, .int 0), (7, .int (nI ((f_Mo_find ti n2 (j + 4) (ti (32 * j + i))).toNatClampNeg))), (6, .int (ti (32 * j + i))), (5, .int (nI i)), (0, .ref a), (1, .int (nI j)), (2, .int t), (3, .int u)]) hx hb d_Md_firstChange_216 hl (by decide) rfl (fun ls hl => ?_)
            refine lv_iinc (k := 4) (lv' := [(5, .int (nI (i + 1))), (4, .int be), (8, .int 0), (7, .int (nI ((f_Mo_find ti n2 (j + 4) (ti (32 * j + i))).toNatClampNeg))), (6, .int (ti (32 * j + i))), (0, .ref a), (1, .int (nI j)), (2, .int t), (3, .int u)]) hx hb d_Md_firstChange_218 hl rfl (inc1 _) (by decide) rfl (fun ls hl => ?_)
            refine lv_goto (tgt := 97) hx hb d_Md_firstChange_221 (by decide) ?_
            rw [if_pos hc6, if_pos hc7, if_pos hc12] at hR
            exact ih (i + 1) be mc it vs se sm rs wk ors owk _ _ ls (by omega) hR (lv_sub hl [0, 1, 5, 6, 7, 8] rfl) hP hS
          · have hc12 : ¬ ((owk ((f_Mo_find ti n2 (j + 4) (ti (32 * j + i))).toNatClampNeg)) = (wk i)) := hc12
            refine lv_iconst (v := 1) hx hb d_Md_firstChange_173 (by decide) ?_
            refine lv_goto (tgt := 178) hx hb d_Md_firstChange_174 (by decide) ?_
            refine lv_istore (lv' := [(8, .int 1), (7, .int (nI ((f_Mo_find ti n2 (j + 4) (ti (32 * j + i))).toNatClampNeg))), (6, .int (ti (32 * j + i))), (5, .int (nI i)), (4, .int be), (0, .ref a), (1, .int (nI j)), (2, .int t), (3, .int u)]) hx hb d_Md_firstChange_178 hl (by decide) rfl (fun ls hl => ?_)
            refine lv_iload hx hb d_Md_firstChange_180 (lv_at hl 0 rfl) ?_
            refine lv_if_eq (tgt := 214) hx hb d_Md_firstChange_182 (by decide) (fun hc => False.elim (by revert hc; decide)) (fun hc => ?_)
            refine lv_iload hx hb d_Md_firstChange_185 (lv_at hl 2 rfl) ?_
            refine lv_iload_n hx hb d_Md_firstChange_187 rfl (lv_at hl 7 rfl) ?_
            refine lv_icmp_lt (tgt := 214) hx hb d_Md_firstChange_188 (by decide) (fun hc13 => ?_) (fun hc13 => ?_)
            · have hc13 : (ti (32 * j + i)) < t := hc13
              refine lv_iload hx hb d_Md_firstChange_214 (lv_at hl 4 rfl) ?_
              refine lv_istore (lv' := [(4, .int be), (8, .int 1), (7, .int (nI ((f_Mo_find ti n2 (j + 4) (ti (32 * j + i))).toNatClampNeg))), (6, .int (ti (32 * j + i))), (5, .int (nI i)), (0, .ref a), (1, .int (nI j)), (2, .int t), (3, .int u)]) hx hb d_Md_firstChange_216 hl (by decide) rfl (fun ls hl => ?_)
              refine lv_iinc (k := 4) (lv' := [(5, .int (nI (i + 1))), (4, .int be), (8, .int 1), (7, .int (nI ((f_Mo_find ti n2 (j + 4) (ti (32 * j + i))).toNatClampNeg))), (6, .int (ti (32 * j + i))), (0, .ref a), (1, .int (nI j)), (2, .int t), (3, .int u)]) hx hb d_Md_firstChange_218 hl rfl (inc1 _) (by decide) rfl (fun ls hl => ?_)
              refine lv_goto (tgt := 97) hx hb d_Md_firstChange_221 (by decide) ?_
              rw [if_pos hc6, if_pos hc7, if_neg hc12, if_pos hc13] at hR
              exact ih (i + 1) be mc it vs se sm rs wk ors owk _ _ ls (by omega) hR (lv_sub hl [0, 1, 5, 6, 7, 8] rfl) hP hS
            · have hc13 : ¬ ((ti (32 * j + i)) < t) := hc13
              refine lv_iload hx hb d_Md_firstChange_191 (lv_at hl 2 rfl) ?_
              refine lv_iload_n hx hb d_Md_firstChange_193 rfl (lv_at hl 8 rfl) ?_
              refine lv_icmp_gt (tgt := 214) hx hb d_Md_firstChange_194 (by decide) (fun hc14 => ?_) (fun hc14 => ?_)
              · have hc14 : u < (ti (32 * j + i)) := hc14
                refine lv_iload hx hb d_Md_firstChange_214 (lv_at hl 4 rfl) ?_
                refine lv_istore (lv' := [(4, .int be), (8, .int 1), (7, .int (nI ((f_Mo_find ti n2 (j + 4) (ti (32 * j + i))).toNatClampNeg))), (6, .int (ti (32 * j + i))), (5, .int (nI i)), (0, .ref a), (1, .int (nI j)), (2, .int t), (3, .int u)]) hx hb d_Md_firstChange_216 hl (by decide) rfl (fun ls hl => ?_)
                refine lv_iinc (k := 4) (lv' := [(5, .int (nI (i + 1))), (4, .int be), (8, .int 1), (7, .int (nI ((f_Mo_find ti n2 (j + 4) (ti (32 * j + i))).toNatClampNeg))), (6, .int (ti (32 * j + i))), (0, .ref a), (1, .int (nI j)), (2, .int t), (3, .int u)]) hx hb d_Md_firstChange_218 hl rfl (inc1 _) (by decide) rfl (fun ls hl => ?_)
                refine lv_goto (tgt := 97) hx hb d_Md_firstChange_221 (by decide) ?_
                rw [if_pos hc6, if_pos hc7, if_neg hc12, if_neg hc13, if_pos hc14] at hR
                exact ih (i + 1) be mc it vs se sm rs wk ors owk _ _ ls (by omega) hR (lv_sub hl [0, 1, 5, 6, 7, 8] rfl) hP hS
              · have hc14 : ¬ (u < (ti (32 * j + i))) := hc14
                refine lv_iload hx hb d_Md_firstChange_197 (lv_at hl 4 rfl) ?_
                refine lv_if_eq (tgt := 209) hx hb d_Md_firstChange_199 (by decide) (fun hc15 => ?_) (fun hc15 => ?_)
                · have hc15 : be = 0 := hc15
                  refine lv_iload hx hb d_Md_firstChange_209 (lv_at hl 2 rfl) ?_
                  refine lv_goto (tgt := 216) hx hb d_Md_firstChange_211 (by decide) ?_
                  refine lv_istore (lv' := [(4, .int (ti (32 * j + i))), (8, .int 1), (7, .int (nI ((f_Mo_find ti n2 (j + 4) (ti (32 * j + i))).toNatClampNeg))), (6, .int (ti (32 * j + i))), (5, .int (nI i)), (0, .ref a), (1, .int (nI j)), (2, .int t), (3, .int u)]) hx hb d_Md_firstChange_216 hl (by decide) rfl (fun ls hl => ?_)
                  refine lv_iinc (k := 4) (lv' := [(5, .int (nI (i + 1))), (4, .int (ti (32 * j + i))), (8, .int 1), (7, .int (nI ((f_Mo_find ti n2 (j + 4) (ti (32 * j + i))).toNatClampNeg))), (6, .int (ti (32 * j + i))), (0, .ref a), (1, .int (nI j)), (2, .int t), (3, .int u)]) hx hb d_Md_firstChange_218 hl rfl (inc1 _) (by decide) rfl (fun ls hl => ?_)
                  refine lv_goto (tgt := 97) hx hb d_Md_firstChange_221 (by decide) ?_
                  rw [if_pos hc6, if_pos hc7, if_neg hc12, if_neg hc13, if_neg hc14, if_pos hc15] at hR
                  exact ih (i + 1) (ti (32 * j + i)) mc it vs se sm rs wk ors owk _ _ ls (by omega) hR (lv_sub hl [0, 1, 5, 6, 7, 8] rfl) hP hS
                · have hc15 : ¬ (be = 0) := hc15
                  refine lv_iload hx hb d_Md_firstChange_202 (lv_at hl 2 rfl) ?_
                  refine lv_iload hx hb d_Md_firstChange_204 (lv_at hl 4 rfl) ?_
                  refine lv_icmp_ge (tgt := 214) hx hb d_Md_firstChange_206 (by decide) (fun hc16 => ?_) (fun hc16 => ?_)
                  · have hc16 : be ≤ (ti (32 * j + i)) := hc16
                    refine lv_iload hx hb d_Md_firstChange_214 (lv_at hl 4 rfl) ?_
                    refine lv_istore (lv' := [(4, .int be), (8, .int 1), (7, .int (nI ((f_Mo_find ti n2 (j + 4) (ti (32 * j + i))).toNatClampNeg))), (6, .int (ti (32 * j + i))), (5, .int (nI i)), (0, .ref a), (1, .int (nI j)), (2, .int t), (3, .int u)]) hx hb d_Md_firstChange_216 hl (by decide) rfl (fun ls hl => ?_)
                    refine lv_iinc (k := 4) (lv' := [(5, .int (nI (i + 1))), (4, .int be), (8, .int 1), (7, .int (nI ((f_Mo_find ti n2 (j + 4) (ti (32 * j + i))).toNatClampNeg))), (6, .int (ti (32 * j + i))), (0, .ref a), (1, .int (nI j)), (2, .int t), (3, .int u)]) hx hb d_Md_firstChange_218 hl rfl (inc1 _) (by decide) rfl (fun ls hl => ?_)
                    refine lv_goto (tgt := 97) hx hb d_Md_firstChange_221 (by decide) ?_
                    rw [if_pos hc6, if_pos hc7, if_neg hc12, if_neg hc13, if_neg hc14, if_neg hc15, if_pos hc16] at hR
                    exact ih (i + 1) be mc it vs se sm rs wk ors owk _ _ ls (by omega) hR (lv_sub hl [0, 1, 5, 6, 7, 8] rfl) hP hS
                  · have hc16 : ¬ (be ≤ (ti (32 * j + i))) := hc16
                    refine lv_iload hx hb d_Md_firstChange_209 (lv_at hl 2 rfl) ?_
                    refine lv_goto (tgt := 216) hx hb d_Md_firstChange_211 (by decide) ?_
                    refine lv_istore (lv' := [(4, .int (ti (32 * j + i))), (8, .int 1), (7, .int (nI ((f_Mo_find ti n2 (j + 4) (ti (32 * j + i))).toNatClampNeg))), (6, .int (ti (32 * j + i))), (5, .int (nI i)), (0, .ref a), (1, .int (nI j)), (2, .int t), (3, .int u)]) hx hb d_Md_firstChange_216 hl (by decide) rfl (fun ls hl => ?_)
                    refine lv_iinc (k := 4) (lv' := [(5, .int (nI (i + 1))), (4, .int (ti (32 * j + i))), (8, .int 1), (7, .int (nI ((f_Mo_find ti n2 (j + 4) (ti (32 * j + i))).toNatClampNeg))), (6, .int (ti (32 * j + i))), (0, .ref a), (1, .int (nI j)), (2, .int t), (3, .int u)]) hx hb d_Md_firstChange_218 hl rfl (inc1 _) (by decide) rfl (fun ls hl => ?_)
                    refine lv_goto (tgt := 97) hx hb d_Md_firstChange_221 (by decide) ?_
                    rw [if_pos hc6, if_pos hc7, if_neg hc12, if_neg hc13, if_neg hc14, if_neg hc15, if_neg hc16] at hR
                    exact ih (i + 1) (ti (32 * j + i)) mc it vs se sm rs wk ors owk _ _ ls (by omega) hR (lv_sub hl [0, 1, 5, 6, 7, 8] rfl) hP hS
      · rw [show oI (¬ (f_Mo_find ti n2 (j + 4) (ti (32 * j + i))) = -1) ((f_Mo_find ti n2 (j + 4) (ti (32 * j + i))).toNatClampNeg) = -1 from if_neg hc6]
        refine lv_istore (lv' := [(7, .int (-1)), (6, .int (ti (32 * j + i))), (5, .int (nI i)), (4, .int be), (0, .ref a), (1, .int (nI j)), (2, .int t), (3, .int u)]) hx hb d_Md_firstChange_131 hl (by decide) rfl (fun ls hl => ?_)
        refine lv_iload hx hb d_Md_firstChange_133 (lv_at hl 0 rfl) ?_
        refine lv_if_lt (tgt := 173) hx hb d_Md_firstChange_135 (by decide) (fun hc => ?_) (fun hc => False.elim (by revert hc; decide))
        refine lv_iconst (v := 1) hx hb d_Md_firstChange_173 (by decide) ?_
        refine lv_goto (tgt := 178) hx hb d_Md_firstChange_174 (by decide) ?_
        refine lv_istore (lv' := [(8, .int 1), (7, .int (-1)), (6, .int (ti (32 * j + i))), (5, .int (nI i)), (4, .int be), (0, .ref a), (1, .int (nI j)), (2, .int t), (3, .int u)]) hx hb d_Md_firstChange_178 hl (by decide) rfl (fun ls hl => ?_)
        refine lv_iload hx hb d_Md_firstChange_180 (lv_at hl 0 rfl) ?_
        refine lv_if_eq (tgt := 214) hx hb d_Md_firstChange_182 (by decide) (fun hc => False.elim (by revert hc; decide)) (fun hc => ?_)
        refine lv_iload hx hb d_Md_firstChange_185 (lv_at hl 2 rfl) ?_
        refine lv_iload_n hx hb d_Md_firstChange_187 rfl (lv_at hl 7 rfl) ?_
        refine lv_icmp_lt (tgt := 214) hx hb d_Md_firstChange_188 (by decide) (fun hc17 => ?_) (fun hc17 => ?_)
        · have hc17 : (ti (32 * j + i)) < t := hc17
          refine lv_iload hx hb d_Md_firstChange_214 (lv_at hl 4 rfl) ?_
          refine lv_istore (lv' := [(4, .int be), (8, .int 1), (7, .int (-1)), (6, .int (ti (32 * j + i))), (5, .int (nI i)), (0, .ref a), (1, .int (nI j)), (2, .int t), (3, .int u)]) hx hb d_Md_firstChange_216 hl (by decide) rfl (fun ls hl => ?_)
          refine lv_iinc (k := 4) (lv' := [(5, .int (nI (i + 1))), (4, .int be), (8, .int 1), (7, .int (-1)), (6, .int (ti (32 * j + i))), (0, .ref a), (1, .int (nI j)), (2, .int t), (3, .int u)]) hx hb d_Md_firstChange_218 hl rfl (inc1 _) (by decide) rfl (fun ls hl => ?_)
          refine lv_goto (tgt := 97) hx hb d_Md_firstChange_221 (by decide) ?_
          rw [if_neg hc6, if_pos hc17] at hR
          exact ih (i + 1) be mc it vs se sm rs wk ors owk _ _ ls (by omega) hR (lv_sub hl [0, 1, 5, 6, 7, 8] rfl) hP hS
        · have hc17 : ¬ ((ti (32 * j + i)) < t) := hc17
          refine lv_iload hx hb d_Md_firstChange_191 (lv_at hl 2 rfl) ?_
          refine lv_iload_n hx hb d_Md_firstChange_193 rfl (lv_at hl 8 rfl) ?_
          refine lv_icmp_gt (tgt := 214) hx hb d_Md_firstChange_194 (by decide) (fun hc18 => ?_) (fun hc18 => ?_)
          · have hc18 : u < (ti (32 * j + i)) := hc18
            refine lv_iload hx hb d_Md_firstChange_214 (lv_at hl 4 rfl) ?_
            refine lv_istore (lv' := [(4, .int be), (8, .int 1), (7, .int (-1)), (6, .int (ti (32 * j + i))), (5, .int (nI i)), (0, .ref a), (1, .int (nI j)), (2, .int t), (3, .int u)]) hx hb d_Md_firstChange_216 hl (by decide) rfl (fun ls hl => ?_)
            refine lv_iinc (k := 4) (lv' := [(5, .int (nI (i + 1))), (4, .int be), (8, .int 1), (7, .int (-1)), (6, .int (ti (32 * j + i))), (0, .ref a), (1, .int (nI j)), (2, .int t), (3, .int u)]) hx hb d_Md_firstChange_218 hl rfl (inc1 _) (by decide) rfl (fun ls hl => ?_)
            refine lv_goto (tgt := 97) hx hb d_Md_firstChange_221 (by decide) ?_
            rw [if_neg hc6, if_neg hc17, if_pos hc18] at hR
            exact ih (i + 1) be mc it vs se sm rs wk ors owk _ _ ls (by omega) hR (lv_sub hl [0, 1, 5, 6, 7, 8] rfl) hP hS
          · have hc18 : ¬ (u < (ti (32 * j + i))) := hc18
            refine lv_iload hx hb d_Md_firstChange_197 (lv_at hl 4 rfl) ?_
            refine lv_if_eq (tgt := 209) hx hb d_Md_firstChange_199 (by decide) (fun hc19 => ?_) (fun hc19 => ?_)
            · have hc19 : be = 0 := hc19
              refine lv_iload hx hb d_Md_firstChange_209 (lv_at hl 2 rfl) ?_
              refine lv_goto (tgt := 216) hx hb d_Md_firstChange_211 (by decide) ?_
              refine lv_istore (lv' := [(4, .int (ti (32 * j + i))), (8, .int 1), (7, .int (-1)), (6, .int (ti (32 * j + i))), (5, .int (nI i)), (0, .ref a), (1, .int (nI j)), (2, .int t), (3, .int u)]) hx hb d_Md_firstChange_216 hl (by decide) rfl (fun ls hl => ?_)
              refine lv_iinc (k := 4) (lv' := [(5, .int (nI (i + 1))), (4, .int (ti (32 * j + i))), (8, .int 1), (7, .int (-1)), (6, .int (ti (32 * j + i))), (0, .ref a), (1, .int (nI j)), (2, .int t), (3, .int u)]) hx hb d_Md_firstChange_218 hl rfl (inc1 _) (by decide) rfl (fun ls hl => ?_)
              refine lv_goto (tgt := 97) hx hb d_Md_firstChange_221 (by decide) ?_
              rw [if_neg hc6, if_neg hc17, if_neg hc18, if_pos hc19] at hR
              exact ih (i + 1) (ti (32 * j + i)) mc it vs se sm rs wk ors owk _ _ ls (by omega) hR (lv_sub hl [0, 1, 5, 6, 7, 8] rfl) hP hS
            · have hc19 : ¬ (be = 0) := hc19
              refine lv_iload hx hb d_Md_firstChange_202 (lv_at hl 2 rfl) ?_
              refine lv_iload hx hb d_Md_firstChange_204 (lv_at hl 4 rfl) ?_
              refine lv_icmp_ge (tgt := 214) hx hb d_Md_firstChange_206 (by decide) (fun hc20 => ?_) (fun hc20 => ?_)
              · have hc20 : be ≤ (ti (32 * j + i)) := hc20
                refine lv_iload hx hb d_Md_firstChange_214 (lv_at hl 4 rfl) ?_
                refine lv_istore (lv' := [(4, .int be), (8, .int 1), (7, .int (-1)), (6, .int (ti (32 * j + i))), (5, .int (nI i)), (0, .ref a), (1, .int (nI j)), (2, .int t), (3, .int u)]) hx hb d_Md_firstChange_216 hl (by decide) rfl (fun ls hl => ?_)
                refine lv_iinc (k := 4) (lv' := [(5, .int (nI (i + 1))), (4, .int be), (8, .int 1), (7, .int (-1)), (6, .int (ti (32 * j + i))), (0, .ref a), (1, .int (nI j)), (2, .int t), (3, .int u)]) hx hb d_Md_firstChange_218 hl rfl (inc1 _) (by decide) rfl (fun ls hl => ?_)
                refine lv_goto (tgt := 97) hx hb d_Md_firstChange_221 (by decide) ?_
                rw [if_neg hc6, if_neg hc17, if_neg hc18, if_neg hc19, if_pos hc20] at hR
                exact ih (i + 1) be mc it vs se sm rs wk ors owk _ _ ls (by omega) hR (lv_sub hl [0, 1, 5, 6, 7, 8] rfl) hP hS
              · have hc20 : ¬ (be ≤ (ti (32 * j + i))) := hc20
                refine lv_iload hx hb d_Md_firstChange_209 (lv_at hl 2 rfl) ?_
                refine lv_goto (tgt := 216) hx hb d_Md_firstChange_211 (by decide) ?_
                refine lv_istore (lv' := [(4, .int (ti (32 * j + i))), (8, .int 1), (7, .int (-1)), (6, .int (ti (32 * j + i))), (5, .int (nI i)), (0, .ref a), (1, .int (nI j)), (2, .int t), (3, .int u)]) hx hb d_Md_firstChange_216 hl (by decide) rfl (fun ls hl => ?_)
                refine lv_iinc (k := 4) (lv' := [(5, .int (nI (i + 1))), (4, .int (ti (32 * j + i))), (8, .int 1), (7, .int (-1)), (6, .int (ti (32 * j + i))), (0, .ref a), (1, .int (nI j)), (2, .int t), (3, .int u)]) hx hb d_Md_firstChange_218 hl rfl (inc1 _) (by decide) rfl (fun ls hl => ?_)
                refine lv_goto (tgt := 97) hx hb d_Md_firstChange_221 (by decide) ?_
                rw [if_neg hc6, if_neg hc17, if_neg hc18, if_neg hc19, if_neg hc20] at hR
                exact ih (i + 1) (ti (32 * j + i)) mc it vs se sm rs wk ors owk _ _ ls (by omega) hR (lv_sub hl [0, 1, 5, 6, 7, 8] rfl) hP hS
  have key_38 : ∀ (k : Nat) (i : Nat) (mc : Nat) (it : Nat → Int32) (vs : Nat → Int32) (se : Nat → Int32) (sm : Int64) (rs : Nat → Int64) (wk : Nat → Int32) (ors : Nat → Int64) (owk : Nat → Int32) (H : Heap) (locs : List Loc) (ls : Array Slot), i + k = 32 → bz wk → g_Mo_firstChange_0_38 kn ti nm xa n n2 j t u k i mc it vs se sm rs wk ors owk = R → lv_has ls 9 [(4, .int (nI i)), (0, .ref a), (1, .int (nI j)), (2, .int t), (3, .int u)] → va_P D cls (wMo cI cJ cZ a ((f_Mo_lacksTwo kn j t u).2) kn ed ct ti nm xa xb (nI mc) it vs se sm rs wk ors owk) H → va_S (blk a 15) s.heap H locs → W p l e (headSpec (k_Md_firstChange :: gt) rm_Md_firstChange).room s m ([.ref a, .int (nI j), .int t, .int u] : List Value).toArray below meth c H locs 0 0 (MQ below (Qd (blk a 15) (some (.int R.1)) (fun H => va_P D cls (wMo cI cJ cZ a R.2.1 kn ed ct ti nm xa xb (nI R.2.2.1) R.2.2.2.1 R.2.2.2.2.1 R.2.2.2.2.2.1 R.2.2.2.2.2.2.1 R.2.2.2.2.2.2.2.1 R.2.2.2.2.2.2.2.2.1 R.2.2.2.2.2.2.2.2.2.1 R.2.2.2.2.2.2.2.2.2.2) H)) ([.ref a, .int (nI j), .int t, .int u] : List Value).toArray s 0 0 (blk a 15)) (F0 m 38 ls []) := by
    intro k
    induction k with
    | zero =>
      intro i mc it vs se sm rs wk ors owk H locs ls hi hb9 hR hl hP hS
      have hR : (g_Mo_firstChange_0_97 kn ti n n2 j t u n 0 0 ((f_Mo_run_0 ti nm xa it vs se rs wk n j 1000000000).1) ((f_Mo_run_0 ti nm xa it vs se rs wk n j 1000000000).2.1) ((f_Mo_run_0 ti nm xa it vs se rs wk n j 1000000000).2.2.1) ((f_Mo_run_0 ti nm xa it vs se rs wk n j 1000000000).2.2.2.1) ((f_Mo_run_0 ti nm xa it vs se rs wk n j 1000000000).2.2.2.2.1) ((f_Mo_run_0 ti nm xa it vs se rs wk n j 1000000000).2.2.2.2.2.1) ((f_Mo_run_0 ti nm xa it vs se rs wk n j 1000000000).2.2.2.2.2.2) ors owk) = R := hR
      have hD : va_D (blk a 15) (wMo cI cJ cZ a ((f_Mo_lacksTwo kn j t u).2) kn ed ct ti nm xa xb (nI mc) it vs se sm rs wk ors owk) := (blk_D (wMo_in))
      refine lv_iload hx hb d_Md_firstChange_38 (lv_at hl 0 rfl) ?_
      refine lv_bipush (v := 32) hx hb d_Md_firstChange_40 (by decide) ?_
      refine lv_icmp_ge (tgt := 79) hx hb d_Md_firstChange_42 (by decide) (fun hc => ?_) (fun hc => False.elim (by have hc : ¬ (32 ≤ i) := fun h => hc (by exact (nI_leI (a := 32) (b := i) (by omega) (by omega)).mpr h); omega))
      refine lv_aload_n hx hb d_Md_firstChange_79 rfl (lv_at hl 1 rfl) ?_
      refine lv_iload_n hx hb d_Md_firstChange_80 rfl (lv_at hl 2 rfl) ?_
      refine lv_aload_n hx hb d_Md_firstChange_81 rfl (lv_at hl 1 rfl) ?_
      refine lv_iload_n hx hb d_Md_firstChange_82 rfl (lv_at hl 2 rfl) ?_
      refine ep_callP (W.runV (As := [.int (nI j)]) (rest := [.int (nI j), .ref a]) ⟨hx, hb, hml, hown, hg⟩ (m_Mo_kindOf l D cI cJ cZ cO a ((f_Mo_lacksTwo kn j t u).2) kn ed ct ti nm xa xb (nI mc) it vs se sm rs wk ors owk j (by omega) _ rfl) (ep_cwV 1 hg tw_789 tw_791 ts_11 tw_12 tk_Md_kindOf rfl rfl (by decide +kernel) ⟨(Nat.le_of_ble_eq_true rfl), (Nat.le_of_ble_eq_true rfl)⟩) ⟨ep_blind, va_recv (q0 := 0) (ci := 9) hK hP rfl rfl, ep_pre hKn (hP)⟩ rfl rfl hl.1 rfl (lv_room (Nat.le_of_ble_eq_true rfl)) d_Md_firstChange_83 ⟨Nat.zero_le _, Nat.zero_le _⟩) ?_
      refine W.eq (g2 := F0 m 86 ls [.int (f_Mo_kindOf kn j), .int (nI j), .ref a]) rfl ?_
      refine lv_topi (fun z9 e_z9 => ?_)
      obtain rfl : z9 = 0 := by rw [e_z9]; exact (by rw [show f_Mo_kindOf kn j = kn j - 1 from rfl, hk]; decide)
      refine lv_ldc (v := 1000000000) hx hb hown (hg _ tw_780) d_Md_firstChange_86 ?_
      refine ep_callH (W.runV (As := [.int (nI j), .int 0, .int 1000000000]) (rest := []) ⟨hx, hb, hml, hown, hg⟩ (m_Mo_run_0 l D cI cJ cZ cO a ((f_Mo_lacksTwo kn j t u).2) kn ed ct ti nm xa xb (nI mc) it vs se sm rs wk ors owk n j 1000000000 (by omega) hct (by omega) _ rfl) (ep_cwV 3 hg tw_832 tw_834 ts_17 tw_12 tk_Md_run rfl rfl (by decide +kernel) ⟨(Nat.le_of_ble_eq_true rfl), (Nat.le_of_ble_eq_true rfl)⟩) ⟨ep_blind, va_recv (q0 := 0) (ci := 9) hK hP rfl rfl, ep_pre hKn (hP)⟩ rfl rfl hl.1 rfl (lv_room (Nat.le_of_ble_eq_true rfl)) d_Md_firstChange_88 ⟨Nat.zero_le _, Nat.zero_le _⟩) hS (fun q h => h) (fun H locs hsz9 hk1 hP1 hS => ?_)
      refine W.eq (g2 := F0 m 91 ls []) rfl ?_
      have hP : va_P D cls (wMo cI cJ cZ a ((f_Mo_lacksTwo kn j t u).2) kn ed ct ti nm xa xb (nI ((f_Mo_run_0 ti nm xa it vs se rs wk n j 1000000000).1)) ((f_Mo_run_0 ti nm xa it vs se rs wk n j 1000000000).2.1) ((f_Mo_run_0 ti nm xa it vs se rs wk n j 1000000000).2.2.1) ((f_Mo_run_0 ti nm xa it vs se rs wk n j 1000000000).2.2.2.1) ((f_Mo_run_0 ti nm xa it vs se rs wk n j 1000000000).2.2.2.2.1) ((f_Mo_run_0 ti nm xa it vs se rs wk n j 1000000000).2.2.2.2.2.1) ((f_Mo_run_0 ti nm xa it vs se rs wk n j 1000000000).2.2.2.2.2.2) ors owk) H := hP1
      have hD : va_D (blk a 15) (wMo cI cJ cZ a ((f_Mo_lacksTwo kn j t u).2) kn ed ct ti nm xa xb (nI ((f_Mo_run_0 ti nm xa it vs se rs wk n j 1000000000).1)) ((f_Mo_run_0 ti nm xa it vs se rs wk n j 1000000000).2.1) ((f_Mo_run_0 ti nm xa it vs se rs wk n j 1000000000).2.2.1) ((f_Mo_run_0 ti nm xa it vs se rs wk n j 1000000000).2.2.2.1) ((f_Mo_run_0 ti nm xa it vs se rs wk n j 1000000000).2.2.2.2.1) ((f_Mo_run_0 ti nm xa it vs se rs wk n j 1000000000).2.2.2.2.2.1) ((f_Mo_run_0 ti nm xa it vs se rs wk n j 1000000000).2.2.2.2.2.2) ors owk) := (blk_D (wMo_in))
      refine lv_iconst (v := 0) hx hb d_Md_firstChange_91 (by decide) ?_
      refine lv_istore (lv' := [(4, .int 0), (0, .ref a), (1, .int (nI j)), (2, .int t), (3, .int u)]) hx hb d_Md_firstChange_92 hl (by decide) rfl (fun ls hl => ?_)
      refine lv_iconst (v := 0) hx hb d_Md_firstChange_94 (by decide) ?_
      refine lv_istore (lv' := [(5, .int 0), (4, .int 0), (0, .ref a), (1, .int (nI j)), (2, .int t), (3, .int u)]) hx hb d_Md_firstChange_95 hl (by decide) rfl (fun ls hl => ?_)
      exact key_97 n 0 0 ((f_Mo_run_0 ti nm xa it vs se rs wk n j 1000000000).1) ((f_Mo_run_0 ti nm xa it vs se rs wk n j 1000000000).2.1) ((f_Mo_run_0 ti nm xa it vs se rs wk n j 1000000000).2.2.1) ((f_Mo_run_0 ti nm xa it vs se rs wk n j 1000000000).2.2.2.1) ((f_Mo_run_0 ti nm xa it vs se rs wk n j 1000000000).2.2.2.2.1) ((f_Mo_run_0 ti nm xa it vs se rs wk n j 1000000000).2.2.2.2.2.1) ((f_Mo_run_0 ti nm xa it vs se rs wk n j 1000000000).2.2.2.2.2.2) ors owk _ _ ls (by omega) hR hl hP hS
    | succ k ih =>
      intro i mc it vs se sm rs wk ors owk H locs ls hi hb9 hR hl hP hS
      have hR : (g_Mo_firstChange_0_38 kn ti nm xa n n2 j t u k (i + 1) mc it vs se sm rs wk (vp_updL ors i (rs i)) (upd owk i (wk i))) = R := hR
      have hD : va_D (blk a 15) (wMo cI cJ cZ a ((f_Mo_lacksTwo kn j t u).2) kn ed ct ti nm xa xb (nI mc) it vs se sm rs wk ors owk) := (blk_D (wMo_in))
      refine lv_iload hx hb d_Md_firstChange_38 (lv_at hl 0 rfl) ?_
      refine lv_bipush (v := 32) hx hb d_Md_firstChange_40 (by decide) ?_
      refine lv_icmp_ge (tgt := 79) hx hb d_Md_firstChange_42 (by decide) (fun hc => False.elim (by have hc := (nI_leI (a := 32) (b := i) (by omega) (by omega)).mp hc; omega)) (fun hc => ?_)
      refine lv_aload_n hx hb d_Md_firstChange_45 rfl (lv_at hl 1 rfl) ?_
      refine va_get (D := D) (ci := 9) (v := .ref (a + 13)) (C := R_Md) (T := F_Md) (N := 17) hx hb hg in_Md hown hK hP 0 rfl rfl 15 (Nat.le_of_ble_eq_true rfl) (hg _ tw_721) (fun _ h9 => h9) rfl d_Md_firstChange_46 ?_
      refine lv_iload hx hb d_Md_firstChange_49 (lv_at hl 0 rfl) ?_
      refine lv_aload_n hx hb d_Md_firstChange_51 rfl (lv_at hl 1 rfl) ?_
      refine va_get (D := D) (ci := 9) (v := .ref (a + 11)) (C := R_Md) (T := F_Md) (N := 17) hx hb hg in_Md hown hK hP 0 rfl rfl 13 (Nat.le_of_ble_eq_true rfl) (hg _ tw_719) (fun _ h9 => h9) rfl d_Md_firstChange_52 ?_
      refine lv_iload hx hb d_Md_firstChange_55 (lv_at hl 0 rfl) ?_
      refine ep_lald hx hb hK hP 11 1 rfl rfl (i := i) (by omega) (by decide) d_Md_firstChange_57 ?_
      refine ep_last hx hb hK hP hD hS 13 1 rfl rfl (i := i) (x := (rs i)) (by omega) (by decide) d_Md_firstChange_58 (fun H locs hP hD hS => ?_)
      have hP : va_P D cls (wMo cI cJ cZ a ((f_Mo_lacksTwo kn j t u).2) kn ed ct ti nm xa xb (nI mc) it vs se sm rs wk (vp_updL ors i (rs i)) owk) H := hP
      have hD : va_D (blk a 15) (wMo cI cJ cZ a ((f_Mo_lacksTwo kn j t u).2) kn ed ct ti nm xa xb (nI mc) it vs se sm rs wk (vp_updL ors i (rs i)) owk) := hD
      refine lv_aload_n hx hb d_Md_firstChange_59 rfl (lv_at hl 1 rfl) ?_
      refine va_get (D := D) (ci := 9) (v := .ref (a + 14)) (C := R_Md) (T := F_Md) (N := 17) hx hb hg in_Md hown hK hP 0 rfl rfl 16 (Nat.le_of_ble_eq_true rfl) (hg _ tw_722) (fun _ h9 => h9) rfl d_Md_firstChange_60 ?_
      refine lv_iload hx hb d_Md_firstChange_63 (lv_at hl 0 rfl) ?_
      refine lv_aload_n hx hb d_Md_firstChange_65 rfl (lv_at hl 1 rfl) ?_
      refine va_get (D := D) (ci := 9) (v := .ref (a + 12)) (C := R_Md) (T := F_Md) (N := 17) hx hb hg in_Md hown hK hP 0 rfl rfl 14 (Nat.le_of_ble_eq_true rfl) (hg _ tw_720) (fun _ h9 => h9) rfl d_Md_firstChange_66 ?_
      refine lv_iload hx hb d_Md_firstChange_69 (lv_at hl 0 rfl) ?_
      refine ep_zald hx hb hK hP 12 2 rfl rfl (i := i) (by omega) (by decide) d_Md_firstChange_71 ?_
      refine ep_zast hx hb hK hP hD hS 14 2 rfl rfl (i := i) (x := (wk i)) (bz_n hb9 _) (by omega) (by decide) d_Md_firstChange_72 (fun H locs hP hD hS => ?_)
      have hP : va_P D cls (wMo cI cJ cZ a ((f_Mo_lacksTwo kn j t u).2) kn ed ct ti nm xa xb (nI mc) it vs se sm rs wk (vp_updL ors i (rs i)) (upd owk i (wk i))) H := hP
      have hD : va_D (blk a 15) (wMo cI cJ cZ a ((f_Mo_lacksTwo kn j t u).2) kn ed ct ti nm xa xb (nI mc) it vs se sm rs wk (vp_updL ors i (rs i)) (upd owk i (wk i))) := hD
      refine lv_iinc (k := 0) (lv' := [(4, .int (nI (i + 1))), (0, .ref a), (1, .int (nI j)), (2, .int t), (3, .int u)]) hx hb d_Md_firstChange_73 hl rfl (inc1 _) (by decide) rfl (fun ls hl => ?_)
      refine lv_goto (tgt := 38) hx hb d_Md_firstChange_76 (by decide) ?_
      exact ih (i + 1) mc it vs se sm rs wk (vp_updL ors i (rs i)) (upd owk i (wk i)) _ _ ls (by omega) hb9 hR hl hP hS
  have hR : (g_Mo_firstChange_0_38 kn ti nm xa n n2 j t u 32 0 ((f_Mo_run_0 ti nm xa it vs se rs wk n2 (j + 4) 1000000000).1) ((f_Mo_run_0 ti nm xa it vs se rs wk n2 (j + 4) 1000000000).2.1) ((f_Mo_run_0 ti nm xa it vs se rs wk n2 (j + 4) 1000000000).2.2.1) ((f_Mo_run_0 ti nm xa it vs se rs wk n2 (j + 4) 1000000000).2.2.2.1) ((f_Mo_run_0 ti nm xa it vs se rs wk n2 (j + 4) 1000000000).2.2.2.2.1) ((f_Mo_run_0 ti nm xa it vs se rs wk n2 (j + 4) 1000000000).2.2.2.2.2.1) ((f_Mo_run_0 ti nm xa it vs se rs wk n2 (j + 4) 1000000000).2.2.2.2.2.2) ors owk) = R := hR
  refine lv_aload_n hx hb d_Md_firstChange_0 rfl (lv_at hl 0 rfl) ?_
  refine lv_iload_n hx hb d_Md_firstChange_1 rfl (lv_at hl 1 rfl) ?_
  refine lv_iload_n hx hb d_Md_firstChange_2 rfl (lv_at hl 2 rfl) ?_
  refine lv_iload_n hx hb d_Md_firstChange_3 rfl (lv_at hl 3 rfl) ?_
  refine ep_callH (W.runV (As := [.int (nI j), .int t, .int u]) (rest := []) ⟨hx, hb, hml, hown, hg⟩ (m_Mo_lacksTwo l D cI cJ cZ cO a code kn ed ct ti nm xa xb ma it vs se sm rs wk ors owk j t u (by omega) _ rfl) (ep_cwV 3 hg tw_896 tw_898 ts_25 tw_12 tk_Md_lacksTwo rfl rfl (by decide +kernel) ⟨(Nat.le_of_ble_eq_true rfl), (Nat.le_of_ble_eq_true rfl)⟩) ⟨ep_blind, va_recv (q0 := 0) (ci := 9) hK hP rfl rfl, ep_pre hKn (hP)⟩ rfl rfl hl.1 rfl (lv_room (Nat.le_of_ble_eq_true rfl)) d_Md_firstChange_4 ⟨Nat.zero_le _, Nat.zero_le _⟩) hS (fun q h => h) (fun H locs hsz9 hk1 hP1 hS => ?_)
  refine W.eq (g2 := F0 m 7 ls [.int ((f_Mo_lacksTwo kn j t u).1)]) rfl ?_
  have hP : va_P D cls (wMo cI cJ cZ a ((f_Mo_lacksTwo kn j t u).2) kn ed ct ti nm xa xb ma it vs se sm rs wk ors owk) H := hP1
  have hD : va_D (blk a 15) (wMo cI cJ cZ a ((f_Mo_lacksTwo kn j t u).2) kn ed ct ti nm xa xb ma it vs se sm rs wk ors owk) := (blk_D (wMo_in))
  refine lv_if_ne (tgt := 19) hx hb d_Md_firstChange_7 (by decide) (fun hc => absurd hlk hc) (fun hc => ?_)
  refine lv_aload_n hx hb d_Md_firstChange_10 rfl (lv_at hl 0 rfl) ?_
  refine va_get (D := D) (ci := 9) (v := .ref (a + 2)) (C := R_Md) (T := F_Md) (N := 17) hx hb hg in_Md hown hK hP 0 rfl rfl 2 (Nat.le_of_ble_eq_true rfl) (hg _ tw_708) (fun _ h9 => h9) rfl d_Md_firstChange_11 ?_
  refine lv_iload_n hx hb d_Md_firstChange_14 rfl (lv_at hl 1 rfl) ?_
  refine ep_zald hx hb hK hP 2 2 rfl rfl (i := j) (by omega) (by decide) d_Md_firstChange_15 ?_
  refine lv_if_ne (tgt := 21) hx hb d_Md_firstChange_16 (by decide) (fun hc => ?_) (fun hc => absurd hc hed)
  refine lv_aload_n hx hb d_Md_firstChange_21 rfl (lv_at hl 0 rfl) ?_
  refine lv_iload_n hx hb d_Md_firstChange_22 rfl (lv_at hl 1 rfl) ?_
  refine lv_iconst (v := 4) hx hb d_Md_firstChange_23 (by decide) ?_
  refine lv_iadd hx hb d_Md_firstChange_24 ?_
  refine lv_topi (fun z9 e_z9 => ?_)
  obtain rfl : z9 = nI (j + 4) := by rw [e_z9]; exact (nI_add j 4)
  refine lv_aload_n hx hb d_Md_firstChange_25 rfl (lv_at hl 0 rfl) ?_
  refine lv_iload_n hx hb d_Md_firstChange_26 rfl (lv_at hl 1 rfl) ?_
  refine ep_callP (W.runV (As := [.int (nI j)]) (rest := [.int (nI (j + 4)), .ref a]) ⟨hx, hb, hml, hown, hg⟩ (m_Mo_kindOf l D cI cJ cZ cO a ((f_Mo_lacksTwo kn j t u).2) kn ed ct ti nm xa xb ma it vs se sm rs wk ors owk j (by omega) _ rfl) (ep_cwV 1 hg tw_789 tw_791 ts_11 tw_12 tk_Md_kindOf rfl rfl (by decide +kernel) ⟨(Nat.le_of_ble_eq_true rfl), (Nat.le_of_ble_eq_true rfl)⟩) ⟨ep_blind, va_recv (q0 := 0) (ci := 9) hK hP rfl rfl, ep_pre hKn (hP)⟩ rfl rfl hl.1 rfl (lv_room (Nat.le_of_ble_eq_true rfl)) d_Md_firstChange_27 ⟨Nat.zero_le _, Nat.zero_le _⟩) ?_
  refine W.eq (g2 := F0 m 30 ls [.int (f_Mo_kindOf kn j), .int (nI (j + 4)), .ref a]) rfl ?_
  refine lv_topi (fun z9 e_z9 => ?_)
  obtain rfl : z9 = 0 := by rw [e_z9]; exact (by rw [show f_Mo_kindOf kn j = kn j - 1 from rfl, hk]; decide)
  refine lv_ldc (v := 1000000000) hx hb hown (hg _ tw_780) d_Md_firstChange_30 ?_
  refine ep_callH (W.runV (As := [.int (nI (j + 4)), .int 0, .int 1000000000]) (rest := []) ⟨hx, hb, hml, hown, hg⟩ (m_Mo_run_0 l D cI cJ cZ cO a ((f_Mo_lacksTwo kn j t u).2) kn ed ct ti nm xa xb ma it vs se sm rs wk ors owk n2 (j + 4) 1000000000 (by omega) hct2 (by omega) _ rfl) (ep_cwV 3 hg tw_832 tw_834 ts_17 tw_12 tk_Md_run rfl rfl (by decide +kernel) ⟨(Nat.le_of_ble_eq_true rfl), (Nat.le_of_ble_eq_true rfl)⟩) ⟨ep_blind, va_recv (q0 := 0) (ci := 9) hK hP rfl rfl, ep_pre hKn (hP)⟩ rfl rfl hl.1 rfl (lv_room (Nat.le_of_ble_eq_true rfl)) d_Md_firstChange_32 ⟨Nat.zero_le _, Nat.zero_le _⟩) hS (fun q h => h) (fun H locs hsz9 hk1 hP1 hS => ?_)
  refine W.eq (g2 := F0 m 35 ls []) rfl ?_
  have hP : va_P D cls (wMo cI cJ cZ a ((f_Mo_lacksTwo kn j t u).2) kn ed ct ti nm xa xb (nI ((f_Mo_run_0 ti nm xa it vs se rs wk n2 (j + 4) 1000000000).1)) ((f_Mo_run_0 ti nm xa it vs se rs wk n2 (j + 4) 1000000000).2.1) ((f_Mo_run_0 ti nm xa it vs se rs wk n2 (j + 4) 1000000000).2.2.1) ((f_Mo_run_0 ti nm xa it vs se rs wk n2 (j + 4) 1000000000).2.2.2.1) ((f_Mo_run_0 ti nm xa it vs se rs wk n2 (j + 4) 1000000000).2.2.2.2.1) ((f_Mo_run_0 ti nm xa it vs se rs wk n2 (j + 4) 1000000000).2.2.2.2.2.1) ((f_Mo_run_0 ti nm xa it vs se rs wk n2 (j + 4) 1000000000).2.2.2.2.2.2) ors owk) H := hP1
  have hD : va_D (blk a 15) (wMo cI cJ cZ a ((f_Mo_lacksTwo kn j t u).2) kn ed ct ti nm xa xb (nI ((f_Mo_run_0 ti nm xa it vs se rs wk n2 (j + 4) 1000000000).1)) ((f_Mo_run_0 ti nm xa it vs se rs wk n2 (j + 4) 1000000000).2.1) ((f_Mo_run_0 ti nm xa it vs se rs wk n2 (j + 4) 1000000000).2.2.1) ((f_Mo_run_0 ti nm xa it vs se rs wk n2 (j + 4) 1000000000).2.2.2.1) ((f_Mo_run_0 ti nm xa it vs se rs wk n2 (j + 4) 1000000000).2.2.2.2.1) ((f_Mo_run_0 ti nm xa it vs se rs wk n2 (j + 4) 1000000000).2.2.2.2.2.1) ((f_Mo_run_0 ti nm xa it vs se rs wk n2 (j + 4) 1000000000).2.2.2.2.2.2) ors owk) := (blk_D (wMo_in))
  refine lv_iconst (v := 0) hx hb d_Md_firstChange_35 (by decide) ?_
  refine lv_istore (lv' := [(4, .int 0), (0, .ref a), (1, .int (nI j)), (2, .int t), (3, .int u)]) hx hb d_Md_firstChange_36 hl (by decide) rfl (fun ls hl => ?_)
  exact key_38 32 0 ((f_Mo_run_0 ti nm xa it vs se rs wk n2 (j + 4) 1000000000).1) ((f_Mo_run_0 ti nm xa it vs se rs wk n2 (j + 4) 1000000000).2.1) ((f_Mo_run_0 ti nm xa it vs se rs wk n2 (j + 4) 1000000000).2.2.1) ((f_Mo_run_0 ti nm xa it vs se rs wk n2 (j + 4) 1000000000).2.2.2.1) ((f_Mo_run_0 ti nm xa it vs se rs wk n2 (j + 4) 1000000000).2.2.2.2.1) ((f_Mo_run_0 ti nm xa it vs se rs wk n2 (j + 4) 1000000000).2.2.2.2.2.1) ((f_Mo_run_0 ti nm xa it vs se rs wk n2 (j + 4) 1000000000).2.2.2.2.2.2) ors owk _ _ ls (by omega) (run_bz_0 _ _ _ _ _ _ _ _ _ _ _ hbz) hR hl hP hS

def g_Mo_effective_1_29 (kn : Nat → Int32) (ti : Nat → Int32) (j : Nat) (t : Int32) (u : Int32) : Nat → Nat → Nat → Nat → (Nat → Int32) → (Nat → Int32) → (Nat → Int32) → Int64 → (Nat → Int64) → (Nat → Int32) → Nat × Int32 × Nat × (Nat → Int32) × (Nat → Int32) × (Nat → Int32) × Int64 × (Nat → Int64) × (Nat → Int32)
  | 0, i, c9, mc, it, vs, se, sm, rs, wk => (c9, (f_Mo_lacksTwo kn j t u).2, mc, it, vs, se, sm, rs, wk)
  | k + 1, i, c9, mc, it, vs, se, sm, rs, wk => if (ti (32 * j + i)) < t then (g_Mo_effective_1_29 kn ti j t u k (i + 1) (c9 + 0) mc it vs se sm rs wk) else (if u < (ti (32 * j + i)) then (g_Mo_effective_1_29 kn ti j t u k (i + 1) (c9 + 0) mc it vs se sm rs wk) else (if (wk i) = 0 then (g_Mo_effective_1_29 kn ti j t u k (i + 1) (c9 + 0) mc it vs se sm rs wk) else (g_Mo_effective_1_29 kn ti j t u k (i + 1) (c9 + 1) mc it vs se sm rs wk)))

def f_Mo_effective_1 (kn : Nat → Int32) (ti : Nat → Int32) (nm : Nat → Int32) (xa : Nat → Int32) (it : Nat → Int32) (vs : Nat → Int32) (se : Nat → Int32) (rs : Nat → Int64) (wk : Nat → Int32) (n : Nat) (j : Nat) (t : Int32) (u : Int32) : Nat × Int32 × Nat × (Nat → Int32) × (Nat → Int32) × (Nat → Int32) × Int64 × (Nat → Int64) × (Nat → Int32) := g_Mo_effective_1_29 kn ti j t u n 0 0 ((f_Mo_run_1 ti nm xa it vs se rs wk n j u).1) ((f_Mo_run_1 ti nm xa it vs se rs wk n j u).2.1) ((f_Mo_run_1 ti nm xa it vs se rs wk n j u).2.2.1) ((f_Mo_run_1 ti nm xa it vs se rs wk n j u).2.2.2.1) ((f_Mo_run_1 ti nm xa it vs se rs wk n j u).2.2.2.2.1) ((f_Mo_run_1 ti nm xa it vs se rs wk n j u).2.2.2.2.2.1) ((f_Mo_run_1 ti nm xa it vs se rs wk n j u).2.2.2.2.2.2)
set_option maxHeartbeats 4000000 in
set_option maxRecDepth 100000 in
theorem m_Mo_effective_1 (l : Launch) (D : va_G) (cI cJ cZ cO : ClassId) (a : Nat) (code : Int32) (kn : Nat → Int32) (ed : Nat → Int32) (ct : Nat → Int32) (ti : Nat → Int32) (nm : Nat → Int32) (xa : Nat → Int32) (xb : Nat → Int32) (ma : Int32) (it : Nat → Int32) (vs : Nat → Int32) (se : Nat → Int32) (sm : Int64) (rs : Nat → Int64) (wk : Nat → Int32) (ors : Nat → Int64) (owk : Nat → Int32) (n : Nat) (j : Nat) (t : Int32) (u : Int32) (hj : j < 4) (hlk : (f_Mo_lacksTwo kn j t u).1 = 0) (hk : kn j = 2) (hct : ct j = nI n) (hn : n ≤ 32) (R : Nat × Int32 × Nat × (Nat → Int32) × (Nat → Int32) × (Nat → Int32) × Int64 × (Nat → Int64) × (Nat → Int32)) (hR : f_Mo_effective_1 kn ti nm xa it vs se rs wk n j t u = R) : Met l y_Md_effective (k_Md_effective :: gt) rm_Md_effective (Pc0 D cI cJ cZ cO [.ref a, .int (nI j), .int t, .int u] (fun H => va_P D cls (wMo cI cJ cZ a code kn ed ct ti nm xa xb ma it vs se sm rs wk ors owk) H)) (Qd (blk a 15) (some (.int (nI R.1))) (fun H => va_P D cls (wMo cI cJ cZ a R.2.1 kn ed ct ti nm xa xb (nI R.2.2.1) R.2.2.2.1 R.2.2.2.2.1 R.2.2.2.2.2.1 R.2.2.2.2.2.2.1 R.2.2.2.2.2.2.2.1 R.2.2.2.2.2.2.2.2 ors owk) H)) 0 0 (blk a 15) := by
  refine Met.ofW (cc := c_Md_effective) (maxL := 7) (ret := (Option.some FieldType.int)) (by decide) rfl ?_
  intro p e s m args below meth c s₁ B hml hv
  obtain ⟨rfl, hKn, hP⟩ := hv
  have hx := B.exec
  have hb := B.bytes
  have hr := B.returns
  have hts := atoms_spec (ws := k_Md_effective :: gt) B.pre
  have hg : ∀ w ∈ gt, w.before _ s = true := fun w h => hts w (List.mem_cons_of_mem _ h)
  have hown : s.vm.findClass R_Md = some m.cls := findClass_of_methodNamed B.named
  have hlocks := B.notSynchronized
  have hK := hKn.1
  have hl := lv_entry ([.ref a, .int (nI j), .int t, .int u]) (n := 7) (Nat.le_of_ble_eq_true rfl)
  rw [lg_entry_eq]
  generalize (lg_sl ([.ref a, .int (nI j), .int t, .int u]) ++ List.replicate (7 - (lg_sl ([.ref a, .int (nI j), .int t, .int u])).length) Slot.unset).toArray = ls at hl ⊢
  have hl : lv_has ls 7 [(0, .ref a), (1, .int (nI j)), (2, .int t), (3, .int u)] := hl
  have hS : va_S (blk a 15) s.heap s.heap [] := va_S.rf
  have hD : va_D (blk a 15) (wMo cI cJ cZ a code kn ed ct ti nm xa xb ma it vs se sm rs wk ors owk) := (blk_D (wMo_in))
  have key_29 : ∀ (k : Nat) (i : Nat) (c9 : Nat) (mc : Nat) (it : Nat → Int32) (vs : Nat → Int32) (se : Nat → Int32) (sm : Int64) (rs : Nat → Int64) (wk : Nat → Int32) (H : Heap) (locs : List Loc) (ls : Array Slot), i + k = n → g_Mo_effective_1_29 kn ti j t u k i c9 mc it vs se sm rs wk = R → lv_has ls 7 [(5, .int (nI i)), (4, .int (nI c9)), (0, .ref a), (1, .int (nI j)), (2, .int t), (3, .int u)] → va_P D cls (wMo cI cJ cZ a ((f_Mo_lacksTwo kn j t u).2) kn ed ct ti nm xa xb (nI mc) it vs se sm rs wk ors owk) H → va_S (blk a 15) s.heap H locs → W p l e (headSpec (k_Md_effective :: gt) rm_Md_effective).room s m ([.ref a, .int (nI j), .int t, .int u] : List Value).toArray below meth c H locs 0 0 (MQ below (Qd (blk a 15) (some (.int (nI R.1))) (fun H => va_P D cls (wMo cI cJ cZ a R.2.1 kn ed ct ti nm xa xb (nI R.2.2.1) R.2.2.2.1 R.2.2.2.2.1 R.2.2.2.2.2.1 R.2.2.2.2.2.2.1 R.2.2.2.2.2.2.2.1 R.2.2.2.2.2.2.2.2 ors owk) H)) ([.ref a, .int (nI j), .int t, .int u] : List Value).toArray s 0 0 (blk a 15)) (F0 m 29 ls []) := by
    intro k
    induction k with
    | zero =>
      intro i c9 mc it vs se sm rs wk H locs ls hi hR hl hP hS
      have hR : ((c9, (f_Mo_lacksTwo kn j t u).2, mc, it, vs, se, sm, rs, wk)) = R := hR
      have hD : va_D (blk a 15) (wMo cI cJ cZ a ((f_Mo_lacksTwo kn j t u).2) kn ed ct ti nm xa xb (nI mc) it vs se sm rs wk ors owk) := (blk_D (wMo_in))
      refine lv_iload hx hb d_Md_effective_29 (lv_at hl 0 rfl) ?_
      refine lv_aload_n hx hb d_Md_effective_31 rfl (lv_at hl 2 rfl) ?_
      refine va_get (D := D) (ci := 9) (v := .ref (a + 3)) (C := R_Md) (T := F_Md) (N := 17) hx hb hg in_Md hown hK hP 0 rfl rfl 3 (Nat.le_of_ble_eq_true rfl) (hg _ tw_709) (fun _ h9 => h9) rfl d_Md_effective_32 ?_
      refine lv_iload_n hx hb d_Md_effective_35 rfl (lv_at hl 3 rfl) ?_
      refine ep_iald hx hb hK hP 3 0 rfl rfl (i := j) (by omega) (by decide) d_Md_effective_36 ?_
      refine lv_topi (fun z9 e_z9 => ?_)
      obtain rfl : z9 = nI n := by rw [e_z9]; exact hct
      refine lv_icmp_ge (tgt := 92) hx hb d_Md_effective_37 (by decide) (fun hc => ?_) (fun hc => False.elim (by have hc : ¬ (n ≤ i) := fun h => hc (by exact (nI_leI (a := n) (b := i) (by omega) (by omega)).mpr h); omega))
      refine lv_iload hx hb d_Md_effective_92 (lv_at hl 1 rfl) ?_
      subst hR
      exact W.iret (v := (nI c9)) hx hb hr (fun t9 ht hW => ⟨rfl, hS.F ht, by rw [ht]; exact hP⟩) hS.2.2 d_Md_effective_94
    | succ k ih =>
      intro i c9 mc it vs se sm rs wk H locs ls hi hR hl hP hS
      have hR : (if (ti (32 * j + i)) < t then (g_Mo_effective_1_29 kn ti j t u k (i + 1) (c9 + 0) mc it vs se sm rs wk) else (if u < (ti (32 * j + i)) then (g_Mo_effective_1_29 kn ti j t u k (i + 1) (c9 + 0) mc it vs se sm rs wk) else (if (wk i) = 0 then (g_Mo_effective_1_29 kn ti j t u k (i + 1) (c9 + 0) mc it vs se sm rs wk) else (g_Mo_effective_1_29 kn ti j t u k (i + 1) (c9 + 1) mc it vs se sm rs wk)))) = R := hR
      have hD : va_D (blk a 15) (wMo cI cJ cZ a ((f_Mo_lacksTwo kn j t u).2) kn ed ct ti nm xa xb (nI mc) it vs se sm rs wk ors owk) := (blk_D (wMo_in))
      refine lv_iload hx hb d_Md_effective_29 (lv_at hl 0 rfl) ?_
      refine lv_aload_n hx hb d_Md_effective_31 rfl (lv_at hl 2 rfl) ?_
      refine va_get (D := D) (ci := 9) (v := .ref (a + 3)) (C := R_Md) (T := F_Md) (N := 17) hx hb hg in_Md hown hK hP 0 rfl rfl 3 (Nat.le_of_ble_eq_true rfl) (hg _ tw_709) (fun _ h9 => h9) rfl d_Md_effective_32 ?_
      refine lv_iload_n hx hb d_Md_effective_35 rfl (lv_at hl 3 rfl) ?_
      refine ep_iald hx hb hK hP 3 0 rfl rfl (i := j) (by omega) (by decide) d_Md_effective_36 ?_
      refine lv_topi (fun z9 e_z9 => ?_)
      obtain rfl : z9 = nI n := by rw [e_z9]; exact hct
      refine lv_icmp_ge (tgt := 92) hx hb d_Md_effective_37 (by decide) (fun hc => False.elim (by have hc := (nI_leI (a := n) (b := i) (by omega) (by omega)).mp hc; omega)) (fun hc => ?_)
      refine lv_aload_n hx hb d_Md_effective_40 rfl (lv_at hl 2 rfl) ?_
      refine va_get (D := D) (ci := 9) (v := .ref (a + 4)) (C := R_Md) (T := F_Md) (N := 17) hx hb hg in_Md hown hK hP 0 rfl rfl 4 (Nat.le_of_ble_eq_true rfl) (hg _ tw_710) (fun _ h9 => h9) rfl d_Md_effective_41 ?_
      refine lv_bipush (v := 32) hx hb d_Md_effective_44 (by decide) ?_
      refine lv_iload_n hx hb d_Md_effective_46 rfl (lv_at hl 3 rfl) ?_
      refine lv_imul hx hb d_Md_effective_47 ?_
      refine lv_topi (fun z9 e_z9 => ?_)
      obtain rfl : z9 = nI (32 * j) := by rw [e_z9]; exact (nI_mul 32 j)
      refine lv_iload hx hb d_Md_effective_48 (lv_at hl 0 rfl) ?_
      refine lv_iadd hx hb d_Md_effective_50 ?_
      refine lv_topi (fun z9 e_z9 => ?_)
      obtain rfl : z9 = nI (32 * j + i) := by rw [e_z9]; exact (nI_add (32 * j) i)
      refine ep_iald hx hb hK hP 4 0 rfl rfl (i := (32 * j + i)) (by omega) (by decide) d_Md_effective_51 ?_
      refine lv_istore (lv' := [(6, .int (ti (32 * j + i))), (5, .int (nI i)), (4, .int (nI c9)), (0, .ref a), (1, .int (nI j)), (2, .int t), (3, .int u)]) hx hb d_Md_effective_52 hl (by decide) rfl (fun ls hl => ?_)
      refine lv_iload hx hb d_Md_effective_54 (lv_at hl 2 rfl) ?_
      refine lv_iload hx hb d_Md_effective_56 (lv_at hl 0 rfl) ?_
      refine lv_iload_n hx hb d_Md_effective_58 rfl (lv_at hl 5 rfl) ?_
      refine lv_icmp_lt (tgt := 82) hx hb d_Md_effective_59 (by decide) (fun hc1 => ?_) (fun hc1 => ?_)
      · have hc1 : (ti (32 * j + i)) < t := hc1
        refine lv_iconst (v := 0) hx hb d_Md_effective_82 (by decide) ?_
        refine lv_iadd hx hb d_Md_effective_83 ?_
        refine lv_topi (fun z9 e_z9 => ?_)
        obtain rfl : z9 = nI (c9 + 0) := by rw [e_z9]; exact (nI_add c9 0)
        refine lv_istore (lv' := [(4, .int (nI (c9 + 0))), (6, .int (ti (32 * j + i))), (5, .int (nI i)), (0, .ref a), (1, .int (nI j)), (2, .int t), (3, .int u)]) hx hb d_Md_effective_84 hl (by decide) rfl (fun ls hl => ?_)
        refine lv_iinc (k := 2) (lv' := [(5, .int (nI (i + 1))), (4, .int (nI (c9 + 0))), (6, .int (ti (32 * j + i))), (0, .ref a), (1, .int (nI j)), (2, .int t), (3, .int u)]) hx hb d_Md_effective_86 hl rfl (inc1 _) (by decide) rfl (fun ls hl => ?_)
        refine lv_goto (tgt := 29) hx hb d_Md_effective_89 (by decide) ?_
        rw [if_pos hc1] at hR
        exact ih (i + 1) (c9 + 0) mc it vs se sm rs wk _ _ ls (by omega) hR (lv_sub hl [0, 1, 3, 4, 5, 6] rfl) hP hS
      · have hc1 : ¬ ((ti (32 * j + i)) < t) := hc1
        refine lv_iload hx hb d_Md_effective_62 (lv_at hl 0 rfl) ?_
        refine lv_iload_n hx hb d_Md_effective_64 rfl (lv_at hl 6 rfl) ?_
        refine lv_icmp_gt (tgt := 82) hx hb d_Md_effective_65 (by decide) (fun hc2 => ?_) (fun hc2 => ?_)
        · have hc2 : u < (ti (32 * j + i)) := hc2
          refine lv_iconst (v := 0) hx hb d_Md_effective_82 (by decide) ?_
          refine lv_iadd hx hb d_Md_effective_83 ?_
          refine lv_topi (fun z9 e_z9 => ?_)
          obtain rfl : z9 = nI (c9 + 0) := by rw [e_z9]; exact (nI_add c9 0)
          refine lv_istore (lv' := [(4, .int (nI (c9 + 0))), (6, .int (ti (32 * j + i))), (5, .int (nI i)), (0, .ref a), (1, .int (nI j)), (2, .int t), (3, .int u)]) hx hb d_Md_effective_84 hl (by decide) rfl (fun ls hl => ?_)
          refine lv_iinc (k := 2) (lv' := [(5, .int (nI (i + 1))), (4, .int (nI (c9 + 0))), (6, .int (ti (32 * j + i))), (0, .ref a), (1, .int (nI j)), (2, .int t), (3, .int u)]) hx hb d_Md_effective_86 hl rfl (inc1 _) (by decide) rfl (fun ls hl => ?_)
          refine lv_goto (tgt := 29) hx hb d_Md_effective_89 (by decide) ?_
          rw [if_neg hc1, if_pos hc2] at hR
          exact ih (i + 1) (c9 + 0) mc it vs se sm rs wk _ _ ls (by omega) hR (lv_sub hl [0, 1, 3, 4, 5, 6] rfl) hP hS
        · have hc2 : ¬ (u < (ti (32 * j + i))) := hc2
          refine lv_aload_n hx hb d_Md_effective_68 rfl (lv_at hl 3 rfl) ?_
          refine va_get (D := D) (ci := 9) (v := .ref (a + 12)) (C := R_Md) (T := F_Md) (N := 17) hx hb hg in_Md hown hK hP 0 rfl rfl 14 (Nat.le_of_ble_eq_true rfl) (hg _ tw_720) (fun _ h9 => h9) rfl d_Md_effective_69 ?_
          refine lv_iload hx hb d_Md_effective_72 (lv_at hl 1 rfl) ?_
          refine ep_zald hx hb hK hP 12 2 rfl rfl (i := i) (by omega) (by decide) d_Md_effective_74 ?_
          refine lv_if_eq (tgt := 82) hx hb d_Md_effective_75 (by decide) (fun hc3 => ?_) (fun hc3 => ?_)
          · have hc3 : (wk i) = 0 := hc3
            refine lv_iconst (v := 0) hx hb d_Md_effective_82 (by decide) ?_
            refine lv_iadd hx hb d_Md_effective_83 ?_
            refine lv_topi (fun z9 e_z9 => ?_)
            obtain rfl : z9 = nI (c9 + 0) := by rw [e_z9]; exact (nI_add c9 0)
            refine lv_istore (lv' := [(4, .int (nI (c9 + 0))), (6, .int (ti (32 * j + i))), (5, .int (nI i)), (0, .ref a), (1, .int (nI j)), (2, .int t), (3, .int u)]) hx hb d_Md_effective_84 hl (by decide) rfl (fun ls hl => ?_)
            refine lv_iinc (k := 2) (lv' := [(5, .int (nI (i + 1))), (4, .int (nI (c9 + 0))), (6, .int (ti (32 * j + i))), (0, .ref a), (1, .int (nI j)), (2, .int t), (3, .int u)]) hx hb d_Md_effective_86 hl rfl (inc1 _) (by decide) rfl (fun ls hl => ?_)
            refine lv_goto (tgt := 29) hx hb d_Md_effective_89 (by decide) ?_
            rw [if_neg hc1, if_neg hc2, if_pos hc3] at hR
            exact ih (i + 1) (c9 + 0) mc it vs se sm rs wk _ _ ls (by omega) hR (lv_sub hl [0, 1, 3, 4, 5, 6] rfl) hP hS
          · have hc3 : ¬ ((wk i) = 0) := hc3
            refine lv_iconst (v := 1) hx hb d_Md_effective_78 (by decide) ?_
            refine lv_goto (tgt := 83) hx hb d_Md_effective_79 (by decide) ?_
            refine lv_iadd hx hb d_Md_effective_83 ?_
            refine lv_topi (fun z9 e_z9 => ?_)
            obtain rfl : z9 = nI (c9 + 1) := by rw [e_z9]; exact (nI_add c9 1)
            refine lv_istore (lv' := [(4, .int (nI (c9 + 1))), (6, .int (ti (32 * j + i))), (5, .int (nI i)), (0, .ref a), (1, .int (nI j)), (2, .int t), (3, .int u)]) hx hb d_Md_effective_84 hl (by decide) rfl (fun ls hl => ?_)
            refine lv_iinc (k := 2) (lv' := [(5, .int (nI (i + 1))), (4, .int (nI (c9 + 1))), (6, .int (ti (32 * j + i))), (0, .ref a), (1, .int (nI j)), (2, .int t), (3, .int u)]) hx hb d_Md_effective_86 hl rfl (inc1 _) (by decide) rfl (fun ls hl => ?_)
            refine lv_goto (tgt := 29) hx hb d_Md_effective_89 (by decide) ?_
            rw [if_neg hc1, if_neg hc2, if_neg hc3] at hR
            exact ih (i + 1) (c9 + 1) mc it vs se sm rs wk _ _ ls (by omega) hR (lv_sub hl [0, 1, 3, 4, 5, 6] rfl) hP hS
  have hR : (g_Mo_effective_1_29 kn ti j t u n 0 0 ((f_Mo_run_1 ti nm xa it vs se rs wk n j u).1) ((f_Mo_run_1 ti nm xa it vs se rs wk n j u).2.1) ((f_Mo_run_1 ti nm xa it vs se rs wk n j u).2.2.1) ((f_Mo_run_1 ti nm xa it vs se rs wk n j u).2.2.2.1) ((f_Mo_run_1 ti nm xa it vs se rs wk n j u).2.2.2.2.1) ((f_Mo_run_1 ti nm xa it vs se rs wk n j u).2.2.2.2.2.1) ((f_Mo_run_1 ti nm xa it vs se rs wk n j u).2.2.2.2.2.2)) = R := hR
  refine lv_aload_n hx hb d_Md_effective_0 rfl (lv_at hl 0 rfl) ?_
  refine lv_iload_n hx hb d_Md_effective_1 rfl (lv_at hl 1 rfl) ?_
  refine lv_iload_n hx hb d_Md_effective_2 rfl (lv_at hl 2 rfl) ?_
  refine lv_iload_n hx hb d_Md_effective_3 rfl (lv_at hl 3 rfl) ?_
  refine ep_callH (W.runV (As := [.int (nI j), .int t, .int u]) (rest := []) ⟨hx, hb, hml, hown, hg⟩ (m_Mo_lacksTwo l D cI cJ cZ cO a code kn ed ct ti nm xa xb ma it vs se sm rs wk ors owk j t u (by omega) _ rfl) (ep_cwV 3 hg tw_896 tw_898 ts_25 tw_12 tk_Md_lacksTwo rfl rfl (by decide +kernel) ⟨(Nat.le_of_ble_eq_true rfl), (Nat.le_of_ble_eq_true rfl)⟩) ⟨ep_blind, va_recv (q0 := 0) (ci := 9) hK hP rfl rfl, ep_pre hKn (hP)⟩ rfl rfl hl.1 rfl (lv_room (Nat.le_of_ble_eq_true rfl)) d_Md_effective_4 ⟨Nat.zero_le _, Nat.zero_le _⟩) hS (fun q h => h) (fun H locs hsz9 hk1 hP1 hS => ?_)
  refine W.eq (g2 := F0 m 7 ls [.int ((f_Mo_lacksTwo kn j t u).1)]) rfl ?_
  have hP : va_P D cls (wMo cI cJ cZ a ((f_Mo_lacksTwo kn j t u).2) kn ed ct ti nm xa xb ma it vs se sm rs wk ors owk) H := hP1
  have hD : va_D (blk a 15) (wMo cI cJ cZ a ((f_Mo_lacksTwo kn j t u).2) kn ed ct ti nm xa xb ma it vs se sm rs wk ors owk) := (blk_D (wMo_in))
  refine lv_if_eq (tgt := 12) hx hb d_Md_effective_7 (by decide) (fun hc => ?_) (fun hc => absurd hlk hc)
  refine lv_aload_n hx hb d_Md_effective_12 rfl (lv_at hl 0 rfl) ?_
  refine lv_iload_n hx hb d_Md_effective_13 rfl (lv_at hl 1 rfl) ?_
  refine lv_aload_n hx hb d_Md_effective_14 rfl (lv_at hl 0 rfl) ?_
  refine lv_iload_n hx hb d_Md_effective_15 rfl (lv_at hl 1 rfl) ?_
  refine ep_callP (W.runV (As := [.int (nI j)]) (rest := [.int (nI j), .ref a]) ⟨hx, hb, hml, hown, hg⟩ (m_Mo_kindOf l D cI cJ cZ cO a ((f_Mo_lacksTwo kn j t u).2) kn ed ct ti nm xa xb ma it vs se sm rs wk ors owk j (by omega) _ rfl) (ep_cwV 1 hg tw_789 tw_791 ts_11 tw_12 tk_Md_kindOf rfl rfl (by decide +kernel) ⟨(Nat.le_of_ble_eq_true rfl), (Nat.le_of_ble_eq_true rfl)⟩) ⟨ep_blind, va_recv (q0 := 0) (ci := 9) hK hP rfl rfl, ep_pre hKn (hP)⟩ rfl rfl hl.1 rfl (lv_room (Nat.le_of_ble_eq_true rfl)) d_Md_effective_16 ⟨Nat.zero_le _, Nat.zero_le _⟩) ?_
  refine W.eq (g2 := F0 m 19 ls [.int (f_Mo_kindOf kn j), .int (nI j), .ref a]) rfl ?_
  refine lv_topi (fun z9 e_z9 => ?_)
  obtain rfl : z9 = 1 := by rw [e_z9]; exact (by rw [show f_Mo_kindOf kn j = kn j - 1 from rfl, hk]; decide)
  refine lv_iload_n hx hb d_Md_effective_19 rfl (lv_at hl 3 rfl) ?_
  refine ep_callH (W.runV (As := [.int (nI j), .int 1, .int u]) (rest := []) ⟨hx, hb, hml, hown, hg⟩ (m_Mo_run_1 l D cI cJ cZ cO a ((f_Mo_lacksTwo kn j t u).2) kn ed ct ti nm xa xb ma it vs se sm rs wk ors owk n j u (by omega) hct (by omega) _ rfl) (ep_cwV 3 hg tw_832 tw_834 ts_17 tw_12 tk_Md_run rfl rfl (by decide +kernel) ⟨(Nat.le_of_ble_eq_true rfl), (Nat.le_of_ble_eq_true rfl)⟩) ⟨ep_blind, va_recv (q0 := 0) (ci := 9) hK hP rfl rfl, ep_pre hKn (hP)⟩ rfl rfl hl.1 rfl (lv_room (Nat.le_of_ble_eq_true rfl)) d_Md_effective_20 ⟨Nat.zero_le _, Nat.zero_le _⟩) hS (fun q h => h) (fun H locs hsz9 hk1 hP1 hS => ?_)
  refine W.eq (g2 := F0 m 23 ls []) rfl ?_
  have hP : va_P D cls (wMo cI cJ cZ a ((f_Mo_lacksTwo kn j t u).2) kn ed ct ti nm xa xb (nI ((f_Mo_run_1 ti nm xa it vs se rs wk n j u).1)) ((f_Mo_run_1 ti nm xa it vs se rs wk n j u).2.1) ((f_Mo_run_1 ti nm xa it vs se rs wk n j u).2.2.1) ((f_Mo_run_1 ti nm xa it vs se rs wk n j u).2.2.2.1) ((f_Mo_run_1 ti nm xa it vs se rs wk n j u).2.2.2.2.1) ((f_Mo_run_1 ti nm xa it vs se rs wk n j u).2.2.2.2.2.1) ((f_Mo_run_1 ti nm xa it vs se rs wk n j u).2.2.2.2.2.2) ors owk) H := hP1
  have hD : va_D (blk a 15) (wMo cI cJ cZ a ((f_Mo_lacksTwo kn j t u).2) kn ed ct ti nm xa xb (nI ((f_Mo_run_1 ti nm xa it vs se rs wk n j u).1)) ((f_Mo_run_1 ti nm xa it vs se rs wk n j u).2.1) ((f_Mo_run_1 ti nm xa it vs se rs wk n j u).2.2.1) ((f_Mo_run_1 ti nm xa it vs se rs wk n j u).2.2.2.1) ((f_Mo_run_1 ti nm xa it vs se rs wk n j u).2.2.2.2.1) ((f_Mo_run_1 ti nm xa it vs se rs wk n j u).2.2.2.2.2.1) ((f_Mo_run_1 ti nm xa it vs se rs wk n j u).2.2.2.2.2.2) ors owk) := (blk_D (wMo_in))
  refine lv_iconst (v := 0) hx hb d_Md_effective_23 (by decide) ?_
  refine lv_istore (lv' := [(4, .int 0), (0, .ref a), (1, .int (nI j)), (2, .int t), (3, .int u)]) hx hb d_Md_effective_24 hl (by decide) rfl (fun ls hl => ?_)
  refine lv_iconst (v := 0) hx hb d_Md_effective_26 (by decide) ?_
  refine lv_istore (lv' := [(5, .int 0), (4, .int 0), (0, .ref a), (1, .int (nI j)), (2, .int t), (3, .int u)]) hx hb d_Md_effective_27 hl (by decide) rfl (fun ls hl => ?_)
  exact key_29 n 0 0 ((f_Mo_run_1 ti nm xa it vs se rs wk n j u).1) ((f_Mo_run_1 ti nm xa it vs se rs wk n j u).2.1) ((f_Mo_run_1 ti nm xa it vs se rs wk n j u).2.2.1) ((f_Mo_run_1 ti nm xa it vs se rs wk n j u).2.2.2.1) ((f_Mo_run_1 ti nm xa it vs se rs wk n j u).2.2.2.2.1) ((f_Mo_run_1 ti nm xa it vs se rs wk n j u).2.2.2.2.2.1) ((f_Mo_run_1 ti nm xa it vs se rs wk n j u).2.2.2.2.2.2) _ _ ls (by omega) hR hl hP hS

def g_Mo_firstChange_1_227 (kn : Nat → Int32) (ti : Nat → Int32) (n : Nat) (j : Nat) (t : Int32) (u : Int32) : Nat → Nat → Int32 → Nat → (Nat → Int32) → (Nat → Int32) → (Nat → Int32) → Int64 → (Nat → Int64) → (Nat → Int32) → (Nat → Int64) → (Nat → Int32) → Int32 × Int32 × Nat × (Nat → Int32) × (Nat → Int32) × (Nat → Int32) × Int64 × (Nat → Int64) × (Nat → Int32) × (Nat → Int64) × (Nat → Int32)
  | 0, i, be, mc, it, vs, se, sm, rs, wk, ors, owk => (be, (f_Mo_lacksTwo kn j t u).2, mc, it, vs, se, sm, rs, wk, ors, owk)
  | k + 1, i, be, mc, it, vs, se, sm, rs, wk, ors, owk => if ¬ (f_Mo_find ti n j (ti (32 * (j + 4) + i))) = -1 then (g_Mo_firstChange_1_227 kn ti n j t u k (i + 1) be mc it vs se sm rs wk ors owk) else (if (ti (32 * (j + 4) + i)) < t then (g_Mo_firstChange_1_227 kn ti n j t u k (i + 1) be mc it vs se sm rs wk ors owk) else (if u < (ti (32 * (j + 4) + i)) then (g_Mo_firstChange_1_227 kn ti n j t u k (i + 1) be mc it vs se sm rs wk ors owk) else (if be = 0 then (g_Mo_firstChange_1_227 kn ti n j t u k (i + 1) (ti (32 * (j + 4) + i)) mc it vs se sm rs wk ors owk) else (if be ≤ (ti (32 * (j + 4) + i)) then (g_Mo_firstChange_1_227 kn ti n j t u k (i + 1) be mc it vs se sm rs wk ors owk) else (g_Mo_firstChange_1_227 kn ti n j t u k (i + 1) (ti (32 * (j + 4) + i)) mc it vs se sm rs wk ors owk)))))

def g_Mo_firstChange_1_97 (kn : Nat → Int32) (ti : Nat → Int32) (n : Nat) (n2 : Nat) (j : Nat) (t : Int32) (u : Int32) : Nat → Nat → Int32 → Nat → (Nat → Int32) → (Nat → Int32) → (Nat → Int32) → Int64 → (Nat → Int64) → (Nat → Int32) → (Nat → Int64) → (Nat → Int32) → Int32 × Int32 × Nat × (Nat → Int32) × (Nat → Int32) × (Nat → Int32) × Int64 × (Nat → Int64) × (Nat → Int32) × (Nat → Int64) × (Nat → Int32)
  | 0, i, be, mc, it, vs, se, sm, rs, wk, ors, owk => g_Mo_firstChange_1_227 kn ti n j t u n2 0 be mc it vs se sm rs wk ors owk
  | k + 1, i, be, mc, it, vs, se, sm, rs, wk, ors, owk => if ¬ (f_Mo_find ti n2 (j + 4) (ti (32 * j + i))) = -1 then (if (lg_cmp (ors ((f_Mo_find ti n2 (j + 4) (ti (32 * j + i))).toNatClampNeg)) (rs i)) = 0 then (if (owk ((f_Mo_find ti n2 (j + 4) (ti (32 * j + i))).toNatClampNeg)) = (wk i) then (g_Mo_firstChange_1_97 kn ti n n2 j t u k (i + 1) be mc it vs se sm rs wk ors owk) else (if (ti (32 * j + i)) < t then (g_Mo_firstChange_1_97 kn ti n n2 j t u k (i + 1) be mc it vs se sm rs wk ors owk) else (if u < (ti (32 * j + i)) then (g_Mo_firstChange_1_97 kn ti n n2 j t u k (i + 1) be mc it vs se sm rs wk ors owk) else (if be = 0 then (g_Mo_firstChange_1_97 kn ti n n2 j t u k (i + 1) (ti (32 * j + i)) mc it vs se sm rs wk ors owk) else (if be ≤ (ti (32 * j + i)) then (g_Mo_firstChange_1_97 kn ti n n2 j t u k (i + 1) be mc it vs se sm rs wk ors owk) else (g_Mo_firstChange_1_97 kn ti n n2 j t u k (i + 1) (ti (32 * j + i)) mc it vs se sm rs wk ors owk)))))) else (if (ti (32 * j + i)) < t then (g_Mo_firstChange_1_97 kn ti n n2 j t u k (i + 1) be mc it vs se sm rs wk ors owk) else (if u < (ti (32 * j + i)) then (g_Mo_firstChange_1_97 kn ti n n2 j t u k (i + 1) be mc it vs se sm rs wk ors owk) else (if be = 0 then (g_Mo_firstChange_1_97 kn ti n n2 j t u k (i + 1) (ti (32 * j + i)) mc it vs se sm rs wk ors owk) else (if be ≤ (ti (32 * j + i)) then (g_Mo_firstChange_1_97 kn ti n n2 j t u k (i + 1) be mc it vs se sm rs wk ors owk) else (g_Mo_firstChange_1_97 kn ti n n2 j t u k (i + 1) (ti (32 * j + i)) mc it vs se sm rs wk ors owk)))))) else (if (ti (32 * j + i)) < t then (g_Mo_firstChange_1_97 kn ti n n2 j t u k (i + 1) be mc it vs se sm rs wk ors owk) else (if u < (ti (32 * j + i)) then (g_Mo_firstChange_1_97 kn ti n n2 j t u k (i + 1) be mc it vs se sm rs wk ors owk) else (if be = 0 then (g_Mo_firstChange_1_97 kn ti n n2 j t u k (i + 1) (ti (32 * j + i)) mc it vs se sm rs wk ors owk) else (if be ≤ (ti (32 * j + i)) then (g_Mo_firstChange_1_97 kn ti n n2 j t u k (i + 1) be mc it vs se sm rs wk ors owk) else (g_Mo_firstChange_1_97 kn ti n n2 j t u k (i + 1) (ti (32 * j + i)) mc it vs se sm rs wk ors owk)))))

def g_Mo_firstChange_1_38 (kn : Nat → Int32) (ti : Nat → Int32) (nm : Nat → Int32) (xa : Nat → Int32) (n : Nat) (n2 : Nat) (j : Nat) (t : Int32) (u : Int32) : Nat → Nat → Nat → (Nat → Int32) → (Nat → Int32) → (Nat → Int32) → Int64 → (Nat → Int64) → (Nat → Int32) → (Nat → Int64) → (Nat → Int32) → Int32 × Int32 × Nat × (Nat → Int32) × (Nat → Int32) × (Nat → Int32) × Int64 × (Nat → Int64) × (Nat → Int32) × (Nat → Int64) × (Nat → Int32)
  | 0, i, mc, it, vs, se, sm, rs, wk, ors, owk => g_Mo_firstChange_1_97 kn ti n n2 j t u n 0 0 ((f_Mo_run_1 ti nm xa it vs se rs wk n j 1000000000).1) ((f_Mo_run_1 ti nm xa it vs se rs wk n j 1000000000).2.1) ((f_Mo_run_1 ti nm xa it vs se rs wk n j 1000000000).2.2.1) ((f_Mo_run_1 ti nm xa it vs se rs wk n j 1000000000).2.2.2.1) ((f_Mo_run_1 ti nm xa it vs se rs wk n j 1000000000).2.2.2.2.1) ((f_Mo_run_1 ti nm xa it vs se rs wk n j 1000000000).2.2.2.2.2.1) ((f_Mo_run_1 ti nm xa it vs se rs wk n j 1000000000).2.2.2.2.2.2) ors owk
  | k + 1, i, mc, it, vs, se, sm, rs, wk, ors, owk => g_Mo_firstChange_1_38 kn ti nm xa n n2 j t u k (i + 1) mc it vs se sm rs wk (vp_updL ors i (rs i)) (upd owk i (wk i))

def f_Mo_firstChange_1 (kn : Nat → Int32) (ti : Nat → Int32) (nm : Nat → Int32) (xa : Nat → Int32) (it : Nat → Int32) (vs : Nat → Int32) (se : Nat → Int32) (rs : Nat → Int64) (wk : Nat → Int32) (ors : Nat → Int64) (owk : Nat → Int32) (n : Nat) (n2 : Nat) (j : Nat) (t : Int32) (u : Int32) : Int32 × Int32 × Nat × (Nat → Int32) × (Nat → Int32) × (Nat → Int32) × Int64 × (Nat → Int64) × (Nat → Int32) × (Nat → Int64) × (Nat → Int32) := g_Mo_firstChange_1_38 kn ti nm xa n n2 j t u 32 0 ((f_Mo_run_1 ti nm xa it vs se rs wk n2 (j + 4) 1000000000).1) ((f_Mo_run_1 ti nm xa it vs se rs wk n2 (j + 4) 1000000000).2.1) ((f_Mo_run_1 ti nm xa it vs se rs wk n2 (j + 4) 1000000000).2.2.1) ((f_Mo_run_1 ti nm xa it vs se rs wk n2 (j + 4) 1000000000).2.2.2.1) ((f_Mo_run_1 ti nm xa it vs se rs wk n2 (j + 4) 1000000000).2.2.2.2.1) ((f_Mo_run_1 ti nm xa it vs se rs wk n2 (j + 4) 1000000000).2.2.2.2.2.1) ((f_Mo_run_1 ti nm xa it vs se rs wk n2 (j + 4) 1000000000).2.2.2.2.2.2) ors owk
set_option maxHeartbeats 4000000 in
set_option maxRecDepth 100000 in
theorem m_Mo_firstChange_1 (l : Launch) (D : va_G) (cI cJ cZ cO : ClassId) (a : Nat) (code : Int32) (kn : Nat → Int32) (ed : Nat → Int32) (ct : Nat → Int32) (ti : Nat → Int32) (nm : Nat → Int32) (xa : Nat → Int32) (xb : Nat → Int32) (ma : Int32) (it : Nat → Int32) (vs : Nat → Int32) (se : Nat → Int32) (sm : Int64) (rs : Nat → Int64) (wk : Nat → Int32) (ors : Nat → Int64) (owk : Nat → Int32) (n : Nat) (n2 : Nat) (j : Nat) (t : Int32) (u : Int32) (hj : j < 4) (hlk : (f_Mo_lacksTwo kn j t u).1 = 0) (hk : kn j = 2) (hct : ct j = nI n) (hn : n ≤ 32) (hct2 : ct (j + 4) = nI n2) (hn2 : n2 ≤ 32) (hbz : bz wk) (hed : ¬ ed j = 0) (R : Int32 × Int32 × Nat × (Nat → Int32) × (Nat → Int32) × (Nat → Int32) × Int64 × (Nat → Int64) × (Nat → Int32) × (Nat → Int64) × (Nat → Int32)) (hR : f_Mo_firstChange_1 kn ti nm xa it vs se rs wk ors owk n n2 j t u = R) : Met l y_Md_firstChange (k_Md_firstChange :: gt) rm_Md_firstChange (Pc0 D cI cJ cZ cO [.ref a, .int (nI j), .int t, .int u] (fun H => va_P D cls (wMo cI cJ cZ a code kn ed ct ti nm xa xb ma it vs se sm rs wk ors owk) H)) (Qd (blk a 15) (some (.int R.1)) (fun H => va_P D cls (wMo cI cJ cZ a R.2.1 kn ed ct ti nm xa xb (nI R.2.2.1) R.2.2.2.1 R.2.2.2.2.1 R.2.2.2.2.2.1 R.2.2.2.2.2.2.1 R.2.2.2.2.2.2.2.1 R.2.2.2.2.2.2.2.2.1 R.2.2.2.2.2.2.2.2.2.1 R.2.2.2.2.2.2.2.2.2.2) H)) 0 0 (blk a 15) := by
  refine Met.ofW (cc := c_Md_firstChange) (maxL := 9) (ret := (Option.some FieldType.int)) (by decide) rfl ?_
  intro p e s m args below meth c s₁ B hml hv
  obtain ⟨rfl, hKn, hP⟩ := hv
  have hx := B.exec
  have hb := B.bytes
  have hr := B.returns
  have hts := atoms_spec (ws := k_Md_firstChange :: gt) B.pre
  have hg : ∀ w ∈ gt, w.before _ s = true := fun w h => hts w (List.mem_cons_of_mem _ h)
  have hown : s.vm.findClass R_Md = some m.cls := findClass_of_methodNamed B.named
  have hlocks := B.notSynchronized
  have hK := hKn.1
  have hl := lv_entry ([.ref a, .int (nI j), .int t, .int u]) (n := 9) (Nat.le_of_ble_eq_true rfl)
  rw [lg_entry_eq]
  generalize (lg_sl ([.ref a, .int (nI j), .int t, .int u]) ++ List.replicate (9 - (lg_sl ([.ref a, .int (nI j), .int t, .int u])).length) Slot.unset).toArray = ls at hl ⊢
  have hl : lv_has ls 9 [(0, .ref a), (1, .int (nI j)), (2, .int t), (3, .int u)] := hl
  have hS : va_S (blk a 15) s.heap s.heap [] := va_S.rf
  have hD : va_D (blk a 15) (wMo cI cJ cZ a code kn ed ct ti nm xa xb ma it vs se sm rs wk ors owk) := (blk_D (wMo_in))
  have key_227 : ∀ (k : Nat) (i : Nat) (be : Int32) (mc : Nat) (it : Nat → Int32) (vs : Nat → Int32) (se : Nat → Int32) (sm : Int64) (rs : Nat → Int64) (wk : Nat → Int32) (ors : Nat → Int64) (owk : Nat → Int32) (H : Heap) (locs : List Loc) (ls : Array Slot), i + k = n2 → g_Mo_firstChange_1_227 kn ti n j t u k i be mc it vs se sm rs wk ors owk = R → lv_has ls 9 [(5, .int (nI i)), (4, .int be), (0, .ref a), (1, .int (nI j)), (2, .int t), (3, .int u)] → va_P D cls (wMo cI cJ cZ a ((f_Mo_lacksTwo kn j t u).2) kn ed ct ti nm xa xb (nI mc) it vs se sm rs wk ors owk) H → va_S (blk a 15) s.heap H locs → W p l e (headSpec (k_Md_firstChange :: gt) rm_Md_firstChange).room s m ([.ref a, .int (nI j), .int t, .int u] : List Value).toArray below meth c H locs 0 0 (MQ below (Qd (blk a 15) (some (.int R.1)) (fun H => va_P D cls (wMo cI cJ cZ a R.2.1 kn ed ct ti nm xa xb (nI R.2.2.1) R.2.2.2.1 R.2.2.2.2.1 R.2.2.2.2.2.1 R.2.2.2.2.2.2.1 R.2.2.2.2.2.2.2.1 R.2.2.2.2.2.2.2.2.1 R.2.2.2.2.2.2.2.2.2.1 R.2.2.2.2.2.2.2.2.2.2) H)) ([.ref a, .int (nI j), .int t, .int u] : List Value).toArray s 0 0 (blk a 15)) (F0 m 227 ls []) := by
    intro k
    induction k with
    | zero =>
      intro i be mc it vs se sm rs wk ors owk H locs ls hi hR hl hP hS
      have hR : ((be, (f_Mo_lacksTwo kn j t u).2, mc, it, vs, se, sm, rs, wk, ors, owk)) = R := hR
      have hD : va_D (blk a 15) (wMo cI cJ cZ a ((f_Mo_lacksTwo kn j t u).2) kn ed ct ti nm xa xb (nI mc) it vs se sm rs wk ors owk) := (blk_D (wMo_in))
      refine lv_iload hx hb d_Md_firstChange_227 (lv_at hl 0 rfl) ?_
      refine lv_aload_n hx hb d_Md_firstChange_229 rfl (lv_at hl 2 rfl) ?_
      refine va_get (D := D) (ci := 9) (v := .ref (a + 3)) (C := R_Md) (T := F_Md) (N := 17) hx hb hg in_Md hown hK hP 0 rfl rfl 3 (Nat.le_of_ble_eq_true rfl) (hg _ tw_709) (fun _ h9 => h9) rfl d_Md_firstChange_230 ?_
      refine lv_iload_n hx hb d_Md_firstChange_233 rfl (lv_at hl 3 rfl) ?_
      refine lv_iconst (v := 4) hx hb d_Md_firstChange_234 (by decide) ?_
      refine lv_iadd hx hb d_Md_firstChange_235 ?_
      refine lv_topi (fun z9 e_z9 => ?_)
      obtain rfl : z9 = nI (j + 4) := by rw [e_z9]; exact (nI_add j 4)
      refine ep_iald hx hb hK hP 3 0 rfl rfl (i := (j + 4)) (by omega) (by decide) d_Md_firstChange_236 ?_
      refine lv_topi (fun z9 e_z9 => ?_)
      obtain rfl : z9 = nI n2 := by rw [e_z9]; exact hct2
      refine lv_icmp_ge (tgt := 305) hx hb d_Md_firstChange_237 (by decide) (fun hc => ?_) (fun hc => False.elim (by have hc : ¬ (n2 ≤ i) := fun h => hc (by exact (nI_leI (a := n2) (b := i) (by omega) (by omega)).mpr h); omega))
      refine lv_iload hx hb d_Md_firstChange_305 (lv_at hl 1 rfl) ?_
      subst hR
      exact W.iret (v := be) hx hb hr (fun t9 ht hW => ⟨rfl, hS.F ht, by rw [ht]; exact hP⟩) hS.2.2 d_Md_firstChange_307
    | succ k ih =>
      intro i be mc it vs se sm rs wk ors owk H locs ls hi hR hl hP hS
      have hR : (if ¬ (f_Mo_find ti n j (ti (32 * (j + 4) + i))) = -1 then (g_Mo_firstChange_1_227 kn ti n j t u k (i + 1) be mc it vs se sm rs wk ors owk) else (if (ti (32 * (j + 4) + i)) < t then (g_Mo_firstChange_1_227 kn ti n j t u k (i + 1) be mc it vs se sm rs wk ors owk) else (if u < (ti (32 * (j + 4) + i)) then (g_Mo_firstChange_1_227 kn ti n j t u k (i + 1) be mc it vs se sm rs wk ors owk) else (if be = 0 then (g_Mo_firstChange_1_227 kn ti n j t u k (i + 1) (ti (32 * (j + 4) + i)) mc it vs se sm rs wk ors owk) else (if be ≤ (ti (32 * (j + 4) + i)) then (g_Mo_firstChange_1_227 kn ti n j t u k (i + 1) be mc it vs se sm rs wk ors owk) else (g_Mo_firstChange_1_227 kn ti n j t u k (i + 1) (ti (32 * (j + 4) + i)) mc it vs se sm rs wk ors owk)))))) = R := hR
      have hD : va_D (blk a 15) (wMo cI cJ cZ a ((f_Mo_lacksTwo kn j t u).2) kn ed ct ti nm xa xb (nI mc) it vs se sm rs wk ors owk) := (blk_D (wMo_in))
      refine lv_iload hx hb d_Md_firstChange_227 (lv_at hl 0 rfl) ?_
      refine lv_aload_n hx hb d_Md_firstChange_229 rfl (lv_at hl 2 rfl) ?_
      refine va_get (D := D) (ci := 9) (v := .ref (a + 3)) (C := R_Md) (T := F_Md) (N := 17) hx hb hg in_Md hown hK hP 0 rfl rfl 3 (Nat.le_of_ble_eq_true rfl) (hg _ tw_709) (fun _ h9 => h9) rfl d_Md_firstChange_230 ?_
      refine lv_iload_n hx hb d_Md_firstChange_233 rfl (lv_at hl 3 rfl) ?_
      refine lv_iconst (v := 4) hx hb d_Md_firstChange_234 (by decide) ?_
      refine lv_iadd hx hb d_Md_firstChange_235 ?_
      refine lv_topi (fun z9 e_z9 => ?_)
      obtain rfl : z9 = nI (j + 4) := by rw [e_z9]; exact (nI_add j 4)
      refine ep_iald hx hb hK hP 3 0 rfl rfl (i := (j + 4)) (by omega) (by decide) d_Md_firstChange_236 ?_
      refine lv_topi (fun z9 e_z9 => ?_)
      obtain rfl : z9 = nI n2 := by rw [e_z9]; exact hct2
      refine lv_icmp_ge (tgt := 305) hx hb d_Md_firstChange_237 (by decide) (fun hc => False.elim (by have hc := (nI_leI (a := n2) (b := i) (by omega) (by omega)).mp hc; omega)) (fun hc => ?_)
      refine lv_aload_n hx hb d_Md_firstChange_240 rfl (lv_at hl 2 rfl) ?_
      refine va_get (D := D) (ci := 9) (v := .ref (a + 4)) (C := R_Md) (T := F_Md) (N := 17) hx hb hg in_Md hown hK hP 0 rfl rfl 4 (Nat.le_of_ble_eq_true rfl) (hg _ tw_710) (fun _ h9 => h9) rfl d_Md_firstChange_241 ?_
      refine lv_bipush (v := 32) hx hb d_Md_firstChange_244 (by decide) ?_
      refine lv_iload_n hx hb d_Md_firstChange_246 rfl (lv_at hl 3 rfl) ?_
      refine lv_iconst (v := 4) hx hb d_Md_firstChange_247 (by decide) ?_
      refine lv_iadd hx hb d_Md_firstChange_248 ?_
      refine lv_topi (fun z9 e_z9 => ?_)
      obtain rfl : z9 = nI (j + 4) := by rw [e_z9]; exact (nI_add j 4)
      refine lv_imul hx hb d_Md_firstChange_249 ?_
      refine lv_topi (fun z9 e_z9 => ?_)
      obtain rfl : z9 = nI (32 * (j + 4)) := by rw [e_z9]; exact (nI_mul 32 (j + 4))
      refine lv_iload hx hb d_Md_firstChange_250 (lv_at hl 0 rfl) ?_
      refine lv_iadd hx hb d_Md_firstChange_252 ?_
      refine lv_topi (fun z9 e_z9 => ?_)
      obtain rfl : z9 = nI (32 * (j + 4) + i) := by rw [e_z9]; exact (nI_add (32 * (j + 4)) i)
      refine ep_iald hx hb hK hP 4 0 rfl rfl (i := (32 * (j + 4) + i)) (by omega) (by decide) d_Md_firstChange_253 ?_
      refine lv_istore (lv' := [(6, .int (ti (32 * (j + 4) + i))), (5, .int (nI i)), (4, .int be), (0, .ref a), (1, .int (nI j)), (2, .int t), (3, .int u)]) hx hb d_Md_firstChange_254 hl (by decide) rfl (fun ls hl => ?_)
      refine lv_aload_n hx hb d_Md_firstChange_256 rfl (lv_at hl 3 rfl) ?_
      refine lv_iload_n hx hb d_Md_firstChange_257 rfl (lv_at hl 4 rfl) ?_
      refine lv_iload hx hb d_Md_firstChange_258 (lv_at hl 0 rfl) ?_
      refine ep_callP (W.runV (As := [.int (nI j), .int (ti (32 * (j + 4) + i))]) (rest := []) ⟨hx, hb, hml, hown, hg⟩ (m_Mo_find l D cI cJ cZ cO a ((f_Mo_lacksTwo kn j t u).2) kn ed ct ti nm xa xb (nI mc) it vs se sm rs wk ors owk n j (ti (32 * (j + 4) + i)) (by omega) hct (by omega) _ rfl) (ep_cwV 2 hg tw_785 tw_787 ts_10 tw_12 tk_Md_find rfl rfl (by decide +kernel) ⟨(Nat.le_of_ble_eq_true rfl), (Nat.le_of_ble_eq_true rfl)⟩) ⟨ep_blind, va_recv (q0 := 0) (ci := 9) hK hP rfl rfl, ep_pre hKn (hP)⟩ rfl rfl hl.1 rfl (lv_room (Nat.le_of_ble_eq_true rfl)) d_Md_firstChange_260 ⟨Nat.zero_le _, Nat.zero_le _⟩) ?_
      refine W.eq (g2 := F0 m 263 ls [.int (f_Mo_find ti n j (ti (32 * (j + 4) + i)))]) rfl ?_
      refine lv_topi (fun z8 e_z8 => ?_)
      obtain rfl : z8 = oI (¬ (f_Mo_find ti n j (ti (32 * (j + 4) + i))) = -1) ((f_Mo_find ti n j (ti (32 * (j + 4) + i))).toNatClampNeg) := by rw [e_z8]; exact (oI_of (fi_at _ _ _ _ (by omega)))
      by_cases hc1 : ¬ (f_Mo_find ti n j (ti (32 * (j + 4) + i))) = -1
      · rw [show oI (¬ (f_Mo_find ti n j (ti (32 * (j + 4) + i))) = -1) ((f_Mo_find ti n j (ti (32 * (j + 4) + i))).toNatClampNeg) = nI ((f_Mo_find ti n j (ti (32 * (j + 4) + i))).toNatClampNeg) from if_pos hc1]
        have hp9 : (f_Mo_find ti n j (ti (32 * (j + 4) + i))).toNatClampNeg < n := fi_lt _ _ _ _ (by omega) hc1
        refine lv_if_ge (tgt := 295) hx hb d_Md_firstChange_263 (by decide) (fun hc => ?_) (fun hc => False.elim (by have hc : ¬ (0 ≤ (f_Mo_find ti n j (ti (32 * (j + 4) + i))).toNatClampNeg) := fun h => hc (by exact (nI_leI (a := 0) (b := (f_Mo_find ti n j (ti (32 * (j + 4) + i))).toNatClampNeg) (by omega) (by omega)).mpr h); omega))
        refine lv_iload hx hb d_Md_firstChange_295 (lv_at hl 2 rfl) ?_
        refine lv_istore (lv' := [(4, .int be), (6, .int (ti (32 * (j + 4) + i))), (5, .int (nI i)), (0, .ref a), (1, .int (nI j)), (2, .int t), (3, .int u)]) hx hb d_Md_firstChange_297 hl (by decide) rfl (fun ls hl => ?_)
        refine lv_iinc (k := 2) (lv' := [(5, .int (nI (i + 1))), (4, .int be), (6, .int (ti (32 * (j + 4) + i))), (0, .ref a), (1, .int (nI j)), (2, .int t), (3, .int u)]) hx hb d_Md_firstChange_299 hl rfl (inc1 _) (by decide) rfl (fun ls hl => ?_)
        refine lv_goto (tgt := 227) hx hb d_Md_firstChange_302 (by decide) ?_
        rw [if_pos hc1] at hR
        exact ih (i + 1) be mc it vs se sm rs wk ors owk _ _ ls (by omega) hR (lv_sub hl [0, 1, 3, 4, 5, 6] rfl) hP hS
      · rw [show oI (¬ (f_Mo_find ti n j (ti (32 * (j + 4) + i))) = -1) ((f_Mo_find ti n j (ti (32 * (j + 4) + i))).toNatClampNeg) = -1 from if_neg hc1]
        refine lv_if_ge (tgt := 295) hx hb d_Md_firstChange_263 (by decide) (fun hc => False.elim (by revert hc; decide)) (fun hc => ?_)
        refine lv_iload hx hb d_Md_firstChange_266 (lv_at hl 0 rfl) ?_
        refine lv_iload_n hx hb d_Md_firstChange_268 rfl (lv_at hl 5 rfl) ?_
        refine lv_icmp_lt (tgt := 295) hx hb d_Md_firstChange_269 (by decide) (fun hc2 => ?_) (fun hc2 => ?_)
        · have hc2 : (ti (32 * (j + 4) + i)) < t := hc2
          refine lv_iload hx hb d_Md_firstChange_295 (lv_at hl 2 rfl) ?_
          refine lv_istore (lv' := [(4, .int be), (6, .int (ti (32 * (j + 4) + i))), (5, .int (nI i)), (0, .ref a), (1, .int (nI j)), (2, .int t), (3, .int u)]) hx hb d_Md_firstChange_297 hl (by decide) rfl (fun ls hl => ?_)
          refine lv_iinc (k := 2) (lv' := [(5, .int (nI (i + 1))), (4, .int be), (6, .int (ti (32 * (j + 4) + i))), (0, .ref a), (1, .int (nI j)), (2, .int t), (3, .int u)]) hx hb d_Md_firstChange_299 hl rfl (inc1 _) (by decide) rfl (fun ls hl => ?_)
          refine lv_goto (tgt := 227) hx hb d_Md_firstChange_302 (by decide) ?_
          rw [if_neg hc1, if_pos hc2] at hR
          exact ih (i + 1) be mc it vs se sm rs wk ors owk _ _ ls (by omega) hR (lv_sub hl [0, 1, 3, 4, 5, 6] rfl) hP hS
        · have hc2 : ¬ ((ti (32 * (j + 4) + i)) < t) := hc2
          refine lv_iload hx hb d_Md_firstChange_272 (lv_at hl 0 rfl) ?_
          refine lv_iload_n hx hb d_Md_firstChange_274 rfl (lv_at hl 6 rfl) ?_
          refine lv_icmp_gt (tgt := 295) hx hb d_Md_firstChange_275 (by decide) (fun hc3 => ?_) (fun hc3 => ?_)
          · have hc3 : u < (ti (32 * (j + 4) + i)) := hc3
            refine lv_iload hx hb d_Md_firstChange_295 (lv_at hl 2 rfl) ?_
            refine lv_istore (lv' := [(4, .int be), (6, .int (ti (32 * (j + 4) + i))), (5, .int (nI i)), (0, .ref a), (1, .int (nI j)), (2, .int t), (3, .int u)]) hx hb d_Md_firstChange_297 hl (by decide) rfl (fun ls hl => ?_)
            refine lv_iinc (k := 2) (lv' := [(5, .int (nI (i + 1))), (4, .int be), (6, .int (ti (32 * (j + 4) + i))), (0, .ref a), (1, .int (nI j)), (2, .int t), (3, .int u)]) hx hb d_Md_firstChange_299 hl rfl (inc1 _) (by decide) rfl (fun ls hl => ?_)
            refine lv_goto (tgt := 227) hx hb d_Md_firstChange_302 (by decide) ?_
            rw [if_neg hc1, if_neg hc2, if_pos hc3] at hR
            exact ih (i + 1) be mc it vs se sm rs wk ors owk _ _ ls (by omega) hR (lv_sub hl [0, 1, 3, 4, 5, 6] rfl) hP hS
          · have hc3 : ¬ (u < (ti (32 * (j + 4) + i))) := hc3
            refine lv_iload hx hb d_Md_firstChange_278 (lv_at hl 2 rfl) ?_
            refine lv_if_eq (tgt := 290) hx hb d_Md_firstChange_280 (by decide) (fun hc4 => ?_) (fun hc4 => ?_)
            · have hc4 : be = 0 := hc4
              refine lv_iload hx hb d_Md_firstChange_290 (lv_at hl 0 rfl) ?_
              refine lv_goto (tgt := 297) hx hb d_Md_firstChange_292 (by decide) ?_
              refine lv_istore (lv' := [(4, .int (ti (32 * (j + 4) + i))), (6, .int (ti (32 * (j + 4) + i))), (5, .int (nI i)), (0, .ref a), (1, .int (nI j)), (2, .int t), (3, .int u)]) hx hb d_Md_firstChange_297 hl (by decide) rfl (fun ls hl => ?_)
              refine lv_iinc (k := 2) (lv' := [(5, .int (nI (i + 1))), (4, .int (ti (32 * (j + 4) + i))), (6, .int (ti (32 * (j + 4) + i))), (0, .ref a), (1, .int (nI j)), (2, .int t), (3, .int u)]) hx hb d_Md_firstChange_299 hl rfl (inc1 _) (by decide) rfl (fun ls hl => ?_)
              refine lv_goto (tgt := 227) hx hb d_Md_firstChange_302 (by decide) ?_
              rw [if_neg hc1, if_neg hc2, if_neg hc3, if_pos hc4] at hR
              exact ih (i + 1) (ti (32 * (j + 4) + i)) mc it vs se sm rs wk ors owk _ _ ls (by omega) hR (lv_sub hl [0, 1, 3, 4, 5, 6] rfl) hP hS
            · have hc4 : ¬ (be = 0) := hc4
              refine lv_iload hx hb d_Md_firstChange_283 (lv_at hl 0 rfl) ?_
              refine lv_iload hx hb d_Md_firstChange_285 (lv_at hl 2 rfl) ?_
              refine lv_icmp_ge (tgt := 295) hx hb d_Md_firstChange_287 (by decide) (fun hc5 => ?_) (fun hc5 => ?_)
              · have hc5 : be ≤ (ti (32 * (j + 4) + i)) := hc5
                refine lv_iload hx hb d_Md_firstChange_295 (lv_at hl 2 rfl) ?_
                refine lv_istore (lv' := [(4, .int be), (6, .int (ti (32 * (j + 4) + i))), (5, .int (nI i)), (0, .ref a), (1, .int (nI j)), (2, .int t), (3, .int u)]) hx hb d_Md_firstChange_297 hl (by decide) rfl (fun ls hl => ?_)
                refine lv_iinc (k := 2) (lv' := [(5, .int (nI (i + 1))), (4, .int be), (6, .int (ti (32 * (j + 4) + i))), (0, .ref a), (1, .int (nI j)), (2, .int t), (3, .int u)]) hx hb d_Md_firstChange_299 hl rfl (inc1 _) (by decide) rfl (fun ls hl => ?_)
                refine lv_goto (tgt := 227) hx hb d_Md_firstChange_302 (by decide) ?_
                rw [if_neg hc1, if_neg hc2, if_neg hc3, if_neg hc4, if_pos hc5] at hR
                exact ih (i + 1) be mc it vs se sm rs wk ors owk _ _ ls (by omega) hR (lv_sub hl [0, 1, 3, 4, 5, 6] rfl) hP hS
              · have hc5 : ¬ (be ≤ (ti (32 * (j + 4) + i))) := hc5
                refine lv_iload hx hb d_Md_firstChange_290 (lv_at hl 0 rfl) ?_
                refine lv_goto (tgt := 297) hx hb d_Md_firstChange_292 (by decide) ?_
                refine lv_istore (lv' := [(4, .int (ti (32 * (j + 4) + i))), (6, .int (ti (32 * (j + 4) + i))), (5, .int (nI i)), (0, .ref a), (1, .int (nI j)), (2, .int t), (3, .int u)]) hx hb d_Md_firstChange_297 hl (by decide) rfl (fun ls hl => ?_)
                refine lv_iinc (k := 2) (lv' := [(5, .int (nI (i + 1))), (4, .int (ti (32 * (j + 4) + i))), (6, .int (ti (32 * (j + 4) + i))), (0, .ref a), (1, .int (nI j)), (2, .int t), (3, .int u)]) hx hb d_Md_firstChange_299 hl rfl (inc1 _) (by decide) rfl (fun ls hl => ?_)
                refine lv_goto (tgt := 227) hx hb d_Md_firstChange_302 (by decide) ?_
                rw [if_neg hc1, if_neg hc2, if_neg hc3, if_neg hc4, if_neg hc5] at hR
                exact ih (i + 1) (ti (32 * (j + 4) + i)) mc it vs se sm rs wk ors owk _ _ ls (by omega) hR (lv_sub hl [0, 1, 3, 4, 5, 6] rfl) hP hS
  have key_97 : ∀ (k : Nat) (i : Nat) (be : Int32) (mc : Nat) (it : Nat → Int32) (vs : Nat → Int32) (se : Nat → Int32) (sm : Int64) (rs : Nat → Int64) (wk : Nat → Int32) (ors : Nat → Int64) (owk : Nat → Int32) (H : Heap) (locs : List Loc) (ls : Array Slot), i + k = n → g_Mo_firstChange_1_97 kn ti n n2 j t u k i be mc it vs se sm rs wk ors owk = R → lv_has ls 9 [(5, .int (nI i)), (4, .int be), (0, .ref a), (1, .int (nI j)), (2, .int t), (3, .int u)] → va_P D cls (wMo cI cJ cZ a ((f_Mo_lacksTwo kn j t u).2) kn ed ct ti nm xa xb (nI mc) it vs se sm rs wk ors owk) H → va_S (blk a 15) s.heap H locs → W p l e (headSpec (k_Md_firstChange :: gt) rm_Md_firstChange).room s m ([.ref a, .int (nI j), .int t, .int u] : List Value).toArray below meth c H locs 0 0 (MQ below (Qd (blk a 15) (some (.int R.1)) (fun H => va_P D cls (wMo cI cJ cZ a R.2.1 kn ed ct ti nm xa xb (nI R.2.2.1) R.2.2.2.1 R.2.2.2.2.1 R.2.2.2.2.2.1 R.2.2.2.2.2.2.1 R.2.2.2.2.2.2.2.1 R.2.2.2.2.2.2.2.2.1 R.2.2.2.2.2.2.2.2.2.1 R.2.2.2.2.2.2.2.2.2.2) H)) ([.ref a, .int (nI j), .int t, .int u] : List Value).toArray s 0 0 (blk a 15)) (F0 m 97 ls []) := by
    intro k
    induction k with
    | zero =>
      intro i be mc it vs se sm rs wk ors owk H locs ls hi hR hl hP hS
      have hR : (g_Mo_firstChange_1_227 kn ti n j t u n2 0 be mc it vs se sm rs wk ors owk) = R := hR
      have hD : va_D (blk a 15) (wMo cI cJ cZ a ((f_Mo_lacksTwo kn j t u).2) kn ed ct ti nm xa xb (nI mc) it vs se sm rs wk ors owk) := (blk_D (wMo_in))
      refine lv_iload hx hb d_Md_firstChange_97 (lv_at hl 0 rfl) ?_
      refine lv_aload_n hx hb d_Md_firstChange_99 rfl (lv_at hl 2 rfl) ?_
      refine va_get (D := D) (ci := 9) (v := .ref (a + 3)) (C := R_Md) (T := F_Md) (N := 17) hx hb hg in_Md hown hK hP 0 rfl rfl 3 (Nat.le_of_ble_eq_true rfl) (hg _ tw_709) (fun _ h9 => h9) rfl d_Md_firstChange_100 ?_
      refine lv_iload_n hx hb d_Md_firstChange_103 rfl (lv_at hl 3 rfl) ?_
      refine ep_iald hx hb hK hP 3 0 rfl rfl (i := j) (by omega) (by decide) d_Md_firstChange_104 ?_
      refine lv_topi (fun z9 e_z9 => ?_)
      obtain rfl : z9 = nI n := by rw [e_z9]; exact hct
      refine lv_icmp_ge (tgt := 224) hx hb d_Md_firstChange_105 (by decide) (fun hc => ?_) (fun hc => False.elim (by have hc : ¬ (n ≤ i) := fun h => hc (by exact (nI_leI (a := n) (b := i) (by omega) (by omega)).mpr h); omega))
      refine lv_iconst (v := 0) hx hb d_Md_firstChange_224 (by decide) ?_
      refine lv_istore (lv' := [(5, .int 0), (4, .int be), (0, .ref a), (1, .int (nI j)), (2, .int t), (3, .int u)]) hx hb d_Md_firstChange_225 hl (by decide) rfl (fun ls hl => ?_)
      exact key_227 n2 0 be mc it vs se sm rs wk ors owk _ _ ls (by omega) hR hl hP hS
    | succ k ih =>
      intro i be mc it vs se sm rs wk ors owk H locs ls hi hR hl hP hS
      have hR : (if ¬ (f_Mo_find ti n2 (j + 4) (ti (32 * j + i))) = -1 then (if (lg_cmp (ors ((f_Mo_find ti n2 (j + 4) (ti (32 * j + i))).toNatClampNeg)) (rs i)) = 0 then (if (owk ((f_Mo_find ti n2 (j + 4) (ti (32 * j + i))).toNatClampNeg)) = (wk i) then (g_Mo_firstChange_1_97 kn ti n n2 j t u k (i + 1) be mc it vs se sm rs wk ors owk) else (if (ti (32 * j + i)) < t then (g_Mo_firstChange_1_97 kn ti n n2 j t u k (i + 1) be mc it vs se sm rs wk ors owk) else (if u < (ti (32 * j + i)) then (g_Mo_firstChange_1_97 kn ti n n2 j t u k (i + 1) be mc it vs se sm rs wk ors owk) else (if be = 0 then (g_Mo_firstChange_1_97 kn ti n n2 j t u k (i + 1) (ti (32 * j + i)) mc it vs se sm rs wk ors owk) else (if be ≤ (ti (32 * j + i)) then (g_Mo_firstChange_1_97 kn ti n n2 j t u k (i + 1) be mc it vs se sm rs wk ors owk) else (g_Mo_firstChange_1_97 kn ti n n2 j t u k (i + 1) (ti (32 * j + i)) mc it vs se sm rs wk ors owk)))))) else (if (ti (32 * j + i)) < t then (g_Mo_firstChange_1_97 kn ti n n2 j t u k (i + 1) be mc it vs se sm rs wk ors owk) else (if u < (ti (32 * j + i)) then (g_Mo_firstChange_1_97 kn ti n n2 j t u k (i + 1) be mc it vs se sm rs wk ors owk) else (if be = 0 then (g_Mo_firstChange_1_97 kn ti n n2 j t u k (i + 1) (ti (32 * j + i)) mc it vs se sm rs wk ors owk) else (if be ≤ (ti (32 * j + i)) then (g_Mo_firstChange_1_97 kn ti n n2 j t u k (i + 1) be mc it vs se sm rs wk ors owk) else (g_Mo_firstChange_1_97 kn ti n n2 j t u k (i + 1) (ti (32 * j + i)) mc it vs se sm rs wk ors owk)))))) else (if (ti (32 * j + i)) < t then (g_Mo_firstChange_1_97 kn ti n n2 j t u k (i + 1) be mc it vs se sm rs wk ors owk) else (if u < (ti (32 * j + i)) then (g_Mo_firstChange_1_97 kn ti n n2 j t u k (i + 1) be mc it vs se sm rs wk ors owk) else (if be = 0 then (g_Mo_firstChange_1_97 kn ti n n2 j t u k (i + 1) (ti (32 * j + i)) mc it vs se sm rs wk ors owk) else (if be ≤ (ti (32 * j + i)) then (g_Mo_firstChange_1_97 kn ti n n2 j t u k (i + 1) be mc it vs se sm rs wk ors owk) else (g_Mo_firstChange_1_97 kn ti n n2 j t u k (i + 1) (ti (32 * j + i)) mc it vs se sm rs wk ors owk)))))) = R := hR
      have hD : va_D (blk a 15) (wMo cI cJ cZ a ((f_Mo_lacksTwo kn j t u).2) kn ed ct ti nm xa xb (nI mc) it vs se sm rs wk ors owk) := (blk_D (wMo_in))
      refine lv_iload hx hb d_Md_firstChange_97 (lv_at hl 0 rfl) ?_
      refine lv_aload_n hx hb d_Md_firstChange_99 rfl (lv_at hl 2 rfl) ?_
      refine va_get (D := D) (ci := 9) (v := .ref (a + 3)) (C := R_Md) (T := F_Md) (N := 17) hx hb hg in_Md hown hK hP 0 rfl rfl 3 (Nat.le_of_ble_eq_true rfl) (hg _ tw_709) (fun _ h9 => h9) rfl d_Md_firstChange_100 ?_
      refine lv_iload_n hx hb d_Md_firstChange_103 rfl (lv_at hl 3 rfl) ?_
      refine ep_iald hx hb hK hP 3 0 rfl rfl (i := j) (by omega) (by decide) d_Md_firstChange_104 ?_
      refine lv_topi (fun z9 e_z9 => ?_)
      obtain rfl : z9 = nI n := by rw [e_z9]; exact hct
      refine lv_icmp_ge (tgt := 224) hx hb d_Md_firstChange_105 (by decide) (fun hc => False.elim (by have hc := (nI_leI (a := n) (b := i) (by omega) (by omega)).mp hc; omega)) (fun hc => ?_)
      refine lv_aload_n hx hb d_Md_firstChange_108 rfl (lv_at hl 2 rfl) ?_
      refine va_get (D := D) (ci := 9) (v := .ref (a + 4)) (C := R_Md) (T := F_Md) (N := 17) hx hb hg in_Md hown hK hP 0 rfl rfl 4 (Nat.le_of_ble_eq_true rfl) (hg _ tw_710) (fun _ h9 => h9) rfl d_Md_firstChange_109 ?_
      refine lv_bipush (v := 32) hx hb d_Md_firstChange_112 (by decide) ?_
      refine lv_iload_n hx hb d_Md_firstChange_114 rfl (lv_at hl 3 rfl) ?_
      refine lv_imul hx hb d_Md_firstChange_115 ?_
      refine lv_topi (fun z9 e_z9 => ?_)
      obtain rfl : z9 = nI (32 * j) := by rw [e_z9]; exact (nI_mul 32 j)
      refine lv_iload hx hb d_Md_firstChange_116 (lv_at hl 0 rfl) ?_
      refine lv_iadd hx hb d_Md_firstChange_118 ?_
      refine lv_topi (fun z9 e_z9 => ?_)
      obtain rfl : z9 = nI (32 * j + i) := by rw [e_z9]; exact (nI_add (32 * j) i)
      refine ep_iald hx hb hK hP 4 0 rfl rfl (i := (32 * j + i)) (by omega) (by decide) d_Md_firstChange_119 ?_
      refine lv_istore (lv' := [(6, .int (ti (32 * j + i))), (5, .int (nI i)), (4, .int be), (0, .ref a), (1, .int (nI j)), (2, .int t), (3, .int u)]) hx hb d_Md_firstChange_120 hl (by decide) rfl (fun ls hl => ?_)
      refine lv_aload_n hx hb d_Md_firstChange_122 rfl (lv_at hl 3 rfl) ?_
      refine lv_iload_n hx hb d_Md_firstChange_123 rfl (lv_at hl 4 rfl) ?_
      refine lv_iconst (v := 4) hx hb d_Md_firstChange_124 (by decide) ?_
      refine lv_iadd hx hb d_Md_firstChange_125 ?_
      refine lv_topi (fun z9 e_z9 => ?_)
      obtain rfl : z9 = nI (j + 4) := by rw [e_z9]; exact (nI_add j 4)
      refine lv_iload hx hb d_Md_firstChange_126 (lv_at hl 0 rfl) ?_
      refine ep_callP (W.runV (As := [.int (nI (j + 4)), .int (ti (32 * j + i))]) (rest := []) ⟨hx, hb, hml, hown, hg⟩ (m_Mo_find l D cI cJ cZ cO a ((f_Mo_lacksTwo kn j t u).2) kn ed ct ti nm xa xb (nI mc) it vs se sm rs wk ors owk n2 (j + 4) (ti (32 * j + i)) (by omega) hct2 (by omega) _ rfl) (ep_cwV 2 hg tw_785 tw_787 ts_10 tw_12 tk_Md_find rfl rfl (by decide +kernel) ⟨(Nat.le_of_ble_eq_true rfl), (Nat.le_of_ble_eq_true rfl)⟩) ⟨ep_blind, va_recv (q0 := 0) (ci := 9) hK hP rfl rfl, ep_pre hKn (hP)⟩ rfl rfl hl.1 rfl (lv_room (Nat.le_of_ble_eq_true rfl)) d_Md_firstChange_128 ⟨Nat.zero_le _, Nat.zero_le _⟩) ?_
      refine W.eq (g2 := F0 m 131 ls [.int (f_Mo_find ti n2 (j + 4) (ti (32 * j + i)))]) rfl ?_
      refine lv_topi (fun z8 e_z8 => ?_)
      obtain rfl : z8 = oI (¬ (f_Mo_find ti n2 (j + 4) (ti (32 * j + i))) = -1) ((f_Mo_find ti n2 (j + 4) (ti (32 * j + i))).toNatClampNeg) := by rw [e_z8]; exact (oI_of (fi_at _ _ _ _ (by omega)))
      by_cases hc6 : ¬ (f_Mo_find ti n2 (j + 4) (ti (32 * j + i))) = -1
      · rw [show oI (¬ (f_Mo_find ti n2 (j + 4) (ti (32 * j + i))) = -1) ((f_Mo_find ti n2 (j + 4) (ti (32 * j + i))).toNatClampNeg) = nI ((f_Mo_find ti n2 (j + 4) (ti (32 * j + i))).toNatClampNeg) from if_pos hc6]
        have hp9 : (f_Mo_find ti n2 (j + 4) (ti (32 * j + i))).toNatClampNeg < n2 := fi_lt _ _ _ _ (by omega) hc6
        refine lv_istore (lv' := [(7, .int (nI ((f_Mo_find ti n2 (j + 4) (ti (32 * j + i))).toNatClampNeg))), (6, .int (ti (32 * j + i))), (5, .int (nI i)), (4, .int be), (0, .ref a), (1, .int (nI j)), (2, .int t), (3, .int u)]) hx hb d_Md_firstChange_131 hl (by decide) rfl (fun ls hl => ?_)
        refine lv_iload hx hb d_Md_firstChange_133 (lv_at hl 0 rfl) ?_
        refine lv_if_lt (tgt := 173) hx hb d_Md_firstChange_135 (by decide) (fun hc => False.elim (by have hc := (nI_ltI (a := (f_Mo_find ti n2 (j + 4) (ti (32 * j + i))).toNatClampNeg) (b := 0) (by omega) (by omega)).mp hc; omega)) (fun hc => ?_)
        refine lv_aload_n hx hb d_Md_firstChange_138 rfl (lv_at hl 4 rfl) ?_
        refine va_get (D := D) (ci := 9) (v := .ref (a + 13)) (C := R_Md) (T := F_Md) (N := 17) hx hb hg in_Md hown hK hP 0 rfl rfl 15 (Nat.le_of_ble_eq_true rfl) (hg _ tw_721) (fun _ h9 => h9) rfl d_Md_firstChange_139 ?_
        refine lv_iload hx hb d_Md_firstChange_142 (lv_at hl 0 rfl) ?_
        refine ep_lald hx hb hK hP 13 1 rfl rfl (i := ((f_Mo_find ti n2 (j + 4) (ti (32 * j + i))).toNatClampNeg)) (by omega) (by decide) d_Md_firstChange_144 ?_
        refine lv_aload_n hx hb d_Md_firstChange_145 rfl (lv_at hl 4 rfl) ?_
        refine va_get (D := D) (ci := 9) (v := .ref (a + 11)) (C := R_Md) (T := F_Md) (N := 17) hx hb hg in_Md hown hK hP 0 rfl rfl 13 (Nat.le_of_ble_eq_true rfl) (hg _ tw_719) (fun _ h9 => h9) rfl d_Md_firstChange_146 ?_
        refine lv_iload hx hb d_Md_firstChange_149 (lv_at hl 2 rfl) ?_
        refine ep_lald hx hb hK hP 11 1 rfl rfl (i := i) (by omega) (by decide) d_Md_firstChange_151 ?_
        refine W.lcmp hx hb d_Md_firstChange_152 ?_
        refine lv_if_ne (tgt := 173) hx hb d_Md_firstChange_153 (by decide) (fun hc7 => ?_) (fun hc7 => ?_)
        · have hc7 : ¬ ((lg_cmp (ors ((f_Mo_find ti n2 (j + 4) (ti (32 * j + i))).toNatClampNeg)) (rs i)) = 0) := hc7
          refine lv_iconst (v := 1) hx hb d_Md_firstChange_173 (by decide) ?_
          refine lv_goto (tgt := 178) hx hb d_Md_firstChange_174 (by decide) ?_
          refine lv_istore (lv' := [(8, .int 1), (7, .int (nI ((f_Mo_find ti n2 (j + 4) (ti (32 * j + i))).toNatClampNeg))), (6, .int (ti (32 * j + i))), (5, .int (nI i)), (4, .int be), (0, .ref a), (1, .int (nI j)), (2, .int t), (3, .int u)]) hx hb d_Md_firstChange_178 hl (by decide) rfl (fun ls hl => ?_)
          refine lv_iload hx hb d_Md_firstChange_180 (lv_at hl 0 rfl) ?_
          refine lv_if_eq (tgt := 214) hx hb d_Md_firstChange_182 (by decide) (fun hc => False.elim (by revert hc; decide)) (fun hc => ?_)
          refine lv_iload hx hb d_Md_firstChange_185 (lv_at hl 2 rfl) ?_
          refine lv_iload_n hx hb d_Md_firstChange_187 rfl (lv_at hl 7 rfl) ?_
          refine lv_icmp_lt (tgt := 214) hx hb d_Md_firstChange_188 (by decide) (fun hc8 => ?_) (fun hc8 => ?_)
          · have hc8 : (ti (32 * j + i)) < t := hc8
            refine lv_iload hx hb d_Md_firstChange_214 (lv_at hl 4 rfl) ?_
            refine lv_istore (lv' := [(4, .int be), (8, .int 1), (7, .int (nI ((f_Mo_find ti n2 (j + 4) (ti (32 * j + i))).toNatClampNeg))), (6, .int (ti (32 * j + i))), (5, .int (nI i)), (0, .ref a), (1, .int (nI j)), (2, .int t), (3, .int u)]) hx hb d_Md_firstChange_216 hl (by decide) rfl (fun ls hl => ?_)
            refine lv_iinc (k := 4) (lv' := [(5, .int (nI (i + 1))), (4, .int be), (8, .int 1), (7, .int (nI ((f_Mo_find ti n2 (j + 4) (ti (32 * j + i))).toNatClampNeg))), (6, .int (ti (32 * j + i))), (0, .ref a), (1, .int (nI j)), (2, .int t), (3, .int u)]) hx hb d_Md_firstChange_218 hl rfl (inc1 _) (by decide) rfl (fun ls hl => ?_)
            refine lv_goto (tgt := 97) hx hb d_Md_firstChange_221 (by decide) ?_
            rw [if_pos hc6, if_neg hc7, if_pos hc8] at hR
            exact ih (i + 1) be mc it vs se sm rs wk ors owk _ _ ls (by omega) hR (lv_sub hl [0, 1, 5, 6, 7, 8] rfl) hP hS
          · have hc8 : ¬ ((ti (32 * j + i)) < t) := hc8
            refine lv_iload hx hb d_Md_firstChange_191 (lv_at hl 2 rfl) ?_
            refine lv_iload_n hx hb d_Md_firstChange_193 rfl (lv_at hl 8 rfl) ?_
            refine lv_icmp_gt (tgt := 214) hx hb d_Md_firstChange_194 (by decide) (fun hc9 => ?_) (fun hc9 => ?_)
            · have hc9 : u < (ti (32 * j + i)) := hc9
              refine lv_iload hx hb d_Md_firstChange_214 (lv_at hl 4 rfl) ?_
              refine lv_istore (lv' := [(4, .int be), (8, .int 1), (7, .int (nI ((f_Mo_find ti n2 (j + 4) (ti (32 * j + i))).toNatClampNeg))), (6, .int (ti (32 * j + i))), (5, .int (nI i)), (0, .ref a), (1, .int (nI j)), (2, .int t), (3, .int u)]) hx hb d_Md_firstChange_216 hl (by decide) rfl (fun ls hl => ?_)
              refine lv_iinc (k := 4) (lv' := [(5, .int (nI (i + 1))), (4, .int be), (8, .int 1), (7, .int (nI ((f_Mo_find ti n2 (j + 4) (ti (32 * j + i))).toNatClampNeg))), (6, .int (ti (32 * j + i))), (0, .ref a), (1, .int (nI j)), (2, .int t), (3, .int u)]) hx hb d_Md_firstChange_218 hl rfl (inc1 _) (by decide) rfl (fun ls hl => ?_)
              refine lv_goto (tgt := 97) hx hb d_Md_firstChange_221 (by decide) ?_
              rw [if_pos hc6, if_neg hc7, if_neg hc8, if_pos hc9] at hR
              exact ih (i + 1) be mc it vs se sm rs wk ors owk _ _ ls (by omega) hR (lv_sub hl [0, 1, 5, 6, 7, 8] rfl) hP hS
            · have hc9 : ¬ (u < (ti (32 * j + i))) := hc9
              refine lv_iload hx hb d_Md_firstChange_197 (lv_at hl 4 rfl) ?_
              refine lv_if_eq (tgt := 209) hx hb d_Md_firstChange_199 (by decide) (fun hc10 => ?_) (fun hc10 => ?_)
              · have hc10 : be = 0 := hc10
                refine lv_iload hx hb d_Md_firstChange_209 (lv_at hl 2 rfl) ?_
                refine lv_goto (tgt := 216) hx hb d_Md_firstChange_211 (by decide) ?_
                refine lv_istore (lv' := [(4, .int (ti (32 * j + i))), (8, .int 1), (7, .int (nI ((f_Mo_find ti n2 (j + 4) (ti (32 * j + i))).toNatClampNeg))), (6, .int (ti (32 * j + i))), (5, .int (nI i)), (0, .ref a), (1, .int (nI j)), (2, .int t), (3, .int u)]) hx hb d_Md_firstChange_216 hl (by decide) rfl (fun ls hl => ?_)
                refine lv_iinc (k := 4) (lv' := [(5, .int (nI (i + 1))), (4, .int (ti (32 * j + i))), (8, .int 1), (7, .int (nI ((f_Mo_find ti n2 (j + 4) (ti (32 * j + i))).toNatClampNeg))), (6, .int (ti (32 * j + i))), (0, .ref a), (1, .int (nI j)), (2, .int t), (3, .int u)]) hx hb d_Md_firstChange_218 hl rfl (inc1 _) (by decide) rfl (fun ls hl => ?_)
                refine lv_goto (tgt := 97) hx hb d_Md_firstChange_221 (by decide) ?_
                rw [if_pos hc6, if_neg hc7, if_neg hc8, if_neg hc9, if_pos hc10] at hR
                exact ih (i + 1) (ti (32 * j + i)) mc it vs se sm rs wk ors owk _ _ ls (by omega) hR (lv_sub hl [0, 1, 5, 6, 7, 8] rfl) hP hS
              · have hc10 : ¬ (be = 0) := hc10
                refine lv_iload hx hb d_Md_firstChange_202 (lv_at hl 2 rfl) ?_
                refine lv_iload hx hb d_Md_firstChange_204 (lv_at hl 4 rfl) ?_
                refine lv_icmp_ge (tgt := 214) hx hb d_Md_firstChange_206 (by decide) (fun hc11 => ?_) (fun hc11 => ?_)
                · have hc11 : be ≤ (ti (32 * j + i)) := hc11
                  refine lv_iload hx hb d_Md_firstChange_214 (lv_at hl 4 rfl) ?_
                  refine lv_istore (lv' := [(4, .int be), (8, .int 1), (7, .int (nI ((f_Mo_find ti n2 (j + 4) (ti (32 * j + i))).toNatClampNeg))), (6, .int (ti (32 * j + i))), (5, .int (nI i)), (0, .ref a), (1, .int (nI j)), (2, .int t), (3, .int u)]) hx hb d_Md_firstChange_216 hl (by decide) rfl (fun ls hl => ?_)
                  refine lv_iinc (k := 4) (lv' := [(5, .int (nI (i + 1))), (4, .int be), (8, .int 1), (7, .int (nI ((f_Mo_find ti n2 (j + 4) (ti (32 * j + i))).toNatClampNeg))), (6, .int (ti (32 * j + i))), (0, .ref a), (1, .int (nI j)), (2, .int t), (3, .int u)]) hx hb d_Md_firstChange_218 hl rfl (inc1 _) (by decide) rfl (fun ls hl => ?_)
                  refine lv_goto (tgt := 97) hx hb d_Md_firstChange_221 (by decide) ?_
                  rw [if_pos hc6, if_neg hc7, if_neg hc8, if_neg hc9, if_neg hc10, if_pos hc11] at hR
                  exact ih (i + 1) be mc it vs se sm rs wk ors owk _ _ ls (by omega) hR (lv_sub hl [0, 1, 5, 6, 7, 8] rfl) hP hS
                · have hc11 : ¬ (be ≤ (ti (32 * j + i))) := hc11
                  refine lv_iload hx hb d_Md_firstChange_209 (lv_at hl 2 rfl) ?_
                  refine lv_goto (tgt := 216) hx hb d_Md_firstChange_211 (by decide) ?_
                  refine lv_istore (lv' := [(4, .int (ti (32 * j + i))), (8, .int 1), (7, .int (nI ((f_Mo_find ti n2 (j + 4) (ti (32 * j + i))).toNatClampNeg))), (6, .int (ti (32 * j + i))), (5, .int (nI i)), (0, .ref a), (1, .int (nI j)), (2, .int t), (3, .int u)]) hx hb d_Md_firstChange_216 hl (by decide) rfl (fun ls hl => ?_)
                  refine lv_iinc (k := 4) (lv' := [(5, .int (nI (i + 1))), (4, .int (ti (32 * j + i))), (8, .int 1), (7, .int (nI ((f_Mo_find ti n2 (j + 4) (ti (32 * j + i))).toNatClampNeg))), (6, .int (ti (32 * j + i))), (0, .ref a), (1, .int (nI j)), (2, .int t), (3, .int u)]) hx hb d_Md_firstChange_218 hl rfl (inc1 _) (by decide) rfl (fun ls hl => ?_)
                  refine lv_goto (tgt := 97) hx hb d_Md_firstChange_221 (by decide) ?_
                  rw [if_pos hc6, if_neg hc7, if_neg hc8, if_neg hc9, if_neg hc10, if_neg hc11] at hR
                  exact ih (i + 1) (ti (32 * j + i)) mc it vs se sm rs wk ors owk _ _ ls (by omega) hR (lv_sub hl [0, 1, 5, 6, 7, 8] rfl) hP hS
        · have hc7 : (lg_cmp (ors ((f_Mo_find ti n2 (j + 4) (ti (32 * j + i))).toNatClampNeg)) (rs i)) = 0 := hc7
          refine lv_aload_n hx hb d_Md_firstChange_156 rfl (lv_at hl 4 rfl) ?_
          refine va_get (D := D) (ci := 9) (v := .ref (a + 14)) (C := R_Md) (T := F_Md) (N := 17) hx hb hg in_Md hown hK hP 0 rfl rfl 16 (Nat.le_of_ble_eq_true rfl) (hg _ tw_722) (fun _ h9 => h9) rfl d_Md_firstChange_157 ?_
          refine lv_iload hx hb d_Md_firstChange_160 (lv_at hl 0 rfl) ?_
          refine ep_zald hx hb hK hP 14 2 rfl rfl (i := ((f_Mo_find ti n2 (j + 4) (ti (32 * j + i))).toNatClampNeg)) (by omega) (by decide) d_Md_firstChange_162 ?_
          refine lv_aload_n hx hb d_Md_firstChange_163 rfl (lv_at hl 4 rfl) ?_
          refine va_get (D := D) (ci := 9) (v := .ref (a + 12)) (C := R_Md) (T := F_Md) (N := 17) hx hb hg in_Md hown hK hP 0 rfl rfl 14 (Nat.le_of_ble_eq_true rfl) (hg _ tw_720) (fun _ h9 => h9) rfl d_Md_firstChange_164 ?_
          refine lv_iload hx hb d_Md_firstChange_167 (lv_at hl 2 rfl) ?_
          refine ep_zald hx hb hK hP 12 2 rfl rfl (i := i) (by omega) (by decide) d_Md_firstChange_169 ?_
          refine lv_icmp_eq (tgt := 177) hx hb d_Md_firstChange_170 (by decide) (fun hc12 => ?_) (fun hc12 => ?_)
          · have hc12 : (owk ((f_Mo_find ti n2 (j + 4) (ti (32 * j + i))).toNatClampNeg)) = (wk i) := hc12
            refine lv_iconst (v := 0) hx hb d_Md_firstChange_177 (by decide) ?_
            refine lv_istore (lv' := [(8, .int 0), (7, .int (nI ((f_Mo_find ti n2 (j + 4) (ti (32 * j + i))).toNatClampNeg))), (6, .int (ti (32 * j + i))), (5, .int (nI i)), (4, .int be), (0, .ref a), (1, .int (nI j)), (2, .int t), (3, .int u)]) hx hb d_Md_firstChange_178 hl (by decide) rfl (fun ls hl => ?_)
            refine lv_iload hx hb d_Md_firstChange_180 (lv_at hl 0 rfl) ?_
            refine lv_if_eq (tgt := 214) hx hb d_Md_firstChange_182 (by decide) (fun hc => ?_) (fun hc => False.elim (by revert hc; decide))
            refine lv_iload hx hb d_Md_firstChange_214 (lv_at hl 4 rfl) ?_
            refine lv_istore (lv' := [(4, .int be), (8, .int 0), (7, .int (nI ((f_Mo_find ti n2 (j + 4) (ti (32 * j + i))).toNatClampNeg))), (6, .int (ti (32 * j + i))), (5, .int (nI i)), (0, .ref a), (1, .int (nI j)), (2, .int t), (3, .int u)]) hx hb d_Md_firstChange_216 hl (by decide) rfl (fun ls hl => ?_)
            refine lv_iinc (k := 4) (lv' := [(5, .int (nI (i + 1))), (4, .int be), (8, .int 0), (7, .int (nI ((f_Mo_find ti n2 (j + 4) (ti (32 * j + i))).toNatClampNeg))), (6, .int (ti (32 * j + i))), (0, .ref a), (1, .int (nI j)), (2, .int t), (3, .int u)]) hx hb d_Md_firstChange_218 hl rfl (inc1 _) (by decide) rfl (fun ls hl => ?_)
            refine lv_goto (tgt := 97) hx hb d_Md_firstChange_221 (by decide) ?_
            rw [if_pos hc6, if_pos hc7, if_pos hc12] at hR
            exact ih (i + 1) be mc it vs se sm rs wk ors owk _ _ ls (by omega) hR (lv_sub hl [0, 1, 5, 6, 7, 8] rfl) hP hS
          · have hc12 : ¬ ((owk ((f_Mo_find ti n2 (j + 4) (ti (32 * j + i))).toNatClampNeg)) = (wk i)) := hc12
            refine lv_iconst (v := 1) hx hb d_Md_firstChange_173 (by decide) ?_
            refine lv_goto (tgt := 178) hx hb d_Md_firstChange_174 (by decide) ?_
            refine lv_istore (lv' := [(8, .int 1), (7, .int (nI ((f_Mo_find ti n2 (j + 4) (ti (32 * j + i))).toNatClampNeg))), (6, .int (ti (32 * j + i))), (5, .int (nI i)), (4, .int be), (0, .ref a), (1, .int (nI j)), (2, .int t), (3, .int u)]) hx hb d_Md_firstChange_178 hl (by decide) rfl (fun ls hl => ?_)
            refine lv_iload hx hb d_Md_firstChange_180 (lv_at hl 0 rfl) ?_
            refine lv_if_eq (tgt := 214) hx hb d_Md_firstChange_182 (by decide) (fun hc => False.elim (by revert hc; decide)) (fun hc => ?_)
            refine lv_iload hx hb d_Md_firstChange_185 (lv_at hl 2 rfl) ?_
            refine lv_iload_n hx hb d_Md_firstChange_187 rfl (lv_at hl 7 rfl) ?_
            refine lv_icmp_lt (tgt := 214) hx hb d_Md_firstChange_188 (by decide) (fun hc13 => ?_) (fun hc13 => ?_)
            · have hc13 : (ti (32 * j + i)) < t := hc13
              refine lv_iload hx hb d_Md_firstChange_214 (lv_at hl 4 rfl) ?_
              refine lv_istore (lv' := [(4, .int be), (8, .int 1), (7, .int (nI ((f_Mo_find ti n2 (j + 4) (ti (32 * j + i))).toNatClampNeg))), (6, .int (ti (32 * j + i))), (5, .int (nI i)), (0, .ref a), (1, .int (nI j)), (2, .int t), (3, .int u)]) hx hb d_Md_firstChange_216 hl (by decide) rfl (fun ls hl => ?_)
              refine lv_iinc (k := 4) (lv' := [(5, .int (nI (i + 1))), (4, .int be), (8, .int 1), (7, .int (nI ((f_Mo_find ti n2 (j + 4) (ti (32 * j + i))).toNatClampNeg))), (6, .int (ti (32 * j + i))), (0, .ref a), (1, .int (nI j)), (2, .int t), (3, .int u)]) hx hb d_Md_firstChange_218 hl rfl (inc1 _) (by decide) rfl (fun ls hl => ?_)
              refine lv_goto (tgt := 97) hx hb d_Md_firstChange_221 (by decide) ?_
              rw [if_pos hc6, if_pos hc7, if_neg hc12, if_pos hc13] at hR
              exact ih (i + 1) be mc it vs se sm rs wk ors owk _ _ ls (by omega) hR (lv_sub hl [0, 1, 5, 6, 7, 8] rfl) hP hS
            · have hc13 : ¬ ((ti (32 * j + i)) < t) := hc13
              refine lv_iload hx hb d_Md_firstChange_191 (lv_at hl 2 rfl) ?_
              refine lv_iload_n hx hb d_Md_firstChange_193 rfl (lv_at hl 8 rfl) ?_
              refine lv_icmp_gt (tgt := 214) hx hb d_Md_firstChange_194 (by decide) (fun hc14 => ?_) (fun hc14 => ?_)
              · have hc14 : u < (ti (32 * j + i)) := hc14
                refine lv_iload hx hb d_Md_firstChange_214 (lv_at hl 4 rfl) ?_
                refine lv_istore (lv' := [(4, .int be), (8, .int 1), (7, .int (nI ((f_Mo_find ti n2 (j + 4) (ti (32 * j + i))).toNatClampNeg))), (6, .int (ti (32 * j + i))), (5, .int (nI i)), (0, .ref a), (1, .int (nI j)), (2, .int t), (3, .int u)]) hx hb d_Md_firstChange_216 hl (by decide) rfl (fun ls hl => ?_)
                refine lv_iinc (k := 4) (lv' := [(5, .int (nI (i + 1))), (4, .int be), (8, .int 1), (7, .int (nI ((f_Mo_find ti n2 (j + 4) (ti (32 * j + i))).toNatClampNeg))), (6, .int (ti (32 * j + i))), (0, .ref a), (1, .int (nI j)), (2, .int t), (3, .int u)]) hx hb d_Md_firstChange_218 hl rfl (inc1 _) (by decide) rfl (fun ls hl => ?_)
                refine lv_goto (tgt := 97) hx hb d_Md_firstChange_221 (by decide) ?_
                rw [if_pos hc6, if_pos hc7, if_neg hc12, if_neg hc13, if_pos hc14] at hR
                exact ih (i + 1) be mc it vs se sm rs wk ors owk _ _ ls (by omega) hR (lv_sub hl [0, 1, 5, 6, 7, 8] rfl) hP hS
              · have hc14 : ¬ (u < (ti (32 * j + i))) := hc14
                refine lv_iload hx hb d_Md_firstChange_197 (lv_at hl 4 rfl) ?_
                refine lv_if_eq (tgt := 209) hx hb d_Md_firstChange_199 (by decide) (fun hc15 => ?_) (fun hc15 => ?_)
                · have hc15 : be = 0 := hc15
                  refine lv_iload hx hb d_Md_firstChange_209 (lv_at hl 2 rfl) ?_
                  refine lv_goto (tgt := 216) hx hb d_Md_firstChange_211 (by decide) ?_
                  refine lv_istore (lv' := [(4, .int (ti (32 * j + i))), (8, .int 1), (7, .int (nI ((f_Mo_find ti n2 (j + 4) (ti (32 * j + i))).toNatClampNeg))), (6, .int (ti (32 * j + i))), (5, .int (nI i)), (0, .ref a), (1, .int (nI j)), (2, .int t), (3, .int u)]) hx hb d_Md_firstChange_216 hl (by decide) rfl (fun ls hl => ?_)
                  refine lv_iinc (k := 4) (lv' := [(5, .int (nI (i + 1))), (4, .int (ti (32 * j + i))), (8, .int 1), (7, .int (nI ((f_Mo_find ti n2 (j + 4) (ti (32 * j + i))).toNatClampNeg))), (6, .int (ti (32 * j + i))), (0, .ref a), (1, .int (nI j)), (2, .int t), (3, .int u)]) hx hb d_Md_firstChange_218 hl rfl (inc1 _) (by decide) rfl (fun ls hl => ?_)
                  refine lv_goto (tgt := 97) hx hb d_Md_firstChange_221 (by decide) ?_
                  rw [if_pos hc6, if_pos hc7, if_neg hc12, if_neg hc13, if_neg hc14, if_pos hc15] at hR
                  exact ih (i + 1) (ti (32 * j + i)) mc it vs se sm rs wk ors owk _ _ ls (by omega) hR (lv_sub hl [0, 1, 5, 6, 7, 8] rfl) hP hS
                · have hc15 : ¬ (be = 0) := hc15
                  refine lv_iload hx hb d_Md_firstChange_202 (lv_at hl 2 rfl) ?_
                  refine lv_iload hx hb d_Md_firstChange_204 (lv_at hl 4 rfl) ?_
                  refine lv_icmp_ge (tgt := 214) hx hb d_Md_firstChange_206 (by decide) (fun hc16 => ?_) (fun hc16 => ?_)
                  · have hc16 : be ≤ (ti (32 * j + i)) := hc16
                    refine lv_iload hx hb d_Md_firstChange_214 (lv_at hl 4 rfl) ?_
                    refine lv_istore (lv' := [(4, .int be), (8, .int 1), (7, .int (nI ((f_Mo_find ti n2 (j + 4) (ti (32 * j + i))).toNatClampNeg))), (6, .int (ti (32 * j + i))), (5, .int (nI i)), (0, .ref a), (1, .int (nI j)), (2, .int t), (3, .int u)]) hx hb d_Md_firstChange_216 hl (by decide) rfl (fun ls hl => ?_)
                    refine lv_iinc (k := 4) (lv' := [(5, .int (nI (i + 1))), (4, .int be), (8, .int 1), (7, .int (nI ((f_Mo_find ti n2 (j + 4) (ti (32 * j + i))).toNatClampNeg))), (6, .int (ti (32 * j + i))), (0, .ref a), (1, .int (nI j)), (2, .int t), (3, .int u)]) hx hb d_Md_firstChange_218 hl rfl (inc1 _) (by decide) rfl (fun ls hl => ?_)
                    refine lv_goto (tgt := 97) hx hb d_Md_firstChange_221 (by decide) ?_
                    rw [if_pos hc6, if_pos hc7, if_neg hc12, if_neg hc13, if_neg hc14, if_neg hc15, if_pos hc16] at hR
                    exact ih (i + 1) be mc it vs se sm rs wk ors owk _ _ ls (by omega) hR (lv_sub hl [0, 1, 5, 6, 7, 8] rfl) hP hS
                  · have hc16 : ¬ (be ≤ (ti (32 * j + i))) := hc16
                    refine lv_iload hx hb d_Md_firstChange_209 (lv_at hl 2 rfl) ?_
                    refine lv_goto (tgt := 216) hx hb d_Md_firstChange_211 (by decide) ?_
                    refine lv_istore (lv' := [(4, .int (ti (32 * j + i))), (8, .int 1), (7, .int (nI ((f_Mo_find ti n2 (j + 4) (ti (32 * j + i))).toNatClampNeg))), (6, .int (ti (32 * j + i))), (5, .int (nI i)), (0, .ref a), (1, .int (nI j)), (2, .int t), (3, .int u)]) hx hb d_Md_firstChange_216 hl (by decide) rfl (fun ls hl => ?_)
                    refine lv_iinc (k := 4) (lv' := [(5, .int (nI (i + 1))), (4, .int (ti (32 * j + i))), (8, .int 1), (7, .int (nI ((f_Mo_find ti n2 (j + 4) (ti (32 * j + i))).toNatClampNeg))), (6, .int (ti (32 * j + i))), (0, .ref a), (1, .int (nI j)), (2, .int t), (3, .int u)]) hx hb d_Md_firstChange_218 hl rfl (inc1 _) (by decide) rfl (fun ls hl => ?_)
                    refine lv_goto (tgt := 97) hx hb d_Md_firstChange_221 (by decide) ?_
                    rw [if_pos hc6, if_pos hc7, if_neg hc12, if_neg hc13, if_neg hc14, if_neg hc15, if_neg hc16] at hR
                    exact ih (i + 1) (ti (32 * j + i)) mc it vs se sm rs wk ors owk _ _ ls (by omega) hR (lv_sub hl [0, 1, 5, 6, 7, 8] rfl) hP hS
      · rw [show oI (¬ (f_Mo_find ti n2 (j + 4) (ti (32 * j + i))) = -1) ((f_Mo_find ti n2 (j + 4) (ti (32 * j + i))).toNatClampNeg) = -1 from if_neg hc6]
        refine lv_istore (lv' := [(7, .int (-1)), (6, .int (ti (32 * j + i))), (5, .int (nI i)), (4, .int be), (0, .ref a), (1, .int (nI j)), (2, .int t), (3, .int u)]) hx hb d_Md_firstChange_131 hl (by decide) rfl (fun ls hl => ?_)
        refine lv_iload hx hb d_Md_firstChange_133 (lv_at hl 0 rfl) ?_
        refine lv_if_lt (tgt := 173) hx hb d_Md_firstChange_135 (by decide) (fun hc => ?_) (fun hc => False.elim (by revert hc; decide))
        refine lv_iconst (v := 1) hx hb d_Md_firstChange_173 (by decide) ?_
        refine lv_goto (tgt := 178) hx hb d_Md_firstChange_174 (by decide) ?_
        refine lv_istore (lv' := [(8, .int 1), (7, .int (-1)), (6, .int (ti (32 * j + i))), (5, .int (nI i)), (4, .int be), (0, .ref a), (1, .int (nI j)), (2, .int t), (3, .int u)]) hx hb d_Md_firstChange_178 hl (by decide) rfl (fun ls hl => ?_)
        refine lv_iload hx hb d_Md_firstChange_180 (lv_at hl 0 rfl) ?_
        refine lv_if_eq (tgt := 214) hx hb d_Md_firstChange_182 (by decide) (fun hc => False.elim (by revert hc; decide)) (fun hc => ?_)
        refine lv_iload hx hb d_Md_firstChange_185 (lv_at hl 2 rfl) ?_
        refine lv_iload_n hx hb d_Md_firstChange_187 rfl (lv_at hl 7 rfl) ?_
        refine lv_icmp_lt (tgt := 214) hx hb d_Md_firstChange_188 (by decide) (fun hc17 => ?_) (fun hc17 => ?_)
        · have hc17 : (ti (32 * j + i)) < t := hc17
          refine lv_iload hx hb d_Md_firstChange_214 (lv_at hl 4 rfl) ?_
          refine lv_istore (lv' := [(4, .int be), (8, .int 1), (7, .int (-1)), (6, .int (ti (32 * j + i))), (5, .int (nI i)), (0, .ref a), (1, .int (nI j)), (2, .int t), (3, .int u)]) hx hb d_Md_firstChange_216 hl (by decide) rfl (fun ls hl => ?_)
          refine lv_iinc (k := 4) (lv' := [(5, .int (nI (i + 1))), (4, .int be), (8, .int 1), (7, .int (-1)), (6, .int (ti (32 * j + i))), (0, .ref a), (1, .int (nI j)), (2, .int t), (3, .int u)]) hx hb d_Md_firstChange_218 hl rfl (inc1 _) (by decide) rfl (fun ls hl => ?_)
          refine lv_goto (tgt := 97) hx hb d_Md_firstChange_221 (by decide) ?_
          rw [if_neg hc6, if_pos hc17] at hR
          exact ih (i + 1) be mc it vs se sm rs wk ors owk _ _ ls (by omega) hR (lv_sub hl [0, 1, 5, 6, 7, 8] rfl) hP hS
        · have hc17 : ¬ ((ti (32 * j + i)) < t) := hc17
          refine lv_iload hx hb d_Md_firstChange_191 (lv_at hl 2 rfl) ?_
          refine lv_iload_n hx hb d_Md_firstChange_193 rfl (lv_at hl 8 rfl) ?_
          refine lv_icmp_gt (tgt := 214) hx hb d_Md_firstChange_194 (by decide) (fun hc18 => ?_) (fun hc18 => ?_)
          · have hc18 : u < (ti (32 * j + i)) := hc18
            refine lv_iload hx hb d_Md_firstChange_214 (lv_at hl 4 rfl) ?_
            refine lv_istore (lv' := [(4, .int be), (8, .int 1), (7, .int (-1)), (6, .int (ti (32 * j + i))), (5, .int (nI i)), (0, .ref a), (1, .int (nI j)), (2, .int t), (3, .int u)]) hx hb d_Md_firstChange_216 hl (by decide) rfl (fun ls hl => ?_)
            refine lv_iinc (k := 4) (lv' := [(5, .int (nI (i + 1))), (4, .int be), (8, .int 1), (7, .int (-1)), (6, .int (ti (32 * j + i))), (0, .ref a), (1, .int (nI j)), (2, .int t), (3, .int u)]) hx hb d_Md_firstChange_218 hl rfl (inc1 _) (by decide) rfl (fun ls hl => ?_)
            refine lv_goto (tgt := 97) hx hb d_Md_firstChange_221 (by decide) ?_
            rw [if_neg hc6, if_neg hc17, if_pos hc18] at hR
            exact ih (i + 1) be mc it vs se sm rs wk ors owk _ _ ls (by omega) hR (lv_sub hl [0, 1, 5, 6, 7, 8] rfl) hP hS
          · have hc18 : ¬ (u < (ti (32 * j + i))) := hc18
            refine lv_iload hx hb d_Md_firstChange_197 (lv_at hl 4 rfl) ?_
            refine lv_if_eq (tgt := 209) hx hb d_Md_firstChange_199 (by decide) (fun hc19 => ?_) (fun hc19 => ?_)
            · have hc19 : be = 0 := hc19
              refine lv_iload hx hb d_Md_firstChange_209 (lv_at hl 2 rfl) ?_
              refine lv_goto (tgt := 216) hx hb d_Md_firstChange_211 (by decide) ?_
              refine lv_istore (lv' := [(4, .int (ti (32 * j + i))), (8, .int 1), (7, .int (-1)), (6, .int (ti (32 * j + i))), (5, .int (nI i)), (0, .ref a), (1, .int (nI j)), (2, .int t), (3, .int u)]) hx hb d_Md_firstChange_216 hl (by decide) rfl (fun ls hl => ?_)
              refine lv_iinc (k := 4) (lv' := [(5, .int (nI (i + 1))), (4, .int (ti (32 * j + i))), (8, .int 1), (7, .int (-1)), (6, .int (ti (32 * j + i))), (0, .ref a), (1, .int (nI j)), (2, .int t), (3, .int u)]) hx hb d_Md_firstChange_218 hl rfl (inc1 _) (by decide) rfl (fun ls hl => ?_)
              refine lv_goto (tgt := 97) hx hb d_Md_firstChange_221 (by decide) ?_
              rw [if_neg hc6, if_neg hc17, if_neg hc18, if_pos hc19] at hR
              exact ih (i + 1) (ti (32 * j + i)) mc it vs se sm rs wk ors owk _ _ ls (by omega) hR (lv_sub hl [0, 1, 5, 6, 7, 8] rfl) hP hS
            · have hc19 : ¬ (be = 0) := hc19
              refine lv_iload hx hb d_Md_firstChange_202 (lv_at hl 2 rfl) ?_
              refine lv_iload hx hb d_Md_firstChange_204 (lv_at hl 4 rfl) ?_
              refine lv_icmp_ge (tgt := 214) hx hb d_Md_firstChange_206 (by decide) (fun hc20 => ?_) (fun hc20 => ?_)
              · have hc20 : be ≤ (ti (32 * j + i)) := hc20
                refine lv_iload hx hb d_Md_firstChange_214 (lv_at hl 4 rfl) ?_
                refine lv_istore (lv' := [(4, .int be), (8, .int 1), (7, .int (-1)), (6, .int (ti (32 * j + i))), (5, .int (nI i)), (0, .ref a), (1, .int (nI j)), (2, .int t), (3, .int u)]) hx hb d_Md_firstChange_216 hl (by decide) rfl (fun ls hl => ?_)
                refine lv_iinc (k := 4) (lv' := [(5, .int (nI (i + 1))), (4, .int be), (8, .int 1), (7, .int (-1)), (6, .int (ti (32 * j + i))), (0, .ref a), (1, .int (nI j)), (2, .int t), (3, .int u)]) hx hb d_Md_firstChange_218 hl rfl (inc1 _) (by decide) rfl (fun ls hl => ?_)
                refine lv_goto (tgt := 97) hx hb d_Md_firstChange_221 (by decide) ?_
                rw [if_neg hc6, if_neg hc17, if_neg hc18, if_neg hc19, if_pos hc20] at hR
                exact ih (i + 1) be mc it vs se sm rs wk ors owk _ _ ls (by omega) hR (lv_sub hl [0, 1, 5, 6, 7, 8] rfl) hP hS
              · have hc20 : ¬ (be ≤ (ti (32 * j + i))) := hc20
                refine lv_iload hx hb d_Md_firstChange_209 (lv_at hl 2 rfl) ?_
                refine lv_goto (tgt := 216) hx hb d_Md_firstChange_211 (by decide) ?_
                refine lv_istore (lv' := [(4, .int (ti (32 * j + i))), (8, .int 1), (7, .int (-1)), (6, .int (ti (32 * j + i))), (5, .int (nI i)), (0, .ref a), (1, .int (nI j)), (2, .int t), (3, .int u)]) hx hb d_Md_firstChange_216 hl (by decide) rfl (fun ls hl => ?_)
                refine lv_iinc (k := 4) (lv' := [(5, .int (nI (i + 1))), (4, .int (ti (32 * j + i))), (8, .int 1), (7, .int (-1)), (6, .int (ti (32 * j + i))), (0, .ref a), (1, .int (nI j)), (2, .int t), (3, .int u)]) hx hb d_Md_firstChange_218 hl rfl (inc1 _) (by decide) rfl (fun ls hl => ?_)
                refine lv_goto (tgt := 97) hx hb d_Md_firstChange_221 (by decide) ?_
                rw [if_neg hc6, if_neg hc17, if_neg hc18, if_neg hc19, if_neg hc20] at hR
                exact ih (i + 1) (ti (32 * j + i)) mc it vs se sm rs wk ors owk _ _ ls (by omega) hR (lv_sub hl [0, 1, 5, 6, 7, 8] rfl) hP hS
  have key_38 : ∀ (k : Nat) (i : Nat) (mc : Nat) (it : Nat → Int32) (vs : Nat → Int32) (se : Nat → Int32) (sm : Int64) (rs : Nat → Int64) (wk : Nat → Int32) (ors : Nat → Int64) (owk : Nat → Int32) (H : Heap) (locs : List Loc) (ls : Array Slot), i + k = 32 → bz wk → g_Mo_firstChange_1_38 kn ti nm xa n n2 j t u k i mc it vs se sm rs wk ors owk = R → lv_has ls 9 [(4, .int (nI i)), (0, .ref a), (1, .int (nI j)), (2, .int t), (3, .int u)] → va_P D cls (wMo cI cJ cZ a ((f_Mo_lacksTwo kn j t u).2) kn ed ct ti nm xa xb (nI mc) it vs se sm rs wk ors owk) H → va_S (blk a 15) s.heap H locs → W p l e (headSpec (k_Md_firstChange :: gt) rm_Md_firstChange).room s m ([.ref a, .int (nI j), .int t, .int u] : List Value).toArray below meth c H locs 0 0 (MQ below (Qd (blk a 15) (some (.int R.1)) (fun H => va_P D cls (wMo cI cJ cZ a R.2.1 kn ed ct ti nm xa xb (nI R.2.2.1) R.2.2.2.1 R.2.2.2.2.1 R.2.2.2.2.2.1 R.2.2.2.2.2.2.1 R.2.2.2.2.2.2.2.1 R.2.2.2.2.2.2.2.2.1 R.2.2.2.2.2.2.2.2.2.1 R.2.2.2.2.2.2.2.2.2.2) H)) ([.ref a, .int (nI j), .int t, .int u] : List Value).toArray s 0 0 (blk a 15)) (F0 m 38 ls []) := by
    intro k
    induction k with
    | zero =>
      intro i mc it vs se sm rs wk ors owk H locs ls hi hb9 hR hl hP hS
      have hR : (g_Mo_firstChange_1_97 kn ti n n2 j t u n 0 0 ((f_Mo_run_1 ti nm xa it vs se rs wk n j 1000000000).1) ((f_Mo_run_1 ti nm xa it vs se rs wk n j 1000000000).2.1) ((f_Mo_run_1 ti nm xa it vs se rs wk n j 1000000000).2.2.1) ((f_Mo_run_1 ti nm xa it vs se rs wk n j 1000000000).2.2.2.1) ((f_Mo_run_1 ti nm xa it vs se rs wk n j 1000000000).2.2.2.2.1) ((f_Mo_run_1 ti nm xa it vs se rs wk n j 1000000000).2.2.2.2.2.1) ((f_Mo_run_1 ti nm xa it vs se rs wk n j 1000000000).2.2.2.2.2.2) ors owk) = R := hR
      have hD : va_D (blk a 15) (wMo cI cJ cZ a ((f_Mo_lacksTwo kn j t u).2) kn ed ct ti nm xa xb (nI mc) it vs se sm rs wk ors owk) := (blk_D (wMo_in))
      refine lv_iload hx hb d_Md_firstChange_38 (lv_at hl 0 rfl) ?_
      refine lv_bipush (v := 32) hx hb d_Md_firstChange_40 (by decide) ?_
      refine lv_icmp_ge (tgt := 79) hx hb d_Md_firstChange_42 (by decide) (fun hc => ?_) (fun hc => False.elim (by have hc : ¬ (32 ≤ i) := fun h => hc (by exact (nI_leI (a := 32) (b := i) (by omega) (by omega)).mpr h); omega))
      refine lv_aload_n hx hb d_Md_firstChange_79 rfl (lv_at hl 1 rfl) ?_
      refine lv_iload_n hx hb d_Md_firstChange_80 rfl (lv_at hl 2 rfl) ?_
      refine lv_aload_n hx hb d_Md_firstChange_81 rfl (lv_at hl 1 rfl) ?_
      refine lv_iload_n hx hb d_Md_firstChange_82 rfl (lv_at hl 2 rfl) ?_
      refine ep_callP (W.runV (As := [.int (nI j)]) (rest := [.int (nI j), .ref a]) ⟨hx, hb, hml, hown, hg⟩ (m_Mo_kindOf l D cI cJ cZ cO a ((f_Mo_lacksTwo kn j t u).2) kn ed ct ti nm xa xb (nI mc) it vs se sm rs wk ors owk j (by omega) _ rfl) (ep_cwV 1 hg tw_789 tw_791 ts_11 tw_12 tk_Md_kindOf rfl rfl (by decide +kernel) ⟨(Nat.le_of_ble_eq_true rfl), (Nat.le_of_ble_eq_true rfl)⟩) ⟨ep_blind, va_recv (q0 := 0) (ci := 9) hK hP rfl rfl, ep_pre hKn (hP)⟩ rfl rfl hl.1 rfl (lv_room (Nat.le_of_ble_eq_true rfl)) d_Md_firstChange_83 ⟨Nat.zero_le _, Nat.zero_le _⟩) ?_
      refine W.eq (g2 := F0 m 86 ls [.int (f_Mo_kindOf kn j), .int (nI j), .ref a]) rfl ?_
      refine lv_topi (fun z9 e_z9 => ?_)
      obtain rfl : z9 = 1 := by rw [e_z9]; exact (by rw [show f_Mo_kindOf kn j = kn j - 1 from rfl, hk]; decide)
      refine lv_ldc (v := 1000000000) hx hb hown (hg _ tw_780) d_Md_firstChange_86 ?_
      refine ep_callH (W.runV (As := [.int (nI j), .int 1, .int 1000000000]) (rest := []) ⟨hx, hb, hml, hown, hg⟩ (m_Mo_run_1 l D cI cJ cZ cO a ((f_Mo_lacksTwo kn j t u).2) kn ed ct ti nm xa xb (nI mc) it vs se sm rs wk ors owk n j 1000000000 (by omega) hct (by omega) _ rfl) (ep_cwV 3 hg tw_832 tw_834 ts_17 tw_12 tk_Md_run rfl rfl (by decide +kernel) ⟨(Nat.le_of_ble_eq_true rfl), (Nat.le_of_ble_eq_true rfl)⟩) ⟨ep_blind, va_recv (q0 := 0) (ci := 9) hK hP rfl rfl, ep_pre hKn (hP)⟩ rfl rfl hl.1 rfl (lv_room (Nat.le_of_ble_eq_true rfl)) d_Md_firstChange_88 ⟨Nat.zero_le _, Nat.zero_le _⟩) hS (fun q h => h) (fun H locs hsz9 hk1 hP1 hS => ?_)
      refine W.eq (g2 := F0 m 91 ls []) rfl ?_
      have hP : va_P D cls (wMo cI cJ cZ a ((f_Mo_lacksTwo kn j t u).2) kn ed ct ti nm xa xb (nI ((f_Mo_run_1 ti nm xa it vs se rs wk n j 1000000000).1)) ((f_Mo_run_1 ti nm xa it vs se rs wk n j 1000000000).2.1) ((f_Mo_run_1 ti nm xa it vs se rs wk n j 1000000000).2.2.1) ((f_Mo_run_1 ti nm xa it vs se rs wk n j 1000000000).2.2.2.1) ((f_Mo_run_1 ti nm xa it vs se rs wk n j 1000000000).2.2.2.2.1) ((f_Mo_run_1 ti nm xa it vs se rs wk n j 1000000000).2.2.2.2.2.1) ((f_Mo_run_1 ti nm xa it vs se rs wk n j 1000000000).2.2.2.2.2.2) ors owk) H := hP1
      have hD : va_D (blk a 15) (wMo cI cJ cZ a ((f_Mo_lacksTwo kn j t u).2) kn ed ct ti nm xa xb (nI ((f_Mo_run_1 ti nm xa it vs se rs wk n j 1000000000).1)) ((f_Mo_run_1 ti nm xa it vs se rs wk n j 1000000000).2.1) ((f_Mo_run_1 ti nm xa it vs se rs wk n j 1000000000).2.2.1) ((f_Mo_run_1 ti nm xa it vs se rs wk n j 1000000000).2.2.2.1) ((f_Mo_run_1 ti nm xa it vs se rs wk n j 1000000000).2.2.2.2.1) ((f_Mo_run_1 ti nm xa it vs se rs wk n j 1000000000).2.2.2.2.2.1) ((f_Mo_run_1 ti nm xa it vs se rs wk n j 1000000000).2.2.2.2.2.2) ors owk) := (blk_D (wMo_in))
      refine lv_iconst (v := 0) hx hb d_Md_firstChange_91 (by decide) ?_
      refine lv_istore (lv' := [(4, .int 0), (0, .ref a), (1, .int (nI j)), (2, .int t), (3, .int u)]) hx hb d_Md_firstChange_92 hl (by decide) rfl (fun ls hl => ?_)
      refine lv_iconst (v := 0) hx hb d_Md_firstChange_94 (by decide) ?_
      refine lv_istore (lv' := [(5, .int 0), (4, .int 0), (0, .ref a), (1, .int (nI j)), (2, .int t), (3, .int u)]) hx hb d_Md_firstChange_95 hl (by decide) rfl (fun ls hl => ?_)
      exact key_97 n 0 0 ((f_Mo_run_1 ti nm xa it vs se rs wk n j 1000000000).1) ((f_Mo_run_1 ti nm xa it vs se rs wk n j 1000000000).2.1) ((f_Mo_run_1 ti nm xa it vs se rs wk n j 1000000000).2.2.1) ((f_Mo_run_1 ti nm xa it vs se rs wk n j 1000000000).2.2.2.1) ((f_Mo_run_1 ti nm xa it vs se rs wk n j 1000000000).2.2.2.2.1) ((f_Mo_run_1 ti nm xa it vs se rs wk n j 1000000000).2.2.2.2.2.1) ((f_Mo_run_1 ti nm xa it vs se rs wk n j 1000000000).2.2.2.2.2.2) ors owk _ _ ls (by omega) hR hl hP hS
    | succ k ih =>
      intro i mc it vs se sm rs wk ors owk H locs ls hi hb9 hR hl hP hS
      have hR : (g_Mo_firstChange_1_38 kn ti nm xa n n2 j t u k (i + 1) mc it vs se sm rs wk (vp_updL ors i (rs i)) (upd owk i (wk i))) = R := hR
      have hD : va_D (blk a 15) (wMo cI cJ cZ a ((f_Mo_lacksTwo kn j t u).2) kn ed ct ti nm xa xb (nI mc) it vs se sm rs wk ors owk) := (blk_D (wMo_in))
      refine lv_iload hx hb d_Md_firstChange_38 (lv_at hl 0 rfl) ?_
      refine lv_bipush (v := 32) hx hb d_Md_firstChange_40 (by decide) ?_
      refine lv_icmp_ge (tgt := 79) hx hb d_Md_firstChange_42 (by decide) (fun hc => False.elim (by have hc := (nI_leI (a := 32) (b := i) (by omega) (by omega)).mp hc; omega)) (fun hc => ?_)
      refine lv_aload_n hx hb d_Md_firstChange_45 rfl (lv_at hl 1 rfl) ?_
      refine va_get (D := D) (ci := 9) (v := .ref (a + 13)) (C := R_Md) (T := F_Md) (N := 17) hx hb hg in_Md hown hK hP 0 rfl rfl 15 (Nat.le_of_ble_eq_true rfl) (hg _ tw_721) (fun _ h9 => h9) rfl d_Md_firstChange_46 ?_
      refine lv_iload hx hb d_Md_firstChange_49 (lv_at hl 0 rfl) ?_
      refine lv_aload_n hx hb d_Md_firstChange_51 rfl (lv_at hl 1 rfl) ?_
      refine va_get (D := D) (ci := 9) (v := .ref (a + 11)) (C := R_Md) (T := F_Md) (N := 17) hx hb hg in_Md hown hK hP 0 rfl rfl 13 (Nat.le_of_ble_eq_true rfl) (hg _ tw_719) (fun _ h9 => h9) rfl d_Md_firstChange_52 ?_
      refine lv_iload hx hb d_Md_firstChange_55 (lv_at hl 0 rfl) ?_
      refine ep_lald hx hb hK hP 11 1 rfl rfl (i := i) (by omega) (by decide) d_Md_firstChange_57 ?_
      refine ep_last hx hb hK hP hD hS 13 1 rfl rfl (i := i) (x := (rs i)) (by omega) (by decide) d_Md_firstChange_58 (fun H locs hP hD hS => ?_)
      have hP : va_P D cls (wMo cI cJ cZ a ((f_Mo_lacksTwo kn j t u).2) kn ed ct ti nm xa xb (nI mc) it vs se sm rs wk (vp_updL ors i (rs i)) owk) H := hP
      have hD : va_D (blk a 15) (wMo cI cJ cZ a ((f_Mo_lacksTwo kn j t u).2) kn ed ct ti nm xa xb (nI mc) it vs se sm rs wk (vp_updL ors i (rs i)) owk) := hD
      refine lv_aload_n hx hb d_Md_firstChange_59 rfl (lv_at hl 1 rfl) ?_
      refine va_get (D := D) (ci := 9) (v := .ref (a + 14)) (C := R_Md) (T := F_Md) (N := 17) hx hb hg in_Md hown hK hP 0 rfl rfl 16 (Nat.le_of_ble_eq_true rfl) (hg _ tw_722) (fun _ h9 => h9) rfl d_Md_firstChange_60 ?_
      refine lv_iload hx hb d_Md_firstChange_63 (lv_at hl 0 rfl) ?_
      refine lv_aload_n hx hb d_Md_firstChange_65 rfl (lv_at hl 1 rfl) ?_
      refine va_get (D := D) (ci := 9) (v := .ref (a + 12)) (C := R_Md) (T := F_Md) (N := 17) hx hb hg in_Md hown hK hP 0 rfl rfl 14 (Nat.le_of_ble_eq_true rfl) (hg _ tw_720) (fun _ h9 => h9) rfl d_Md_firstChange_66 ?_
      refine lv_iload hx hb d_Md_firstChange_69 (lv_at hl 0 rfl) ?_
      refine ep_zald hx hb hK hP 12 2 rfl rfl (i := i) (by omega) (by decide) d_Md_firstChange_71 ?_
      refine ep_zast hx hb hK hP hD hS 14 2 rfl rfl (i := i) (x := (wk i)) (bz_n hb9 _) (by omega) (by decide) d_Md_firstChange_72 (fun H locs hP hD hS => ?_)
      have hP : va_P D cls (wMo cI cJ cZ a ((f_Mo_lacksTwo kn j t u).2) kn ed ct ti nm xa xb (nI mc) it vs se sm rs wk (vp_updL ors i (rs i)) (upd owk i (wk i))) H := hP
      have hD : va_D (blk a 15) (wMo cI cJ cZ a ((f_Mo_lacksTwo kn j t u).2) kn ed ct ti nm xa xb (nI mc) it vs se sm rs wk (vp_updL ors i (rs i)) (upd owk i (wk i))) := hD
      refine lv_iinc (k := 0) (lv' := [(4, .int (nI (i + 1))), (0, .ref a), (1, .int (nI j)), (2, .int t), (3, .int u)]) hx hb d_Md_firstChange_73 hl rfl (inc1 _) (by decide) rfl (fun ls hl => ?_)
      refine lv_goto (tgt := 38) hx hb d_Md_firstChange_76 (by decide) ?_
      exact ih (i + 1) mc it vs se sm rs wk (vp_updL ors i (rs i)) (upd owk i (wk i)) _ _ ls (by omega) hb9 hR hl hP hS
  have hR : (g_Mo_firstChange_1_38 kn ti nm xa n n2 j t u 32 0 ((f_Mo_run_1 ti nm xa it vs se rs wk n2 (j + 4) 1000000000).1) ((f_Mo_run_1 ti nm xa it vs se rs wk n2 (j + 4) 1000000000).2.1) ((f_Mo_run_1 ti nm xa it vs se rs wk n2 (j + 4) 1000000000).2.2.1) ((f_Mo_run_1 ti nm xa it vs se rs wk n2 (j + 4) 1000000000).2.2.2.1) ((f_Mo_run_1 ti nm xa it vs se rs wk n2 (j + 4) 1000000000).2.2.2.2.1) ((f_Mo_run_1 ti nm xa it vs se rs wk n2 (j + 4) 1000000000).2.2.2.2.2.1) ((f_Mo_run_1 ti nm xa it vs se rs wk n2 (j + 4) 1000000000).2.2.2.2.2.2) ors owk) = R := hR
  refine lv_aload_n hx hb d_Md_firstChange_0 rfl (lv_at hl 0 rfl) ?_
  refine lv_iload_n hx hb d_Md_firstChange_1 rfl (lv_at hl 1 rfl) ?_
  refine lv_iload_n hx hb d_Md_firstChange_2 rfl (lv_at hl 2 rfl) ?_
  refine lv_iload_n hx hb d_Md_firstChange_3 rfl (lv_at hl 3 rfl) ?_
  refine ep_callH (W.runV (As := [.int (nI j), .int t, .int u]) (rest := []) ⟨hx, hb, hml, hown, hg⟩ (m_Mo_lacksTwo l D cI cJ cZ cO a code kn ed ct ti nm xa xb ma it vs se sm rs wk ors owk j t u (by omega) _ rfl) (ep_cwV 3 hg tw_896 tw_898 ts_25 tw_12 tk_Md_lacksTwo rfl rfl (by decide +kernel) ⟨(Nat.le_of_ble_eq_true rfl), (Nat.le_of_ble_eq_true rfl)⟩) ⟨ep_blind, va_recv (q0 := 0) (ci := 9) hK hP rfl rfl, ep_pre hKn (hP)⟩ rfl rfl hl.1 rfl (lv_room (Nat.le_of_ble_eq_true rfl)) d_Md_firstChange_4 ⟨Nat.zero_le _, Nat.zero_le _⟩) hS (fun q h => h) (fun H locs hsz9 hk1 hP1 hS => ?_)
  refine W.eq (g2 := F0 m 7 ls [.int ((f_Mo_lacksTwo kn j t u).1)]) rfl ?_
  have hP : va_P D cls (wMo cI cJ cZ a ((f_Mo_lacksTwo kn j t u).2) kn ed ct ti nm xa xb ma it vs se sm rs wk ors owk) H := hP1
  have hD : va_D (blk a 15) (wMo cI cJ cZ a ((f_Mo_lacksTwo kn j t u).2) kn ed ct ti nm xa xb ma it vs se sm rs wk ors owk) := (blk_D (wMo_in))
  refine lv_if_ne (tgt := 19) hx hb d_Md_firstChange_7 (by decide) (fun hc => absurd hlk hc) (fun hc => ?_)
  refine lv_aload_n hx hb d_Md_firstChange_10 rfl (lv_at hl 0 rfl) ?_
  refine va_get (D := D) (ci := 9) (v := .ref (a + 2)) (C := R_Md) (T := F_Md) (N := 17) hx hb hg in_Md hown hK hP 0 rfl rfl 2 (Nat.le_of_ble_eq_true rfl) (hg _ tw_708) (fun _ h9 => h9) rfl d_Md_firstChange_11 ?_
  refine lv_iload_n hx hb d_Md_firstChange_14 rfl (lv_at hl 1 rfl) ?_
  refine ep_zald hx hb hK hP 2 2 rfl rfl (i := j) (by omega) (by decide) d_Md_firstChange_15 ?_
  refine lv_if_ne (tgt := 21) hx hb d_Md_firstChange_16 (by decide) (fun hc => ?_) (fun hc => absurd hc hed)
  refine lv_aload_n hx hb d_Md_firstChange_21 rfl (lv_at hl 0 rfl) ?_
  refine lv_iload_n hx hb d_Md_firstChange_22 rfl (lv_at hl 1 rfl) ?_
  refine lv_iconst (v := 4) hx hb d_Md_firstChange_23 (by decide) ?_
  refine lv_iadd hx hb d_Md_firstChange_24 ?_
  refine lv_topi (fun z9 e_z9 => ?_)
  obtain rfl : z9 = nI (j + 4) := by rw [e_z9]; exact (nI_add j 4)
  refine lv_aload_n hx hb d_Md_firstChange_25 rfl (lv_at hl 0 rfl) ?_
  refine lv_iload_n hx hb d_Md_firstChange_26 rfl (lv_at hl 1 rfl) ?_
  refine ep_callP (W.runV (As := [.int (nI j)]) (rest := [.int (nI (j + 4)), .ref a]) ⟨hx, hb, hml, hown, hg⟩ (m_Mo_kindOf l D cI cJ cZ cO a ((f_Mo_lacksTwo kn j t u).2) kn ed ct ti nm xa xb ma it vs se sm rs wk ors owk j (by omega) _ rfl) (ep_cwV 1 hg tw_789 tw_791 ts_11 tw_12 tk_Md_kindOf rfl rfl (by decide +kernel) ⟨(Nat.le_of_ble_eq_true rfl), (Nat.le_of_ble_eq_true rfl)⟩) ⟨ep_blind, va_recv (q0 := 0) (ci := 9) hK hP rfl rfl, ep_pre hKn (hP)⟩ rfl rfl hl.1 rfl (lv_room (Nat.le_of_ble_eq_true rfl)) d_Md_firstChange_27 ⟨Nat.zero_le _, Nat.zero_le _⟩) ?_
  refine W.eq (g2 := F0 m 30 ls [.int (f_Mo_kindOf kn j), .int (nI (j + 4)), .ref a]) rfl ?_
  refine lv_topi (fun z9 e_z9 => ?_)
  obtain rfl : z9 = 1 := by rw [e_z9]; exact (by rw [show f_Mo_kindOf kn j = kn j - 1 from rfl, hk]; decide)
  refine lv_ldc (v := 1000000000) hx hb hown (hg _ tw_780) d_Md_firstChange_30 ?_
  refine ep_callH (W.runV (As := [.int (nI (j + 4)), .int 1, .int 1000000000]) (rest := []) ⟨hx, hb, hml, hown, hg⟩ (m_Mo_run_1 l D cI cJ cZ cO a ((f_Mo_lacksTwo kn j t u).2) kn ed ct ti nm xa xb ma it vs se sm rs wk ors owk n2 (j + 4) 1000000000 (by omega) hct2 (by omega) _ rfl) (ep_cwV 3 hg tw_832 tw_834 ts_17 tw_12 tk_Md_run rfl rfl (by decide +kernel) ⟨(Nat.le_of_ble_eq_true rfl), (Nat.le_of_ble_eq_true rfl)⟩) ⟨ep_blind, va_recv (q0 := 0) (ci := 9) hK hP rfl rfl, ep_pre hKn (hP)⟩ rfl rfl hl.1 rfl (lv_room (Nat.le_of_ble_eq_true rfl)) d_Md_firstChange_32 ⟨Nat.zero_le _, Nat.zero_le _⟩) hS (fun q h => h) (fun H locs hsz9 hk1 hP1 hS => ?_)
  refine W.eq (g2 := F0 m 35 ls []) rfl ?_
  have hP : va_P D cls (wMo cI cJ cZ a ((f_Mo_lacksTwo kn j t u).2) kn ed ct ti nm xa xb (nI ((f_Mo_run_1 ti nm xa it vs se rs wk n2 (j + 4) 1000000000).1)) ((f_Mo_run_1 ti nm xa it vs se rs wk n2 (j + 4) 1000000000).2.1) ((f_Mo_run_1 ti nm xa it vs se rs wk n2 (j + 4) 1000000000).2.2.1) ((f_Mo_run_1 ti nm xa it vs se rs wk n2 (j + 4) 1000000000).2.2.2.1) ((f_Mo_run_1 ti nm xa it vs se rs wk n2 (j + 4) 1000000000).2.2.2.2.1) ((f_Mo_run_1 ti nm xa it vs se rs wk n2 (j + 4) 1000000000).2.2.2.2.2.1) ((f_Mo_run_1 ti nm xa it vs se rs wk n2 (j + 4) 1000000000).2.2.2.2.2.2) ors owk) H := hP1
  have hD : va_D (blk a 15) (wMo cI cJ cZ a ((f_Mo_lacksTwo kn j t u).2) kn ed ct ti nm xa xb (nI ((f_Mo_run_1 ti nm xa it vs se rs wk n2 (j + 4) 1000000000).1)) ((f_Mo_run_1 ti nm xa it vs se rs wk n2 (j + 4) 1000000000).2.1) ((f_Mo_run_1 ti nm xa it vs se rs wk n2 (j + 4) 1000000000).2.2.1) ((f_Mo_run_1 ti nm xa it vs se rs wk n2 (j + 4) 1000000000).2.2.2.1) ((f_Mo_run_1 ti nm xa it vs se rs wk n2 (j + 4) 1000000000).2.2.2.2.1) ((f_Mo_run_1 ti nm xa it vs se rs wk n2 (j + 4) 1000000000).2.2.2.2.2.1) ((f_Mo_run_1 ti nm xa it vs se rs wk n2 (j + 4) 1000000000).2.2.2.2.2.2) ors owk) := (blk_D (wMo_in))
  refine lv_iconst (v := 0) hx hb d_Md_firstChange_35 (by decide) ?_
  refine lv_istore (lv' := [(4, .int 0), (0, .ref a), (1, .int (nI j)), (2, .int t), (3, .int u)]) hx hb d_Md_firstChange_36 hl (by decide) rfl (fun ls hl => ?_)
  exact key_38 32 0 ((f_Mo_run_1 ti nm xa it vs se rs wk n2 (j + 4) 1000000000).1) ((f_Mo_run_1 ti nm xa it vs se rs wk n2 (j + 4) 1000000000).2.1) ((f_Mo_run_1 ti nm xa it vs se rs wk n2 (j + 4) 1000000000).2.2.1) ((f_Mo_run_1 ti nm xa it vs se rs wk n2 (j + 4) 1000000000).2.2.2.1) ((f_Mo_run_1 ti nm xa it vs se rs wk n2 (j + 4) 1000000000).2.2.2.2.1) ((f_Mo_run_1 ti nm xa it vs se rs wk n2 (j + 4) 1000000000).2.2.2.2.2.1) ((f_Mo_run_1 ti nm xa it vs se rs wk n2 (j + 4) 1000000000).2.2.2.2.2.2) ors owk _ _ ls (by omega) (run_bz_1 _ _ _ _ _ _ _ _ _ _ _ hbz) hR hl hP hS

def g_Mo_effective_2_29 (kn : Nat → Int32) (ti : Nat → Int32) (j : Nat) (t : Int32) (u : Int32) : Nat → Nat → Nat → Nat → (Nat → Int32) → (Nat → Int32) → (Nat → Int32) → Int64 → (Nat → Int64) → (Nat → Int32) → Nat × Int32 × Nat × (Nat → Int32) × (Nat → Int32) × (Nat → Int32) × Int64 × (Nat → Int64) × (Nat → Int32)
  | 0, i, c9, mc, it, vs, se, sm, rs, wk => (c9, (f_Mo_lacksTwo kn j t u).2, mc, it, vs, se, sm, rs, wk)
  | k + 1, i, c9, mc, it, vs, se, sm, rs, wk => if (ti (32 * j + i)) < t then (g_Mo_effective_2_29 kn ti j t u k (i + 1) (c9 + 0) mc it vs se sm rs wk) else (if u < (ti (32 * j + i)) then (g_Mo_effective_2_29 kn ti j t u k (i + 1) (c9 + 0) mc it vs se sm rs wk) else (if (wk i) = 0 then (g_Mo_effective_2_29 kn ti j t u k (i + 1) (c9 + 0) mc it vs se sm rs wk) else (g_Mo_effective_2_29 kn ti j t u k (i + 1) (c9 + 1) mc it vs se sm rs wk)))

def f_Mo_effective_2 (kn : Nat → Int32) (ti : Nat → Int32) (nm : Nat → Int32) (xa : Nat → Int32) (xb : Nat → Int32) (it : Nat → Int32) (vs : Nat → Int32) (se : Nat → Int32) (rs : Nat → Int64) (wk : Nat → Int32) (n : Nat) (j : Nat) (t : Int32) (u : Int32) : Nat × Int32 × Nat × (Nat → Int32) × (Nat → Int32) × (Nat → Int32) × Int64 × (Nat → Int64) × (Nat → Int32) := g_Mo_effective_2_29 kn ti j t u n 0 0 ((f_Mo_run_2 ti nm xa xb it vs se rs wk n j u).1) ((f_Mo_run_2 ti nm xa xb it vs se rs wk n j u).2.1) ((f_Mo_run_2 ti nm xa xb it vs se rs wk n j u).2.2.1) ((f_Mo_run_2 ti nm xa xb it vs se rs wk n j u).2.2.2.1) ((f_Mo_run_2 ti nm xa xb it vs se rs wk n j u).2.2.2.2.1) ((f_Mo_run_2 ti nm xa xb it vs se rs wk n j u).2.2.2.2.2.1) ((f_Mo_run_2 ti nm xa xb it vs se rs wk n j u).2.2.2.2.2.2)
set_option maxHeartbeats 4000000 in
set_option maxRecDepth 100000 in
theorem m_Mo_effective_2 (l : Launch) (D : va_G) (cI cJ cZ cO : ClassId) (a : Nat) (code : Int32) (kn : Nat → Int32) (ed : Nat → Int32) (ct : Nat → Int32) (ti : Nat → Int32) (nm : Nat → Int32) (xa : Nat → Int32) (xb : Nat → Int32) (ma : Int32) (it : Nat → Int32) (vs : Nat → Int32) (se : Nat → Int32) (sm : Int64) (rs : Nat → Int64) (wk : Nat → Int32) (ors : Nat → Int64) (owk : Nat → Int32) (n : Nat) (j : Nat) (t : Int32) (u : Int32) (hj : j < 4) (hlk : (f_Mo_lacksTwo kn j t u).1 = 0) (hk : kn j = 3) (hct : ct j = nI n) (hn : n ≤ 32) (R : Nat × Int32 × Nat × (Nat → Int32) × (Nat → Int32) × (Nat → Int32) × Int64 × (Nat → Int64) × (Nat → Int32)) (hR : f_Mo_effective_2 kn ti nm xa xb it vs se rs wk n j t u = R) : Met l y_Md_effective (k_Md_effective :: gt) rm_Md_effective (Pc0 D cI cJ cZ cO [.ref a, .int (nI j), .int t, .int u] (fun H => va_P D cls (wMo cI cJ cZ a code kn ed ct ti nm xa xb ma it vs se sm rs wk ors owk) H)) (Qd (blk a 15) (some (.int (nI R.1))) (fun H => va_P D cls (wMo cI cJ cZ a R.2.1 kn ed ct ti nm xa xb (nI R.2.2.1) R.2.2.2.1 R.2.2.2.2.1 R.2.2.2.2.2.1 R.2.2.2.2.2.2.1 R.2.2.2.2.2.2.2.1 R.2.2.2.2.2.2.2.2 ors owk) H)) 0 0 (blk a 15) := by
  refine Met.ofW (cc := c_Md_effective) (maxL := 7) (ret := (Option.some FieldType.int)) (by decide) rfl ?_
  intro p e s m args below meth c s₁ B hml hv
  obtain ⟨rfl, hKn, hP⟩ := hv
  have hx := B.exec
  have hb := B.bytes
  have hr := B.returns
  have hts := atoms_spec (ws := k_Md_effective :: gt) B.pre
  have hg : ∀ w ∈ gt, w.before _ s = true := fun w h => hts w (List.mem_cons_of_mem _ h)
  have hown : s.vm.findClass R_Md = some m.cls := findClass_of_methodNamed B.named
  have hlocks := B.notSynchronized
  have hK := hKn.1
  have hl := lv_entry ([.ref a, .int (nI j), .int t, .int u]) (n := 7) (Nat.le_of_ble_eq_true rfl)
  rw [lg_entry_eq]
  generalize (lg_sl ([.ref a, .int (nI j), .int t, .int u]) ++ List.replicate (7 - (lg_sl ([.ref a, .int (nI j), .int t, .int u])).length) Slot.unset).toArray = ls at hl ⊢
  have hl : lv_has ls 7 [(0, .ref a), (1, .int (nI j)), (2, .int t), (3, .int u)] := hl
  have hS : va_S (blk a 15) s.heap s.heap [] := va_S.rf
  have hD : va_D (blk a 15) (wMo cI cJ cZ a code kn ed ct ti nm xa xb ma it vs se sm rs wk ors owk) := (blk_D (wMo_in))
  have key_29 : ∀ (k : Nat) (i : Nat) (c9 : Nat) (mc : Nat) (it : Nat → Int32) (vs : Nat → Int32) (se : Nat → Int32) (sm : Int64) (rs : Nat → Int64) (wk : Nat → Int32) (H : Heap) (locs : List Loc) (ls : Array Slot), i + k = n → g_Mo_effective_2_29 kn ti j t u k i c9 mc it vs se sm rs wk = R → lv_has ls 7 [(5, .int (nI i)), (4, .int (nI c9)), (0, .ref a), (1, .int (nI j)), (2, .int t), (3, .int u)] → va_P D cls (wMo cI cJ cZ a ((f_Mo_lacksTwo kn j t u).2) kn ed ct ti nm xa xb (nI mc) it vs se sm rs wk ors owk) H → va_S (blk a 15) s.heap H locs → W p l e (headSpec (k_Md_effective :: gt) rm_Md_effective).room s m ([.ref a, .int (nI j), .int t, .int u] : List Value).toArray below meth c H locs 0 0 (MQ below (Qd (blk a 15) (some (.int (nI R.1))) (fun H => va_P D cls (wMo cI cJ cZ a R.2.1 kn ed ct ti nm xa xb (nI R.2.2.1) R.2.2.2.1 R.2.2.2.2.1 R.2.2.2.2.2.1 R.2.2.2.2.2.2.1 R.2.2.2.2.2.2.2.1 R.2.2.2.2.2.2.2.2 ors owk) H)) ([.ref a, .int (nI j), .int t, .int u] : List Value).toArray s 0 0 (blk a 15)) (F0 m 29 ls []) := by
    intro k
    induction k with
    | zero =>
      intro i c9 mc it vs se sm rs wk H locs ls hi hR hl hP hS
      have hR : ((c9, (f_Mo_lacksTwo kn j t u).2, mc, it, vs, se, sm, rs, wk)) = R := hR
      have hD : va_D (blk a 15) (wMo cI cJ cZ a ((f_Mo_lacksTwo kn j t u).2) kn ed ct ti nm xa xb (nI mc) it vs se sm rs wk ors owk) := (blk_D (wMo_in))
      refine lv_iload hx hb d_Md_effective_29 (lv_at hl 0 rfl) ?_
      refine lv_aload_n hx hb d_Md_effective_31 rfl (lv_at hl 2 rfl) ?_
      refine va_get (D := D) (ci := 9) (v := .ref (a + 3)) (C := R_Md) (T := F_Md) (N := 17) hx hb hg in_Md hown hK hP 0 rfl rfl 3 (Nat.le_of_ble_eq_true rfl) (hg _ tw_709) (fun _ h9 => h9) rfl d_Md_effective_32 ?_
      refine lv_iload_n hx hb d_Md_effective_35 rfl (lv_at hl 3 rfl) ?_
      refine ep_iald hx hb hK hP 3 0 rfl rfl (i := j) (by omega) (by decide) d_Md_effective_36 ?_
      refine lv_topi (fun z9 e_z9 => ?_)
      obtain rfl : z9 = nI n := by rw [e_z9]; exact hct
      refine lv_icmp_ge (tgt := 92) hx hb d_Md_effective_37 (by decide) (fun hc => ?_) (fun hc => False.elim (by have hc : ¬ (n ≤ i) := fun h => hc (by exact (nI_leI (a := n) (b := i) (by omega) (by omega)).mpr h); omega))
      refine lv_iload hx hb d_Md_effective_92 (lv_at hl 1 rfl) ?_
      subst hR
      exact W.iret (v := (nI c9)) hx hb hr (fun t9 ht hW => ⟨rfl, hS.F ht, by rw [ht]; exact hP⟩) hS.2.2 d_Md_effective_94
    | succ k ih =>
      intro i c9 mc it vs se sm rs wk H locs ls hi hR hl hP hS
      have hR : (if (ti (32 * j + i)) < t then (g_Mo_effective_2_29 kn ti j t u k (i + 1) (c9 + 0) mc it vs se sm rs wk) else (if u < (ti (32 * j + i)) then (g_Mo_effective_2_29 kn ti j t u k (i + 1) (c9 + 0) mc it vs se sm rs wk) else (if (wk i) = 0 then (g_Mo_effective_2_29 kn ti j t u k (i + 1) (c9 + 0) mc it vs se sm rs wk) else (g_Mo_effective_2_29 kn ti j t u k (i + 1) (c9 + 1) mc it vs se sm rs wk)))) = R := hR
      have hD : va_D (blk a 15) (wMo cI cJ cZ a ((f_Mo_lacksTwo kn j t u).2) kn ed ct ti nm xa xb (nI mc) it vs se sm rs wk ors owk) := (blk_D (wMo_in))
      refine lv_iload hx hb d_Md_effective_29 (lv_at hl 0 rfl) ?_
      refine lv_aload_n hx hb d_Md_effective_31 rfl (lv_at hl 2 rfl) ?_
      refine va_get (D := D) (ci := 9) (v := .ref (a + 3)) (C := R_Md) (T := F_Md) (N := 17) hx hb hg in_Md hown hK hP 0 rfl rfl 3 (Nat.le_of_ble_eq_true rfl) (hg _ tw_709) (fun _ h9 => h9) rfl d_Md_effective_32 ?_
      refine lv_iload_n hx hb d_Md_effective_35 rfl (lv_at hl 3 rfl) ?_
      refine ep_iald hx hb hK hP 3 0 rfl rfl (i := j) (by omega) (by decide) d_Md_effective_36 ?_
      refine lv_topi (fun z9 e_z9 => ?_)
      obtain rfl : z9 = nI n := by rw [e_z9]; exact hct
      refine lv_icmp_ge (tgt := 92) hx hb d_Md_effective_37 (by decide) (fun hc => False.elim (by have hc := (nI_leI (a := n) (b := i) (by omega) (by omega)).mp hc; omega)) (fun hc => ?_)
      refine lv_aload_n hx hb d_Md_effective_40 rfl (lv_at hl 2 rfl) ?_
      refine va_get (D := D) (ci := 9) (v := .ref (a + 4)) (C := R_Md) (T := F_Md) (N := 17) hx hb hg in_Md hown hK hP 0 rfl rfl 4 (Nat.le_of_ble_eq_true rfl) (hg _ tw_710) (fun _ h9 => h9) rfl d_Md_effective_41 ?_
      refine lv_bipush (v := 32) hx hb d_Md_effective_44 (by decide) ?_
      refine lv_iload_n hx hb d_Md_effective_46 rfl (lv_at hl 3 rfl) ?_
      refine lv_imul hx hb d_Md_effective_47 ?_
      refine lv_topi (fun z9 e_z9 => ?_)
      obtain rfl : z9 = nI (32 * j) := by rw [e_z9]; exact (nI_mul 32 j)
      refine lv_iload hx hb d_Md_effective_48 (lv_at hl 0 rfl) ?_
      refine lv_iadd hx hb d_Md_effective_50 ?_
      refine lv_topi (fun z9 e_z9 => ?_)
      obtain rfl : z9 = nI (32 * j + i) := by rw [e_z9]; exact (nI_add (32 * j) i)
      refine ep_iald hx hb hK hP 4 0 rfl rfl (i := (32 * j + i)) (by omega) (by decide) d_Md_effective_51 ?_
      refine lv_istore (lv' := [(6, .int (ti (32 * j + i))), (5, .int (nI i)), (4, .int (nI c9)), (0, .ref a), (1, .int (nI j)), (2, .int t), (3, .int u)]) hx hb d_Md_effective_52 hl (by decide) rfl (fun ls hl => ?_)
      refine lv_iload hx hb d_Md_effective_54 (lv_at hl 2 rfl) ?_
      refine lv_iload hx hb d_Md_effective_56 (lv_at hl 0 rfl) ?_
      refine lv_iload_n hx hb d_Md_effective_58 rfl (lv_at hl 5 rfl) ?_
      refine lv_icmp_lt (tgt := 82) hx hb d_Md_effective_59 (by decide) (fun hc1 => ?_) (fun hc1 => ?_)
      · have hc1 : (ti (32 * j + i)) < t := hc1
        refine lv_iconst (v := 0) hx hb d_Md_effective_82 (by decide) ?_
        refine lv_iadd hx hb d_Md_effective_83 ?_
        refine lv_topi (fun z9 e_z9 => ?_)
        obtain rfl : z9 = nI (c9 + 0) := by rw [e_z9]; exact (nI_add c9 0)
        refine lv_istore (lv' := [(4, .int (nI (c9 + 0))), (6, .int (ti (32 * j + i))), (5, .int (nI i)), (0, .ref a), (1, .int (nI j)), (2, .int t), (3, .int u)]) hx hb d_Md_effective_84 hl (by decide) rfl (fun ls hl => ?_)
        refine lv_iinc (k := 2) (lv' := [(5, .int (nI (i + 1))), (4, .int (nI (c9 + 0))), (6, .int (ti (32 * j + i))), (0, .ref a), (1, .int (nI j)), (2, .int t), (3, .int u)]) hx hb d_Md_effective_86 hl rfl (inc1 _) (by decide) rfl (fun ls hl => ?_)
        refine lv_goto (tgt := 29) hx hb d_Md_effective_89 (by decide) ?_
        rw [if_pos hc1] at hR
        exact ih (i + 1) (c9 + 0) mc it vs se sm rs wk _ _ ls (by omega) hR (lv_sub hl [0, 1, 3, 4, 5, 6] rfl) hP hS
      · have hc1 : ¬ ((ti (32 * j + i)) < t) := hc1
        refine lv_iload hx hb d_Md_effective_62 (lv_at hl 0 rfl) ?_
        refine lv_iload_n hx hb d_Md_effective_64 rfl (lv_at hl 6 rfl) ?_
        refine lv_icmp_gt (tgt := 82) hx hb d_Md_effective_65 (by decide) (fun hc2 => ?_) (fun hc2 => ?_)
        · have hc2 : u < (ti (32 * j + i)) := hc2
          refine lv_iconst (v := 0) hx hb d_Md_effective_82 (by decide) ?_
          refine lv_iadd hx hb d_Md_effective_83 ?_
          refine lv_topi (fun z9 e_z9 => ?_)
          obtain rfl : z9 = nI (c9 + 0) := by rw [e_z9]; exact (nI_add c9 0)
          refine lv_istore (lv' := [(4, .int (nI (c9 + 0))), (6, .int (ti (32 * j + i))), (5, .int (nI i)), (0, .ref a), (1, .int (nI j)), (2, .int t), (3, .int u)]) hx hb d_Md_effective_84 hl (by decide) rfl (fun ls hl => ?_)
          refine lv_iinc (k := 2) (lv' := [(5, .int (nI (i + 1))), (4, .int (nI (c9 + 0))), (6, .int (ti (32 * j + i))), (0, .ref a), (1, .int (nI j)), (2, .int t), (3, .int u)]) hx hb d_Md_effective_86 hl rfl (inc1 _) (by decide) rfl (fun ls hl => ?_)
          refine lv_goto (tgt := 29) hx hb d_Md_effective_89 (by decide) ?_
          rw [if_neg hc1, if_pos hc2] at hR
          exact ih (i + 1) (c9 + 0) mc it vs se sm rs wk _ _ ls (by omega) hR (lv_sub hl [0, 1, 3, 4, 5, 6] rfl) hP hS
        · have hc2 : ¬ (u < (ti (32 * j + i))) := hc2
          refine lv_aload_n hx hb d_Md_effective_68 rfl (lv_at hl 3 rfl) ?_
          refine va_get (D := D) (ci := 9) (v := .ref (a + 12)) (C := R_Md) (T := F_Md) (N := 17) hx hb hg in_Md hown hK hP 0 rfl rfl 14 (Nat.le_of_ble_eq_true rfl) (hg _ tw_720) (fun _ h9 => h9) rfl d_Md_effective_69 ?_
          refine lv_iload hx hb d_Md_effective_72 (lv_at hl 1 rfl) ?_
          refine ep_zald hx hb hK hP 12 2 rfl rfl (i := i) (by omega) (by decide) d_Md_effective_74 ?_
          refine lv_if_eq (tgt := 82) hx hb d_Md_effective_75 (by decide) (fun hc3 => ?_) (fun hc3 => ?_)
          · have hc3 : (wk i) = 0 := hc3
            refine lv_iconst (v := 0) hx hb d_Md_effective_82 (by decide) ?_
            refine lv_iadd hx hb d_Md_effective_83 ?_
            refine lv_topi (fun z9 e_z9 => ?_)
            obtain rfl : z9 = nI (c9 + 0) := by rw [e_z9]; exact (nI_add c9 0)
            refine lv_istore (lv' := [(4, .int (nI (c9 + 0))), (6, .int (ti (32 * j + i))), (5, .int (nI i)), (0, .ref a), (1, .int (nI j)), (2, .int t), (3, .int u)]) hx hb d_Md_effective_84 hl (by decide) rfl (fun ls hl => ?_)
            refine lv_iinc (k := 2) (lv' := [(5, .int (nI (i + 1))), (4, .int (nI (c9 + 0))), (6, .int (ti (32 * j + i))), (0, .ref a), (1, .int (nI j)), (2, .int t), (3, .int u)]) hx hb d_Md_effective_86 hl rfl (inc1 _) (by decide) rfl (fun ls hl => ?_)
            refine lv_goto (tgt := 29) hx hb d_Md_effective_89 (by decide) ?_
            rw [if_neg hc1, if_neg hc2, if_pos hc3] at hR
            exact ih (i + 1) (c9 + 0) mc it vs se sm rs wk _ _ ls (by omega) hR (lv_sub hl [0, 1, 3, 4, 5, 6] rfl) hP hS
          · have hc3 : ¬ ((wk i) = 0) := hc3
            refine lv_iconst (v := 1) hx hb d_Md_effective_78 (by decide) ?_
            refine lv_goto (tgt := 83) hx hb d_Md_effective_79 (by decide) ?_
            refine lv_iadd hx hb d_Md_effective_83 ?_
            refine lv_topi (fun z9 e_z9 => ?_)
            obtain rfl : z9 = nI (c9 + 1) := by rw [e_z9]; exact (nI_add c9 1)
            refine lv_istore (lv' := [(4, .int (nI (c9 + 1))), (6, .int (ti (32 * j + i))), (5, .int (nI i)), (0, .ref a), (1, .int (nI j)), (2, .int t), (3, .int u)]) hx hb d_Md_effective_84 hl (by decide) rfl (fun ls hl => ?_)
            refine lv_iinc (k := 2) (lv' := [(5, .int (nI (i + 1))), (4, .int (nI (c9 + 1))), (6, .int (ti (32 * j + i))), (0, .ref a), (1, .int (nI j)), (2, .int t), (3, .int u)]) hx hb d_Md_effective_86 hl rfl (inc1 _) (by decide) rfl (fun ls hl => ?_)
            refine lv_goto (tgt := 29) hx hb d_Md_effective_89 (by decide) ?_
            rw [if_neg hc1, if_neg hc2, if_neg hc3] at hR
            exact ih (i + 1) (c9 + 1) mc it vs se sm rs wk _ _ ls (by omega) hR (lv_sub hl [0, 1, 3, 4, 5, 6] rfl) hP hS
  have hR : (g_Mo_effective_2_29 kn ti j t u n 0 0 ((f_Mo_run_2 ti nm xa xb it vs se rs wk n j u).1) ((f_Mo_run_2 ti nm xa xb it vs se rs wk n j u).2.1) ((f_Mo_run_2 ti nm xa xb it vs se rs wk n j u).2.2.1) ((f_Mo_run_2 ti nm xa xb it vs se rs wk n j u).2.2.2.1) ((f_Mo_run_2 ti nm xa xb it vs se rs wk n j u).2.2.2.2.1) ((f_Mo_run_2 ti nm xa xb it vs se rs wk n j u).2.2.2.2.2.1) ((f_Mo_run_2 ti nm xa xb it vs se rs wk n j u).2.2.2.2.2.2)) = R := hR
  refine lv_aload_n hx hb d_Md_effective_0 rfl (lv_at hl 0 rfl) ?_
  refine lv_iload_n hx hb d_Md_effective_1 rfl (lv_at hl 1 rfl) ?_
  refine lv_iload_n hx hb d_Md_effective_2 rfl (lv_at hl 2 rfl) ?_
  refine lv_iload_n hx hb d_Md_effective_3 rfl (lv_at hl 3 rfl) ?_
  refine ep_callH (W.runV (As := [.int (nI j), .int t, .int u]) (rest := []) ⟨hx, hb, hml, hown, hg⟩ (m_Mo_lacksTwo l D cI cJ cZ cO a code kn ed ct ti nm xa xb ma it vs se sm rs wk ors owk j t u (by omega) _ rfl) (ep_cwV 3 hg tw_896 tw_898 ts_25 tw_12 tk_Md_lacksTwo rfl rfl (by decide +kernel) ⟨(Nat.le_of_ble_eq_true rfl), (Nat.le_of_ble_eq_true rfl)⟩) ⟨ep_blind, va_recv (q0 := 0) (ci := 9) hK hP rfl rfl, ep_pre hKn (hP)⟩ rfl rfl hl.1 rfl (lv_room (Nat.le_of_ble_eq_true rfl)) d_Md_effective_4 ⟨Nat.zero_le _, Nat.zero_le _⟩) hS (fun q h => h) (fun H locs hsz9 hk1 hP1 hS => ?_)
  refine W.eq (g2 := F0 m 7 ls [.int ((f_Mo_lacksTwo kn j t u).1)]) rfl ?_
  have hP : va_P D cls (wMo cI cJ cZ a ((f_Mo_lacksTwo kn j t u).2) kn ed ct ti nm xa xb ma it vs se sm rs wk ors owk) H := hP1
  have hD : va_D (blk a 15) (wMo cI cJ cZ a ((f_Mo_lacksTwo kn j t u).2) kn ed ct ti nm xa xb ma it vs se sm rs wk ors owk) := (blk_D (wMo_in))
  refine lv_if_eq (tgt := 12) hx hb d_Md_effective_7 (by decide) (fun hc => ?_) (fun hc => absurd hlk hc)
  refine lv_aload_n hx hb d_Md_effective_12 rfl (lv_at hl 0 rfl) ?_
  refine lv_iload_n hx hb d_Md_effective_13 rfl (lv_at hl 1 rfl) ?_
  refine lv_aload_n hx hb d_Md_effective_14 rfl (lv_at hl 0 rfl) ?_
  refine lv_iload_n hx hb d_Md_effective_15 rfl (lv_at hl 1 rfl) ?_
  refine ep_callP (W.runV (As := [.int (nI j)]) (rest := [.int (nI j), .ref a]) ⟨hx, hb, hml, hown, hg⟩ (m_Mo_kindOf l D cI cJ cZ cO a ((f_Mo_lacksTwo kn j t u).2) kn ed ct ti nm xa xb ma it vs se sm rs wk ors owk j (by omega) _ rfl) (ep_cwV 1 hg tw_789 tw_791 ts_11 tw_12 tk_Md_kindOf rfl rfl (by decide +kernel) ⟨(Nat.le_of_ble_eq_true rfl), (Nat.le_of_ble_eq_true rfl)⟩) ⟨ep_blind, va_recv (q0 := 0) (ci := 9) hK hP rfl rfl, ep_pre hKn (hP)⟩ rfl rfl hl.1 rfl (lv_room (Nat.le_of_ble_eq_true rfl)) d_Md_effective_16 ⟨Nat.zero_le _, Nat.zero_le _⟩) ?_
  refine W.eq (g2 := F0 m 19 ls [.int (f_Mo_kindOf kn j), .int (nI j), .ref a]) rfl ?_
  refine lv_topi (fun z9 e_z9 => ?_)
  obtain rfl : z9 = 2 := by rw [e_z9]; exact (by rw [show f_Mo_kindOf kn j = kn j - 1 from rfl, hk]; decide)
  refine lv_iload_n hx hb d_Md_effective_19 rfl (lv_at hl 3 rfl) ?_
  refine ep_callH (W.runV (As := [.int (nI j), .int 2, .int u]) (rest := []) ⟨hx, hb, hml, hown, hg⟩ (m_Mo_run_2 l D cI cJ cZ cO a ((f_Mo_lacksTwo kn j t u).2) kn ed ct ti nm xa xb ma it vs se sm rs wk ors owk n j u (by omega) hct (by omega) _ rfl) (ep_cwV 3 hg tw_832 tw_834 ts_17 tw_12 tk_Md_run rfl rfl (by decide +kernel) ⟨(Nat.le_of_ble_eq_true rfl), (Nat.le_of_ble_eq_true rfl)⟩) ⟨ep_blind, va_recv (q0 := 0) (ci := 9) hK hP rfl rfl, ep_pre hKn (hP)⟩ rfl rfl hl.1 rfl (lv_room (Nat.le_of_ble_eq_true rfl)) d_Md_effective_20 ⟨Nat.zero_le _, Nat.zero_le _⟩) hS (fun q h => h) (fun H locs hsz9 hk1 hP1 hS => ?_)
  refine W.eq (g2 := F0 m 23 ls []) rfl ?_
  have hP : va_P D cls (wMo cI cJ cZ a ((f_Mo_lacksTwo kn j t u).2) kn ed ct ti nm xa xb (nI ((f_Mo_run_2 ti nm xa xb it vs se rs wk n j u).1)) ((f_Mo_run_2 ti nm xa xb it vs se rs wk n j u).2.1) ((f_Mo_run_2 ti nm xa xb it vs se rs wk n j u).2.2.1) ((f_Mo_run_2 ti nm xa xb it vs se rs wk n j u).2.2.2.1) ((f_Mo_run_2 ti nm xa xb it vs se rs wk n j u).2.2.2.2.1) ((f_Mo_run_2 ti nm xa xb it vs se rs wk n j u).2.2.2.2.2.1) ((f_Mo_run_2 ti nm xa xb it vs se rs wk n j u).2.2.2.2.2.2) ors owk) H := hP1
  have hD : va_D (blk a 15) (wMo cI cJ cZ a ((f_Mo_lacksTwo kn j t u).2) kn ed ct ti nm xa xb (nI ((f_Mo_run_2 ti nm xa xb it vs se rs wk n j u).1)) ((f_Mo_run_2 ti nm xa xb it vs se rs wk n j u).2.1) ((f_Mo_run_2 ti nm xa xb it vs se rs wk n j u).2.2.1) ((f_Mo_run_2 ti nm xa xb it vs se rs wk n j u).2.2.2.1) ((f_Mo_run_2 ti nm xa xb it vs se rs wk n j u).2.2.2.2.1) ((f_Mo_run_2 ti nm xa xb it vs se rs wk n j u).2.2.2.2.2.1) ((f_Mo_run_2 ti nm xa xb it vs se rs wk n j u).2.2.2.2.2.2) ors owk) := (blk_D (wMo_in))
  refine lv_iconst (v := 0) hx hb d_Md_effective_23 (by decide) ?_
  refine lv_istore (lv' := [(4, .int 0), (0, .ref a), (1, .int (nI j)), (2, .int t), (3, .int u)]) hx hb d_Md_effective_24 hl (by decide) rfl (fun ls hl => ?_)
  refine lv_iconst (v := 0) hx hb d_Md_effective_26 (by decide) ?_
  refine lv_istore (lv' := [(5, .int 0), (4, .int 0), (0, .ref a), (1, .int (nI j)), (2, .int t), (3, .int u)]) hx hb d_Md_effective_27 hl (by decide) rfl (fun ls hl => ?_)
  exact key_29 n 0 0 ((f_Mo_run_2 ti nm xa xb it vs se rs wk n j u).1) ((f_Mo_run_2 ti nm xa xb it vs se rs wk n j u).2.1) ((f_Mo_run_2 ti nm xa xb it vs se rs wk n j u).2.2.1) ((f_Mo_run_2 ti nm xa xb it vs se rs wk n j u).2.2.2.1) ((f_Mo_run_2 ti nm xa xb it vs se rs wk n j u).2.2.2.2.1) ((f_Mo_run_2 ti nm xa xb it vs se rs wk n j u).2.2.2.2.2.1) ((f_Mo_run_2 ti nm xa xb it vs se rs wk n j u).2.2.2.2.2.2) _ _ ls (by omega) hR hl hP hS

def g_Mo_firstChange_2_227 (kn : Nat → Int32) (ti : Nat → Int32) (n : Nat) (j : Nat) (t : Int32) (u : Int32) : Nat → Nat → Int32 → Nat → (Nat → Int32) → (Nat → Int32) → (Nat → Int32) → Int64 → (Nat → Int64) → (Nat → Int32) → (Nat → Int64) → (Nat → Int32) → Int32 × Int32 × Nat × (Nat → Int32) × (Nat → Int32) × (Nat → Int32) × Int64 × (Nat → Int64) × (Nat → Int32) × (Nat → Int64) × (Nat → Int32)
  | 0, i, be, mc, it, vs, se, sm, rs, wk, ors, owk => (be, (f_Mo_lacksTwo kn j t u).2, mc, it, vs, se, sm, rs, wk, ors, owk)
  | k + 1, i, be, mc, it, vs, se, sm, rs, wk, ors, owk => if ¬ (f_Mo_find ti n j (ti (32 * (j + 4) + i))) = -1 then (g_Mo_firstChange_2_227 kn ti n j t u k (i + 1) be mc it vs se sm rs wk ors owk) else (if (ti (32 * (j + 4) + i)) < t then (g_Mo_firstChange_2_227 kn ti n j t u k (i + 1) be mc it vs se sm rs wk ors owk) else (if u < (ti (32 * (j + 4) + i)) then (g_Mo_firstChange_2_227 kn ti n j t u k (i + 1) be mc it vs se sm rs wk ors owk) else (if be = 0 then (g_Mo_firstChange_2_227 kn ti n j t u k (i + 1) (ti (32 * (j + 4) + i)) mc it vs se sm rs wk ors owk) else (if be ≤ (ti (32 * (j + 4) + i)) then (g_Mo_firstChange_2_227 kn ti n j t u k (i + 1) be mc it vs se sm rs wk ors owk) else (g_Mo_firstChange_2_227 kn ti n j t u k (i + 1) (ti (32 * (j + 4) + i)) mc it vs se sm rs wk ors owk)))))

def g_Mo_firstChange_2_97 (kn : Nat → Int32) (ti : Nat → Int32) (n : Nat) (n2 : Nat) (j : Nat) (t : Int32) (u : Int32) : Nat → Nat → Int32 → Nat → (Nat → Int32) → (Nat → Int32) → (Nat → Int32) → Int64 → (Nat → Int64) → (Nat → Int32) → (Nat → Int64) → (Nat → Int32) → Int32 × Int32 × Nat × (Nat → Int32) × (Nat → Int32) × (Nat → Int32) × Int64 × (Nat → Int64) × (Nat → Int32) × (Nat → Int64) × (Nat → Int32)
  | 0, i, be, mc, it, vs, se, sm, rs, wk, ors, owk => g_Mo_firstChange_2_227 kn ti n j t u n2 0 be mc it vs se sm rs wk ors owk
  | k + 1, i, be, mc, it, vs, se, sm, rs, wk, ors, owk => if ¬ (f_Mo_find ti n2 (j + 4) (ti (32 * j + i))) = -1 then (if (lg_cmp (ors ((f_Mo_find ti n2 (j + 4) (ti (32 * j + i))).toNatClampNeg)) (rs i)) = 0 then (if (owk ((f_Mo_find ti n2 (j + 4) (ti (32 * j + i))).toNatClampNeg)) = (wk i) then (g_Mo_firstChange_2_97 kn ti n n2 j t u k (i + 1) be mc it vs se sm rs wk ors owk) else (if (ti (32 * j + i)) < t then (g_Mo_firstChange_2_97 kn ti n n2 j t u k (i + 1) be mc it vs se sm rs wk ors owk) else (if u < (ti (32 * j + i)) then (g_Mo_firstChange_2_97 kn ti n n2 j t u k (i + 1) be mc it vs se sm rs wk ors owk) else (if be = 0 then (g_Mo_firstChange_2_97 kn ti n n2 j t u k (i + 1) (ti (32 * j + i)) mc it vs se sm rs wk ors owk) else (if be ≤ (ti (32 * j + i)) then (g_Mo_firstChange_2_97 kn ti n n2 j t u k (i + 1) be mc it vs se sm rs wk ors owk) else (g_Mo_firstChange_2_97 kn ti n n2 j t u k (i + 1) (ti (32 * j + i)) mc it vs se sm rs wk ors owk)))))) else (if (ti (32 * j + i)) < t then (g_Mo_firstChange_2_97 kn ti n n2 j t u k (i + 1) be mc it vs se sm rs wk ors owk) else (if u < (ti (32 * j + i)) then (g_Mo_firstChange_2_97 kn ti n n2 j t u k (i + 1) be mc it vs se sm rs wk ors owk) else (if be = 0 then (g_Mo_firstChange_2_97 kn ti n n2 j t u k (i + 1) (ti (32 * j + i)) mc it vs se sm rs wk ors owk) else (if be ≤ (ti (32 * j + i)) then (g_Mo_firstChange_2_97 kn ti n n2 j t u k (i + 1) be mc it vs se sm rs wk ors owk) else (g_Mo_firstChange_2_97 kn ti n n2 j t u k (i + 1) (ti (32 * j + i)) mc it vs se sm rs wk ors owk)))))) else (if (ti (32 * j + i)) < t then (g_Mo_firstChange_2_97 kn ti n n2 j t u k (i + 1) be mc it vs se sm rs wk ors owk) else (if u < (ti (32 * j + i)) then (g_Mo_firstChange_2_97 kn ti n n2 j t u k (i + 1) be mc it vs se sm rs wk ors owk) else (if be = 0 then (g_Mo_firstChange_2_97 kn ti n n2 j t u k (i + 1) (ti (32 * j + i)) mc it vs se sm rs wk ors owk) else (if be ≤ (ti (32 * j + i)) then (g_Mo_firstChange_2_97 kn ti n n2 j t u k (i + 1) be mc it vs se sm rs wk ors owk) else (g_Mo_firstChange_2_97 kn ti n n2 j t u k (i + 1) (ti (32 * j + i)) mc it vs se sm rs wk ors owk)))))

def g_Mo_firstChange_2_38 (kn : Nat → Int32) (ti : Nat → Int32) (nm : Nat → Int32) (xa : Nat → Int32) (xb : Nat → Int32) (n : Nat) (n2 : Nat) (j : Nat) (t : Int32) (u : Int32) : Nat → Nat → Nat → (Nat → Int32) → (Nat → Int32) → (Nat → Int32) → Int64 → (Nat → Int64) → (Nat → Int32) → (Nat → Int64) → (Nat → Int32) → Int32 × Int32 × Nat × (Nat → Int32) × (Nat → Int32) × (Nat → Int32) × Int64 × (Nat → Int64) × (Nat → Int32) × (Nat → Int64) × (Nat → Int32)
  | 0, i, mc, it, vs, se, sm, rs, wk, ors, owk => g_Mo_firstChange_2_97 kn ti n n2 j t u n 0 0 ((f_Mo_run_2 ti nm xa xb it vs se rs wk n j 1000000000).1) ((f_Mo_run_2 ti nm xa xb it vs se rs wk n j 1000000000).2.1) ((f_Mo_run_2 ti nm xa xb it vs se rs wk n j 1000000000).2.2.1) ((f_Mo_run_2 ti nm xa xb it vs se rs wk n j 1000000000).2.2.2.1) ((f_Mo_run_2 ti nm xa xb it vs se rs wk n j 1000000000).2.2.2.2.1) ((f_Mo_run_2 ti nm xa xb it vs se rs wk n j 1000000000).2.2.2.2.2.1) ((f_Mo_run_2 ti nm xa xb it vs se rs wk n j 1000000000).2.2.2.2.2.2) ors owk
  | k + 1, i, mc, it, vs, se, sm, rs, wk, ors, owk => g_Mo_firstChange_2_38 kn ti nm xa xb n n2 j t u k (i + 1) mc it vs se sm rs wk (vp_updL ors i (rs i)) (upd owk i (wk i))

def f_Mo_firstChange_2 (kn : Nat → Int32) (ti : Nat → Int32) (nm : Nat → Int32) (xa : Nat → Int32) (xb : Nat → Int32) (it : Nat → Int32) (vs : Nat → Int32) (se : Nat → Int32) (rs : Nat → Int64) (wk : Nat → Int32) (ors : Nat → Int64) (owk : Nat → Int32) (n : Nat) (n2 : Nat) (j : Nat) (t : Int32) (u : Int32) : Int32 × Int32 × Nat × (Nat → Int32) × (Nat → Int32) × (Nat → Int32) × Int64 × (Nat → Int64) × (Nat → Int32) × (Nat → Int64) × (Nat → Int32) := g_Mo_firstChange_2_38 kn ti nm xa xb n n2 j t u 32 0 ((f_Mo_run_2 ti nm xa xb it vs se rs wk n2 (j + 4) 1000000000).1) ((f_Mo_run_2 ti nm xa xb it vs se rs wk n2 (j + 4) 1000000000).2.1) ((f_Mo_run_2 ti nm xa xb it vs se rs wk n2 (j + 4) 1000000000).2.2.1) ((f_Mo_run_2 ti nm xa xb it vs se rs wk n2 (j + 4) 1000000000).2.2.2.1) ((f_Mo_run_2 ti nm xa xb it vs se rs wk n2 (j + 4) 1000000000).2.2.2.2.1) ((f_Mo_run_2 ti nm xa xb it vs se rs wk n2 (j + 4) 1000000000).2.2.2.2.2.1) ((f_Mo_run_2 ti nm xa xb it vs se rs wk n2 (j + 4) 1000000000).2.2.2.2.2.2) ors owk
set_option maxHeartbeats 4000000 in
set_option maxRecDepth 100000 in
theorem m_Mo_firstChange_2 (l : Launch) (D : va_G) (cI cJ cZ cO : ClassId) (a : Nat) (code : Int32) (kn : Nat → Int32) (ed : Nat → Int32) (ct : Nat → Int32) (ti : Nat → Int32) (nm : Nat → Int32) (xa : Nat → Int32) (xb : Nat → Int32) (ma : Int32) (it : Nat → Int32) (vs : Nat → Int32) (se : Nat → Int32) (sm : Int64) (rs : Nat → Int64) (wk : Nat → Int32) (ors : Nat → Int64) (owk : Nat → Int32) (n : Nat) (n2 : Nat) (j : Nat) (t : Int32) (u : Int32) (hj : j < 4) (hlk : (f_Mo_lacksTwo kn j t u).1 = 0) (hk : kn j = 3) (hct : ct j = nI n) (hn : n ≤ 32) (hct2 : ct (j + 4) = nI n2) (hn2 : n2 ≤ 32) (hbz : bz wk) (hed : ¬ ed j = 0) (R : Int32 × Int32 × Nat × (Nat → Int32) × (Nat → Int32) × (Nat → Int32) × Int64 × (Nat → Int64) × (Nat → Int32) × (Nat → Int64) × (Nat → Int32)) (hR : f_Mo_firstChange_2 kn ti nm xa xb it vs se rs wk ors owk n n2 j t u = R) : Met l y_Md_firstChange (k_Md_firstChange :: gt) rm_Md_firstChange (Pc0 D cI cJ cZ cO [.ref a, .int (nI j), .int t, .int u] (fun H => va_P D cls (wMo cI cJ cZ a code kn ed ct ti nm xa xb ma it vs se sm rs wk ors owk) H)) (Qd (blk a 15) (some (.int R.1)) (fun H => va_P D cls (wMo cI cJ cZ a R.2.1 kn ed ct ti nm xa xb (nI R.2.2.1) R.2.2.2.1 R.2.2.2.2.1 R.2.2.2.2.2.1 R.2.2.2.2.2.2.1 R.2.2.2.2.2.2.2.1 R.2.2.2.2.2.2.2.2.1 R.2.2.2.2.2.2.2.2.2.1 R.2.2.2.2.2.2.2.2.2.2) H)) 0 0 (blk a 15) := by
  refine Met.ofW (cc := c_Md_firstChange) (maxL := 9) (ret := (Option.some FieldType.int)) (by decide) rfl ?_
  intro p e s m args below meth c s₁ B hml hv
  obtain ⟨rfl, hKn, hP⟩ := hv
  have hx := B.exec
  have hb := B.bytes
  have hr := B.returns
  have hts := atoms_spec (ws := k_Md_firstChange :: gt) B.pre
  have hg : ∀ w ∈ gt, w.before _ s = true := fun w h => hts w (List.mem_cons_of_mem _ h)
  have hown : s.vm.findClass R_Md = some m.cls := findClass_of_methodNamed B.named
  have hlocks := B.notSynchronized
  have hK := hKn.1
  have hl := lv_entry ([.ref a, .int (nI j), .int t, .int u]) (n := 9) (Nat.le_of_ble_eq_true rfl)
  rw [lg_entry_eq]
  generalize (lg_sl ([.ref a, .int (nI j), .int t, .int u]) ++ List.replicate (9 - (lg_sl ([.ref a, .int (nI j), .int t, .int u])).length) Slot.unset).toArray = ls at hl ⊢
  have hl : lv_has ls 9 [(0, .ref a), (1, .int (nI j)), (2, .int t), (3, .int u)] := hl
  have hS : va_S (blk a 15) s.heap s.heap [] := va_S.rf
  have hD : va_D (blk a 15) (wMo cI cJ cZ a code kn ed ct ti nm xa xb ma it vs se sm rs wk ors owk) := (blk_D (wMo_in))
  have key_227 : ∀ (k : Nat) (i : Nat) (be : Int32) (mc : Nat) (it : Nat → Int32) (vs : Nat → Int32) (se : Nat → Int32) (sm : Int64) (rs : Nat → Int64) (wk : Nat → Int32) (ors : Nat → Int64) (owk : Nat → Int32) (H : Heap) (locs : List Loc) (ls : Array Slot), i + k = n2 → g_Mo_firstChange_2_227 kn ti n j t u k i be mc it vs se sm rs wk ors owk = R → lv_has ls 9 [(5, .int (nI i)), (4, .int be), (0, .ref a), (1, .int (nI j)), (2, .int t), (3, .int u)] → va_P D cls (wMo cI cJ cZ a ((f_Mo_lacksTwo kn j t u).2) kn ed ct ti nm xa xb (nI mc) it vs se sm rs wk ors owk) H → va_S (blk a 15) s.heap H locs → W p l e (headSpec (k_Md_firstChange :: gt) rm_Md_firstChange).room s m ([.ref a, .int (nI j), .int t, .int u] : List Value).toArray below meth c H locs 0 0 (MQ below (Qd (blk a 15) (some (.int R.1)) (fun H => va_P D cls (wMo cI cJ cZ a R.2.1 kn ed ct ti nm xa xb (nI R.2.2.1) R.2.2.2.1 R.2.2.2.2.1 R.2.2.2.2.2.1 R.2.2.2.2.2.2.1 R.2.2.2.2.2.2.2.1 R.2.2.2.2.2.2.2.2.1 R.2.2.2.2.2.2.2.2.2.1 R.2.2.2.2.2.2.2.2.2.2) H)) ([.ref a, .int (nI j), .int t, .int u] : List Value).toArray s 0 0 (blk a 15)) (F0 m 227 ls []) := by
    intro k
    induction k with
    | zero =>
      intro i be mc it vs se sm rs wk ors owk H locs ls hi hR hl hP hS
      have hR : ((be, (f_Mo_lacksTwo kn j t u).2, mc, it, vs, se, sm, rs, wk, ors, owk)) = R := hR
      have hD : va_D (blk a 15) (wMo cI cJ cZ a ((f_Mo_lacksTwo kn j t u).2) kn ed ct ti nm xa xb (nI mc) it vs se sm rs wk ors owk) := (blk_D (wMo_in))
      refine lv_iload hx hb d_Md_firstChange_227 (lv_at hl 0 rfl) ?_
      refine lv_aload_n hx hb d_Md_firstChange_229 rfl (lv_at hl 2 rfl) ?_
      refine va_get (D := D) (ci := 9) (v := .ref (a + 3)) (C := R_Md) (T := F_Md) (N := 17) hx hb hg in_Md hown hK hP 0 rfl rfl 3 (Nat.le_of_ble_eq_true rfl) (hg _ tw_709) (fun _ h9 => h9) rfl d_Md_firstChange_230 ?_
      refine lv_iload_n hx hb d_Md_firstChange_233 rfl (lv_at hl 3 rfl) ?_
      refine lv_iconst (v := 4) hx hb d_Md_firstChange_234 (by decide) ?_
      refine lv_iadd hx hb d_Md_firstChange_235 ?_
      refine lv_topi (fun z9 e_z9 => ?_)
      obtain rfl : z9 = nI (j + 4) := by rw [e_z9]; exact (nI_add j 4)
      refine ep_iald hx hb hK hP 3 0 rfl rfl (i := (j + 4)) (by omega) (by decide) d_Md_firstChange_236 ?_
      refine lv_topi (fun z9 e_z9 => ?_)
      obtain rfl : z9 = nI n2 := by rw [e_z9]; exact hct2
      refine lv_icmp_ge (tgt := 305) hx hb d_Md_firstChange_237 (by decide) (fun hc => ?_) (fun hc => False.elim (by have hc : ¬ (n2 ≤ i) := fun h => hc (by exact (nI_leI (a := n2) (b := i) (by omega) (by omega)).mpr h); omega))
      refine lv_iload hx hb d_Md_firstChange_305 (lv_at hl 1 rfl) ?_
      subst hR
      exact W.iret (v := be) hx hb hr (fun t9 ht hW => ⟨rfl, hS.F ht, by rw [ht]; exact hP⟩) hS.2.2 d_Md_firstChange_307
    | succ k ih =>
      intro i be mc it vs se sm rs wk ors owk H locs ls hi hR hl hP hS
      have hR : (if ¬ (f_Mo_find ti n j (ti (32 * (j + 4) + i))) = -1 then (g_Mo_firstChange_2_227 kn ti n j t u k (i + 1) be mc it vs se sm rs wk ors owk) else (if (ti (32 * (j + 4) + i)) < t then (g_Mo_firstChange_2_227 kn ti n j t u k (i + 1) be mc it vs se sm rs wk ors owk) else (if u < (ti (32 * (j + 4) + i)) then (g_Mo_firstChange_2_227 kn ti n j t u k (i + 1) be mc it vs se sm rs wk ors owk) else (if be = 0 then (g_Mo_firstChange_2_227 kn ti n j t u k (i + 1) (ti (32 * (j + 4) + i)) mc it vs se sm rs wk ors owk) else (if be ≤ (ti (32 * (j + 4) + i)) then (g_Mo_firstChange_2_227 kn ti n j t u k (i + 1) be mc it vs se sm rs wk ors owk) else (g_Mo_firstChange_2_227 kn ti n j t u k (i + 1) (ti (32 * (j + 4) + i)) mc it vs se sm rs wk ors owk)))))) = R := hR
      have hD : va_D (blk a 15) (wMo cI cJ cZ a ((f_Mo_lacksTwo kn j t u).2) kn ed ct ti nm xa xb (nI mc) it vs se sm rs wk ors owk) := (blk_D (wMo_in))
      refine lv_iload hx hb d_Md_firstChange_227 (lv_at hl 0 rfl) ?_
      refine lv_aload_n hx hb d_Md_firstChange_229 rfl (lv_at hl 2 rfl) ?_
      refine va_get (D := D) (ci := 9) (v := .ref (a + 3)) (C := R_Md) (T := F_Md) (N := 17) hx hb hg in_Md hown hK hP 0 rfl rfl 3 (Nat.le_of_ble_eq_true rfl) (hg _ tw_709) (fun _ h9 => h9) rfl d_Md_firstChange_230 ?_
      refine lv_iload_n hx hb d_Md_firstChange_233 rfl (lv_at hl 3 rfl) ?_
      refine lv_iconst (v := 4) hx hb d_Md_firstChange_234 (by decide) ?_
      refine lv_iadd hx hb d_Md_firstChange_235 ?_
      refine lv_topi (fun z9 e_z9 => ?_)
      obtain rfl : z9 = nI (j + 4) := by rw [e_z9]; exact (nI_add j 4)
      refine ep_iald hx hb hK hP 3 0 rfl rfl (i := (j + 4)) (by omega) (by decide) d_Md_firstChange_236 ?_
      refine lv_topi (fun z9 e_z9 => ?_)
      obtain rfl : z9 = nI n2 := by rw [e_z9]; exact hct2
      refine lv_icmp_ge (tgt := 305) hx hb d_Md_firstChange_237 (by decide) (fun hc => False.elim (by have hc := (nI_leI (a := n2) (b := i) (by omega) (by omega)).mp hc; omega)) (fun hc => ?_)
      refine lv_aload_n hx hb d_Md_firstChange_240 rfl (lv_at hl 2 rfl) ?_
      refine va_get (D := D) (ci := 9) (v := .ref (a + 4)) (C := R_Md) (T := F_Md) (N := 17) hx hb hg in_Md hown hK hP 0 rfl rfl 4 (Nat.le_of_ble_eq_true rfl) (hg _ tw_710) (fun _ h9 => h9) rfl d_Md_firstChange_241 ?_
      refine lv_bipush (v := 32) hx hb d_Md_firstChange_244 (by decide) ?_
      refine lv_iload_n hx hb d_Md_firstChange_246 rfl (lv_at hl 3 rfl) ?_
      refine lv_iconst (v := 4) hx hb d_Md_firstChange_247 (by decide) ?_
      refine lv_iadd hx hb d_Md_firstChange_248 ?_
      refine lv_topi (fun z9 e_z9 => ?_)
      obtain rfl : z9 = nI (j + 4) := by rw [e_z9]; exact (nI_add j 4)
      refine lv_imul hx hb d_Md_firstChange_249 ?_
      refine lv_topi (fun z9 e_z9 => ?_)
      obtain rfl : z9 = nI (32 * (j + 4)) := by rw [e_z9]; exact (nI_mul 32 (j + 4))
      refine lv_iload hx hb d_Md_firstChange_250 (lv_at hl 0 rfl) ?_
      refine lv_iadd hx hb d_Md_firstChange_252 ?_
      refine lv_topi (fun z9 e_z9 => ?_)
      obtain rfl : z9 = nI (32 * (j + 4) + i) := by rw [e_z9]; exact (nI_add (32 * (j + 4)) i)
      refine ep_iald hx hb hK hP 4 0 rfl rfl (i := (32 * (j + 4) + i)) (by omega) (by decide) d_Md_firstChange_253 ?_
      refine lv_istore (lv' := [(6, .int (ti (32 * (j + 4) + i))), (5, .int (nI i)), (4, .int be), (0, .ref a), (1, .int (nI j)), (2, .int t), (3, .int u)]) hx hb d_Md_firstChange_254 hl (by decide) rfl (fun ls hl => ?_)
      refine lv_aload_n hx hb d_Md_firstChange_256 rfl (lv_at hl 3 rfl) ?_
      refine lv_iload_n hx hb d_Md_firstChange_257 rfl (lv_at hl 4 rfl) ?_
      refine lv_iload hx hb d_Md_firstChange_258 (lv_at hl 0 rfl) ?_
      refine ep_callP (W.runV (As := [.int (nI j), .int (ti (32 * (j + 4) + i))]) (rest := []) ⟨hx, hb, hml, hown, hg⟩ (m_Mo_find l D cI cJ cZ cO a ((f_Mo_lacksTwo kn j t u).2) kn ed ct ti nm xa xb (nI mc) it vs se sm rs wk ors owk n j (ti (32 * (j + 4) + i)) (by omega) hct (by omega) _ rfl) (ep_cwV 2 hg tw_785 tw_787 ts_10 tw_12 tk_Md_find rfl rfl (by decide +kernel) ⟨(Nat.le_of_ble_eq_true rfl), (Nat.le_of_ble_eq_true rfl)⟩) ⟨ep_blind, va_recv (q0 := 0) (ci := 9) hK hP rfl rfl, ep_pre hKn (hP)⟩ rfl rfl hl.1 rfl (lv_room (Nat.le_of_ble_eq_true rfl)) d_Md_firstChange_260 ⟨Nat.zero_le _, Nat.zero_le _⟩) ?_
      refine W.eq (g2 := F0 m 263 ls [.int (f_Mo_find ti n j (ti (32 * (j + 4) + i)))]) rfl ?_
      refine lv_topi (fun z8 e_z8 => ?_)
      obtain rfl : z8 = oI (¬ (f_Mo_find ti n j (ti (32 * (j + 4) + i))) = -1) ((f_Mo_find ti n j (ti (32 * (j + 4) + i))).toNatClampNeg) := by rw [e_z8]; exact (oI_of (fi_at _ _ _ _ (by omega)))
      by_cases hc1 : ¬ (f_Mo_find ti n j (ti (32 * (j + 4) + i))) = -1
      · rw [show oI (¬ (f_Mo_find ti n j (ti (32 * (j + 4) + i))) = -1) ((f_Mo_find ti n j (ti (32 * (j + 4) + i))).toNatClampNeg) = nI ((f_Mo_find ti n j (ti (32 * (j + 4) + i))).toNatClampNeg) from if_pos hc1]
        have hp9 : (f_Mo_find ti n j (ti (32 * (j + 4) + i))).toNatClampNeg < n := fi_lt _ _ _ _ (by omega) hc1
        refine lv_if_ge (tgt := 295) hx hb d_Md_firstChange_263 (by decide) (fun hc => ?_) (fun hc => False.elim (by have hc : ¬ (0 ≤ (f_Mo_find ti n j (ti (32 * (j + 4) + i))).toNatClampNeg) := fun h => hc (by exact (nI_leI (a := 0) (b := (f_Mo_find ti n j (ti (32 * (j + 4) + i))).toNatClampNeg) (by omega) (by omega)).mpr h); omega))
        refine lv_iload hx hb d_Md_firstChange_295 (lv_at hl 2 rfl) ?_
        refine lv_istore (lv' := [(4, .int be), (6, .int (ti (32 * (j + 4) + i))), (5, .int (nI i)), (0, .ref a), (1, .int (nI j)), (2, .int t), (3, .int u)]) hx hb d_Md_firstChange_297 hl (by decide) rfl (fun ls hl => ?_)
        refine lv_iinc (k := 2) (lv' := [(5, .int (nI (i + 1))), (4, .int be), (6, .int (ti (32 * (j + 4) + i))), (0, .ref a), (1, .int (nI j)), (2, .int t), (3, .int u)]) hx hb d_Md_firstChange_299 hl rfl (inc1 _) (by decide) rfl (fun ls hl => ?_)
        refine lv_goto (tgt := 227) hx hb d_Md_firstChange_302 (by decide) ?_
        rw [if_pos hc1] at hR
        exact ih (i + 1) be mc it vs se sm rs wk ors owk _ _ ls (by omega) hR (lv_sub hl [0, 1, 3, 4, 5, 6] rfl) hP hS
      · rw [show oI (¬ (f_Mo_find ti n j (ti (32 * (j + 4) + i))) = -1) ((f_Mo_find ti n j (ti (32 * (j + 4) + i))).toNatClampNeg) = -1 from if_neg hc1]
        refine lv_if_ge (tgt := 295) hx hb d_Md_firstChange_263 (by decide) (fun hc => False.elim (by revert hc; decide)) (fun hc => ?_)
        refine lv_iload hx hb d_Md_firstChange_266 (lv_at hl 0 rfl) ?_
        refine lv_iload_n hx hb d_Md_firstChange_268 rfl (lv_at hl 5 rfl) ?_
        refine lv_icmp_lt (tgt := 295) hx hb d_Md_firstChange_269 (by decide) (fun hc2 => ?_) (fun hc2 => ?_)
        · have hc2 : (ti (32 * (j + 4) + i)) < t := hc2
          refine lv_iload hx hb d_Md_firstChange_295 (lv_at hl 2 rfl) ?_
          refine lv_istore (lv' := [(4, .int be), (6, .int (ti (32 * (j + 4) + i))), (5, .int (nI i)), (0, .ref a), (1, .int (nI j)), (2, .int t), (3, .int u)]) hx hb d_Md_firstChange_297 hl (by decide) rfl (fun ls hl => ?_)
          refine lv_iinc (k := 2) (lv' := [(5, .int (nI (i + 1))), (4, .int be), (6, .int (ti (32 * (j + 4) + i))), (0, .ref a), (1, .int (nI j)), (2, .int t), (3, .int u)]) hx hb d_Md_firstChange_299 hl rfl (inc1 _) (by decide) rfl (fun ls hl => ?_)
          refine lv_goto (tgt := 227) hx hb d_Md_firstChange_302 (by decide) ?_
          rw [if_neg hc1, if_pos hc2] at hR
          exact ih (i + 1) be mc it vs se sm rs wk ors owk _ _ ls (by omega) hR (lv_sub hl [0, 1, 3, 4, 5, 6] rfl) hP hS
        · have hc2 : ¬ ((ti (32 * (j + 4) + i)) < t) := hc2
          refine lv_iload hx hb d_Md_firstChange_272 (lv_at hl 0 rfl) ?_
          refine lv_iload_n hx hb d_Md_firstChange_274 rfl (lv_at hl 6 rfl) ?_
          refine lv_icmp_gt (tgt := 295) hx hb d_Md_firstChange_275 (by decide) (fun hc3 => ?_) (fun hc3 => ?_)
          · have hc3 : u < (ti (32 * (j + 4) + i)) := hc3
            refine lv_iload hx hb d_Md_firstChange_295 (lv_at hl 2 rfl) ?_
            refine lv_istore (lv' := [(4, .int be), (6, .int (ti (32 * (j + 4) + i))), (5, .int (nI i)), (0, .ref a), (1, .int (nI j)), (2, .int t), (3, .int u)]) hx hb d_Md_firstChange_297 hl (by decide) rfl (fun ls hl => ?_)
            refine lv_iinc (k := 2) (lv' := [(5, .int (nI (i + 1))), (4, .int be), (6, .int (ti (32 * (j + 4) + i))), (0, .ref a), (1, .int (nI j)), (2, .int t), (3, .int u)]) hx hb d_Md_firstChange_299 hl rfl (inc1 _) (by decide) rfl (fun ls hl => ?_)
            refine lv_goto (tgt := 227) hx hb d_Md_firstChange_302 (by decide) ?_
            rw [if_neg hc1, if_neg hc2, if_pos hc3] at hR
            exact ih (i + 1) be mc it vs se sm rs wk ors owk _ _ ls (by omega) hR (lv_sub hl [0, 1, 3, 4, 5, 6] rfl) hP hS
          · have hc3 : ¬ (u < (ti (32 * (j + 4) + i))) := hc3
            refine lv_iload hx hb d_Md_firstChange_278 (lv_at hl 2 rfl) ?_
            refine lv_if_eq (tgt := 290) hx hb d_Md_firstChange_280 (by decide) (fun hc4 => ?_) (fun hc4 => ?_)
            · have hc4 : be = 0 := hc4
              refine lv_iload hx hb d_Md_firstChange_290 (lv_at hl 0 rfl) ?_
              refine lv_goto (tgt := 297) hx hb d_Md_firstChange_292 (by decide) ?_
              refine lv_istore (lv' := [(4, .int (ti (32 * (j + 4) + i))), (6, .int (ti (32 * (j + 4) + i))), (5, .int (nI i)), (0, .ref a), (1, .int (nI j)), (2, .int t), (3, .int u)]) hx hb d_Md_firstChange_297 hl (by decide) rfl (fun ls hl => ?_)
              refine lv_iinc (k := 2) (lv' := [(5, .int (nI (i + 1))), (4, .int (ti (32 * (j + 4) + i))), (6, .int (ti (32 * (j + 4) + i))), (0, .ref a), (1, .int (nI j)), (2, .int t), (3, .int u)]) hx hb d_Md_firstChange_299 hl rfl (inc1 _) (by decide) rfl (fun ls hl => ?_)
              refine lv_goto (tgt := 227) hx hb d_Md_firstChange_302 (by decide) ?_
              rw [if_neg hc1, if_neg hc2, if_neg hc3, if_pos hc4] at hR
              exact ih (i + 1) (ti (32 * (j + 4) + i)) mc it vs se sm rs wk ors owk _ _ ls (by omega) hR (lv_sub hl [0, 1, 3, 4, 5, 6] rfl) hP hS
            · have hc4 : ¬ (be = 0) := hc4
              refine lv_iload hx hb d_Md_firstChange_283 (lv_at hl 0 rfl) ?_
              refine lv_iload hx hb d_Md_firstChange_285 (lv_at hl 2 rfl) ?_
              refine lv_icmp_ge (tgt := 295) hx hb d_Md_firstChange_287 (by decide) (fun hc5 => ?_) (fun hc5 => ?_)
              · have hc5 : be ≤ (ti (32 * (j + 4) + i)) := hc5
                refine lv_iload hx hb d_Md_firstChange_295 (lv_at hl 2 rfl) ?_
                refine lv_istore (lv' := [(4, .int be), (6, .int (ti (32 * (j + 4) + i))), (5, .int (nI i)), (0, .ref a), (1, .int (nI j)), (2, .int t), (3, .int u)]) hx hb d_Md_firstChange_297 hl (by decide) rfl (fun ls hl => ?_)
                refine lv_iinc (k := 2) (lv' := [(5, .int (nI (i + 1))), (4, .int be), (6, .int (ti (32 * (j + 4) + i))), (0, .ref a), (1, .int (nI j)), (2, .int t), (3, .int u)]) hx hb d_Md_firstChange_299 hl rfl (inc1 _) (by decide) rfl (fun ls hl => ?_)
                refine lv_goto (tgt := 227) hx hb d_Md_firstChange_302 (by decide) ?_
                rw [if_neg hc1, if_neg hc2, if_neg hc3, if_neg hc4, if_pos hc5] at hR
                exact ih (i + 1) be mc it vs se sm rs wk ors owk _ _ ls (by omega) hR (lv_sub hl [0, 1, 3, 4, 5, 6] rfl) hP hS
              · have hc5 : ¬ (be ≤ (ti (32 * (j + 4) + i))) := hc5
                refine lv_iload hx hb d_Md_firstChange_290 (lv_at hl 0 rfl) ?_
                refine lv_goto (tgt := 297) hx hb d_Md_firstChange_292 (by decide) ?_
                refine lv_istore (lv' := [(4, .int (ti (32 * (j + 4) + i))), (6, .int (ti (32 * (j + 4) + i))), (5, .int (nI i)), (0, .ref a), (1, .int (nI j)), (2, .int t), (3, .int u)]) hx hb d_Md_firstChange_297 hl (by decide) rfl (fun ls hl => ?_)
                refine lv_iinc (k := 2) (lv' := [(5, .int (nI (i + 1))), (4, .int (ti (32 * (j + 4) + i))), (6, .int (ti (32 * (j + 4) + i))), (0, .ref a), (1, .int (nI j)), (2, .int t), (3, .int u)]) hx hb d_Md_firstChange_299 hl rfl (inc1 _) (by decide) rfl (fun ls hl => ?_)
                refine lv_goto (tgt := 227) hx hb d_Md_firstChange_302 (by decide) ?_
                rw [if_neg hc1, if_neg hc2, if_neg hc3, if_neg hc4, if_neg hc5] at hR
                exact ih (i + 1) (ti (32 * (j + 4) + i)) mc it vs se sm rs wk ors owk _ _ ls (by omega) hR (lv_sub hl [0, 1, 3, 4, 5, 6] rfl) hP hS
  have key_97 : ∀ (k : Nat) (i : Nat) (be : Int32) (mc : Nat) (it : Nat → Int32) (vs : Nat → Int32) (se : Nat → Int32) (sm : Int64) (rs : Nat → Int64) (wk : Nat → Int32) (ors : Nat → Int64) (owk : Nat → Int32) (H : Heap) (locs : List Loc) (ls : Array Slot), i + k = n → g_Mo_firstChange_2_97 kn ti n n2 j t u k i be mc it vs se sm rs wk ors owk = R → lv_has ls 9 [(5, .int (nI i)), (4, .int be), (0, .ref a), (1, .int (nI j)), (2, .int t), (3, .int u)] → va_P D cls (wMo cI cJ cZ a ((f_Mo_lacksTwo kn j t u).2) kn ed ct ti nm xa xb (nI mc) it vs se sm rs wk ors owk) H → va_S (blk a 15) s.heap H locs → W p l e (headSpec (k_Md_firstChange :: gt) rm_Md_firstChange).room s m ([.ref a, .int (nI j), .int t, .int u] : List Value).toArray below meth c H locs 0 0 (MQ below (Qd (blk a 15) (some (.int R.1)) (fun H => va_P D cls (wMo cI cJ cZ a R.2.1 kn ed ct ti nm xa xb (nI R.2.2.1) R.2.2.2.1 R.2.2.2.2.1 R.2.2.2.2.2.1 R.2.2.2.2.2.2.1 R.2.2.2.2.2.2.2.1 R.2.2.2.2.2.2.2.2.1 R.2.2.2.2.2.2.2.2.2.1 R.2.2.2.2.2.2.2.2.2.2) H)) ([.ref a, .int (nI j), .int t, .int u] : List Value).toArray s 0 0 (blk a 15)) (F0 m 97 ls []) := by
    intro k
    induction k with
    | zero =>
      intro i be mc it vs se sm rs wk ors owk H locs ls hi hR hl hP hS
      have hR : (g_Mo_firstChange_2_227 kn ti n j t u n2 0 be mc it vs se sm rs wk ors owk) = R := hR
      have hD : va_D (blk a 15) (wMo cI cJ cZ a ((f_Mo_lacksTwo kn j t u).2) kn ed ct ti nm xa xb (nI mc) it vs se sm rs wk ors owk) := (blk_D (wMo_in))
      refine lv_iload hx hb d_Md_firstChange_97 (lv_at hl 0 rfl) ?_
      refine lv_aload_n hx hb d_Md_firstChange_99 rfl (lv_at hl 2 rfl) ?_
      refine va_get (D := D) (ci := 9) (v := .ref (a + 3)) (C := R_Md) (T := F_Md) (N := 17) hx hb hg in_Md hown hK hP 0 rfl rfl 3 (Nat.le_of_ble_eq_true rfl) (hg _ tw_709) (fun _ h9 => h9) rfl d_Md_firstChange_100 ?_
      refine lv_iload_n hx hb d_Md_firstChange_103 rfl (lv_at hl 3 rfl) ?_
      refine ep_iald hx hb hK hP 3 0 rfl rfl (i := j) (by omega) (by decide) d_Md_firstChange_104 ?_
      refine lv_topi (fun z9 e_z9 => ?_)
      obtain rfl : z9 = nI n := by rw [e_z9]; exact hct
      refine lv_icmp_ge (tgt := 224) hx hb d_Md_firstChange_105 (by decide) (fun hc => ?_) (fun hc => False.elim (by have hc : ¬ (n ≤ i) := fun h => hc (by exact (nI_leI (a := n) (b := i) (by omega) (by omega)).mpr h); omega))
      refine lv_iconst (v := 0) hx hb d_Md_firstChange_224 (by decide) ?_
      refine lv_istore (lv' := [(5, .int 0), (4, .int be), (0, .ref a), (1, .int (nI j)), (2, .int t), (3, .int u)]) hx hb d_Md_firstChange_225 hl (by decide) rfl (fun ls hl => ?_)
      exact key_227 n2 0 be mc it vs se sm rs wk ors owk _ _ ls (by omega) hR hl hP hS
    | succ k ih =>
      intro i be mc it vs se sm rs wk ors owk H locs ls hi hR hl hP hS
      have hR : (if ¬ (f_Mo_find ti n2 (j + 4) (ti (32 * j + i))) = -1 then (if (lg_cmp (ors ((f_Mo_find ti n2 (j + 4) (ti (32 * j + i))).toNatClampNeg)) (rs i)) = 0 then (if (owk ((f_Mo_find ti n2 (j + 4) (ti (32 * j + i))).toNatClampNeg)) = (wk i) then (g_Mo_firstChange_2_97 kn ti n n2 j t u k (i + 1) be mc it vs se sm rs wk ors owk) else (if (ti (32 * j + i)) < t then (g_Mo_firstChange_2_97 kn ti n n2 j t u k (i + 1) be mc it vs se sm rs wk ors owk) else (if u < (ti (32 * j + i)) then (g_Mo_firstChange_2_97 kn ti n n2 j t u k (i + 1) be mc it vs se sm rs wk ors owk) else (if be = 0 then (g_Mo_firstChange_2_97 kn ti n n2 j t u k (i + 1) (ti (32 * j + i)) mc it vs se sm rs wk ors owk) else (if be ≤ (ti (32 * j + i)) then (g_Mo_firstChange_2_97 kn ti n n2 j t u k (i + 1) be mc it vs se sm rs wk ors owk) else (g_Mo_firstChange_2_97 kn ti n n2 j t u k (i + 1) (ti (32 * j + i)) mc it vs se sm rs wk ors owk)))))) else (if (ti (32 * j + i)) < t then (g_Mo_firstChange_2_97 kn ti n n2 j t u k (i + 1) be mc it vs se sm rs wk ors owk) else (if u < (ti (32 * j + i)) then (g_Mo_firstChange_2_97 kn ti n n2 j t u k (i + 1) be mc it vs se sm rs wk ors owk) else (if be = 0 then (g_Mo_firstChange_2_97 kn ti n n2 j t u k (i + 1) (ti (32 * j + i)) mc it vs se sm rs wk ors owk) else (if be ≤ (ti (32 * j + i)) then (g_Mo_firstChange_2_97 kn ti n n2 j t u k (i + 1) be mc it vs se sm rs wk ors owk) else (g_Mo_firstChange_2_97 kn ti n n2 j t u k (i + 1) (ti (32 * j + i)) mc it vs se sm rs wk ors owk)))))) else (if (ti (32 * j + i)) < t then (g_Mo_firstChange_2_97 kn ti n n2 j t u k (i + 1) be mc it vs se sm rs wk ors owk) else (if u < (ti (32 * j + i)) then (g_Mo_firstChange_2_97 kn ti n n2 j t u k (i + 1) be mc it vs se sm rs wk ors owk) else (if be = 0 then (g_Mo_firstChange_2_97 kn ti n n2 j t u k (i + 1) (ti (32 * j + i)) mc it vs se sm rs wk ors owk) else (if be ≤ (ti (32 * j + i)) then (g_Mo_firstChange_2_97 kn ti n n2 j t u k (i + 1) be mc it vs se sm rs wk ors owk) else (g_Mo_firstChange_2_97 kn ti n n2 j t u k (i + 1) (ti (32 * j + i)) mc it vs se sm rs wk ors owk)))))) = R := hR
      have hD : va_D (blk a 15) (wMo cI cJ cZ a ((f_Mo_lacksTwo kn j t u).2) kn ed ct ti nm xa xb (nI mc) it vs se sm rs wk ors owk) := (blk_D (wMo_in))
      refine lv_iload hx hb d_Md_firstChange_97 (lv_at hl 0 rfl) ?_
      refine lv_aload_n hx hb d_Md_firstChange_99 rfl (lv_at hl 2 rfl) ?_
      refine va_get (D := D) (ci := 9) (v := .ref (a + 3)) (C := R_Md) (T := F_Md) (N := 17) hx hb hg in_Md hown hK hP 0 rfl rfl 3 (Nat.le_of_ble_eq_true rfl) (hg _ tw_709) (fun _ h9 => h9) rfl d_Md_firstChange_100 ?_
      refine lv_iload_n hx hb d_Md_firstChange_103 rfl (lv_at hl 3 rfl) ?_
      refine ep_iald hx hb hK hP 3 0 rfl rfl (i := j) (by omega) (by decide) d_Md_firstChange_104 ?_
      refine lv_topi (fun z9 e_z9 => ?_)
      obtain rfl : z9 = nI n := by rw [e_z9]; exact hct
      refine lv_icmp_ge (tgt := 224) hx hb d_Md_firstChange_105 (by decide) (fun hc => False.elim (by have hc := (nI_leI (a := n) (b := i) (by omega) (by omega)).mp hc; omega)) (fun hc => ?_)
      refine lv_aload_n hx hb d_Md_firstChange_108 rfl (lv_at hl 2 rfl) ?_
      refine va_get (D := D) (ci := 9) (v := .ref (a + 4)) (C := R_Md) (T := F_Md) (N := 17) hx hb hg in_Md hown hK hP 0 rfl rfl 4 (Nat.le_of_ble_eq_true rfl) (hg _ tw_710) (fun _ h9 => h9) rfl d_Md_firstChange_109 ?_
      refine lv_bipush (v := 32) hx hb d_Md_firstChange_112 (by decide) ?_
      refine lv_iload_n hx hb d_Md_firstChange_114 rfl (lv_at hl 3 rfl) ?_
      refine lv_imul hx hb d_Md_firstChange_115 ?_
      refine lv_topi (fun z9 e_z9 => ?_)
      obtain rfl : z9 = nI (32 * j) := by rw [e_z9]; exact (nI_mul 32 j)
      refine lv_iload hx hb d_Md_firstChange_116 (lv_at hl 0 rfl) ?_
      refine lv_iadd hx hb d_Md_firstChange_118 ?_
      refine lv_topi (fun z9 e_z9 => ?_)
      obtain rfl : z9 = nI (32 * j + i) := by rw [e_z9]; exact (nI_add (32 * j) i)
      refine ep_iald hx hb hK hP 4 0 rfl rfl (i := (32 * j + i)) (by omega) (by decide) d_Md_firstChange_119 ?_
      refine lv_istore (lv' := [(6, .int (ti (32 * j + i))), (5, .int (nI i)), (4, .int be), (0, .ref a), (1, .int (nI j)), (2, .int t), (3, .int u)]) hx hb d_Md_firstChange_120 hl (by decide) rfl (fun ls hl => ?_)
      refine lv_aload_n hx hb d_Md_firstChange_122 rfl (lv_at hl 3 rfl) ?_
      refine lv_iload_n hx hb d_Md_firstChange_123 rfl (lv_at hl 4 rfl) ?_
      refine lv_iconst (v := 4) hx hb d_Md_firstChange_124 (by decide) ?_
      refine lv_iadd hx hb d_Md_firstChange_125 ?_
      refine lv_topi (fun z9 e_z9 => ?_)
      obtain rfl : z9 = nI (j + 4) := by rw [e_z9]; exact (nI_add j 4)
      refine lv_iload hx hb d_Md_firstChange_126 (lv_at hl 0 rfl) ?_
      refine ep_callP (W.runV (As := [.int (nI (j + 4)), .int (ti (32 * j + i))]) (rest := []) ⟨hx, hb, hml, hown, hg⟩ (m_Mo_find l D cI cJ cZ cO a ((f_Mo_lacksTwo kn j t u).2) kn ed ct ti nm xa xb (nI mc) it vs se sm rs wk ors owk n2 (j + 4) (ti (32 * j + i)) (by omega) hct2 (by omega) _ rfl) (ep_cwV 2 hg tw_785 tw_787 ts_10 tw_12 tk_Md_find rfl rfl (by decide +kernel) ⟨(Nat.le_of_ble_eq_true rfl), (Nat.le_of_ble_eq_true rfl)⟩) ⟨ep_blind, va_recv (q0 := 0) (ci := 9) hK hP rfl rfl, ep_pre hKn (hP)⟩ rfl rfl hl.1 rfl (lv_room (Nat.le_of_ble_eq_true rfl)) d_Md_firstChange_128 ⟨Nat.zero_le _, Nat.zero_le _⟩) ?_
      refine W.eq (g2 := F0 m 131 ls [.int (f_Mo_find ti n2 (j + 4) (ti (32 * j + i)))]) rfl ?_
      refine lv_topi (fun z8 e_z8 => ?_)
      obtain rfl : z8 = oI (¬ (f_Mo_find ti n2 (j + 4) (ti (32 * j + i))) = -1) ((f_Mo_find ti n2 (j + 4) (ti (32 * j + i))).toNatClampNeg) := by rw [e_z8]; exact (oI_of (fi_at _ _ _ _ (by omega)))
      by_cases hc6 : ¬ (f_Mo_find ti n2 (j + 4) (ti (32 * j + i))) = -1
      · rw [show oI (¬ (f_Mo_find ti n2 (j + 4) (ti (32 * j + i))) = -1) ((f_Mo_find ti n2 (j + 4) (ti (32 * j + i))).toNatClampNeg) = nI ((f_Mo_find ti n2 (j + 4) (ti (32 * j + i))).toNatClampNeg) from if_pos hc6]
        have hp9 : (f_Mo_find ti n2 (j + 4) (ti (32 * j + i))).toNatClampNeg < n2 := fi_lt _ _ _ _ (by omega) hc6
        refine lv_istore (lv' := [(7, .int (nI ((f_Mo_find ti n2 (j + 4) (ti (32 * j + i))).toNatClampNeg))), (6, .int (ti (32 * j + i))), (5, .int (nI i)), (4, .int be), (0, .ref a), (1, .int (nI j)), (2, .int t), (3, .int u)]) hx hb d_Md_firstChange_131 hl (by decide) rfl (fun ls hl => ?_)
        refine lv_iload hx hb d_Md_firstChange_133 (lv_at hl 0 rfl) ?_
        refine lv_if_lt (tgt := 173) hx hb d_Md_firstChange_135 (by decide) (fun hc => False.elim (by have hc := (nI_ltI (a := (f_Mo_find ti n2 (j + 4) (ti (32 * j + i))).toNatClampNeg) (b := 0) (by omega) (by omega)).mp hc; omega)) (fun hc => ?_)
        refine lv_aload_n hx hb d_Md_firstChange_138 rfl (lv_at hl 4 rfl) ?_
        refine va_get (D := D) (ci := 9) (v := .ref (a + 13)) (C := R_Md) (T := F_Md) (N := 17) hx hb hg in_Md hown hK hP 0 rfl rfl 15 (Nat.le_of_ble_eq_true rfl) (hg _ tw_721) (fun _ h9 => h9) rfl d_Md_firstChange_139 ?_
        refine lv_iload hx hb d_Md_firstChange_142 (lv_at hl 0 rfl) ?_
        refine ep_lald hx hb hK hP 13 1 rfl rfl (i := ((f_Mo_find ti n2 (j + 4) (ti (32 * j + i))).toNatClampNeg)) (by omega) (by decide) d_Md_firstChange_144 ?_
        refine lv_aload_n hx hb d_Md_firstChange_145 rfl (lv_at hl 4 rfl) ?_
        refine va_get (D := D) (ci := 9) (v := .ref (a + 11)) (C := R_Md) (T := F_Md) (N := 17) hx hb hg in_Md hown hK hP 0 rfl rfl 13 (Nat.le_of_ble_eq_true rfl) (hg _ tw_719) (fun _ h9 => h9) rfl d_Md_firstChange_146 ?_
        refine lv_iload hx hb d_Md_firstChange_149 (lv_at hl 2 rfl) ?_
        refine ep_lald hx hb hK hP 11 1 rfl rfl (i := i) (by omega) (by decide) d_Md_firstChange_151 ?_
        refine W.lcmp hx hb d_Md_firstChange_152 ?_
        refine lv_if_ne (tgt := 173) hx hb d_Md_firstChange_153 (by decide) (fun hc7 => ?_) (fun hc7 => ?_)
        · have hc7 : ¬ ((lg_cmp (ors ((f_Mo_find ti n2 (j + 4) (ti (32 * j + i))).toNatClampNeg)) (rs i)) = 0) := hc7
          refine lv_iconst (v := 1) hx hb d_Md_firstChange_173 (by decide) ?_
          refine lv_goto (tgt := 178) hx hb d_Md_firstChange_174 (by decide) ?_
          refine lv_istore (lv' := [(8, .int 1), (7, .int (nI ((f_Mo_find ti n2 (j + 4) (ti (32 * j + i))).toNatClampNeg))), (6, .int (ti (32 * j + i))), (5, .int (nI i)), (4, .int be), (0, .ref a), (1, .int (nI j)), (2, .int t), (3, .int u)]) hx hb d_Md_firstChange_178 hl (by decide) rfl (fun ls hl => ?_)
          refine lv_iload hx hb d_Md_firstChange_180 (lv_at hl 0 rfl) ?_
          refine lv_if_eq (tgt := 214) hx hb d_Md_firstChange_182 (by decide) (fun hc => False.elim (by revert hc; decide)) (fun hc => ?_)
          refine lv_iload hx hb d_Md_firstChange_185 (lv_at hl 2 rfl) ?_
          refine lv_iload_n hx hb d_Md_firstChange_187 rfl (lv_at hl 7 rfl) ?_
          refine lv_icmp_lt (tgt := 214) hx hb d_Md_firstChange_188 (by decide) (fun hc8 => ?_) (fun hc8 => ?_)
          · have hc8 : (ti (32 * j + i)) < t := hc8
            refine lv_iload hx hb d_Md_firstChange_214 (lv_at hl 4 rfl) ?_
            refine lv_istore (lv' := [(4, .int be), (8, .int 1), (7, .int (nI ((f_Mo_find ti n2 (j + 4) (ti (32 * j + i))).toNatClampNeg))), (6, .int (ti (32 * j + i))), (5, .int (nI i)), (0, .ref a), (1, .int (nI j)), (2, .int t), (3, .int u)]) hx hb d_Md_firstChange_216 hl (by decide) rfl (fun ls hl => ?_)
            refine lv_iinc (k := 4) (lv' := [(5, .int (nI (i + 1))), (4, .int be), (8, .int 1), (7, .int (nI ((f_Mo_find ti n2 (j + 4) (ti (32 * j + i))).toNatClampNeg))), (6, .int (ti (32 * j + i))), (0, .ref a), (1, .int (nI j)), (2, .int t), (3, .int u)]) hx hb d_Md_firstChange_218 hl rfl (inc1 _) (by decide) rfl (fun ls hl => ?_)
            refine lv_goto (tgt := 97) hx hb d_Md_firstChange_221 (by decide) ?_
            rw [if_pos hc6, if_neg hc7, if_pos hc8] at hR
            exact ih (i + 1) be mc it vs se sm rs wk ors owk _ _ ls (by omega) hR (lv_sub hl [0, 1, 5, 6, 7, 8] rfl) hP hS
          · have hc8 : ¬ ((ti (32 * j + i)) < t) := hc8
            refine lv_iload hx hb d_Md_firstChange_191 (lv_at hl 2 rfl) ?_
            refine lv_iload_n hx hb d_Md_firstChange_193 rfl (lv_at hl 8 rfl) ?_
            refine lv_icmp_gt (tgt := 214) hx hb d_Md_firstChange_194 (by decide) (fun hc9 => ?_) (fun hc9 => ?_)
            · have hc9 : u < (ti (32 * j + i)) := hc9
              refine lv_iload hx hb d_Md_firstChange_214 (lv_at hl 4 rfl) ?_
              refine lv_istore (lv' := [(4, .int be), (8, .int 1), (7, .int (nI ((f_Mo_find ti n2 (j + 4) (ti (32 * j + i))).toNatClampNeg))), (6, .int (ti (32 * j + i))), (5, .int (nI i)), (0, .ref a), (1, .int (nI j)), (2, .int t), (3, .int u)]) hx hb d_Md_firstChange_216 hl (by decide) rfl (fun ls hl => ?_)
              refine lv_iinc (k := 4) (lv' := [(5, .int (nI (i + 1))), (4, .int be), (8, .int 1), (7, .int (nI ((f_Mo_find ti n2 (j + 4) (ti (32 * j + i))).toNatClampNeg))), (6, .int (ti (32 * j + i))), (0, .ref a), (1, .int (nI j)), (2, .int t), (3, .int u)]) hx hb d_Md_firstChange_218 hl rfl (inc1 _) (by decide) rfl (fun ls hl => ?_)
              refine lv_goto (tgt := 97) hx hb d_Md_firstChange_221 (by decide) ?_
              rw [if_pos hc6, if_neg hc7, if_neg hc8, if_pos hc9] at hR
              exact ih (i + 1) be mc it vs se sm rs wk ors owk _ _ ls (by omega) hR (lv_sub hl [0, 1, 5, 6, 7, 8] rfl) hP hS
            · have hc9 : ¬ (u < (ti (32 * j + i))) := hc9
              refine lv_iload hx hb d_Md_firstChange_197 (lv_at hl 4 rfl) ?_
              refine lv_if_eq (tgt := 209) hx hb d_Md_firstChange_199 (by decide) (fun hc10 => ?_) (fun hc10 => ?_)
              · have hc10 : be = 0 := hc10
                refine lv_iload hx hb d_Md_firstChange_209 (lv_at hl 2 rfl) ?_
                refine lv_goto (tgt := 216) hx hb d_Md_firstChange_211 (by decide) ?_
                refine lv_istore (lv' := [(4, .int (ti (32 * j + i))), (8, .int 1), (7, .int (nI ((f_Mo_find ti n2 (j + 4) (ti (32 * j + i))).toNatClampNeg))), (6, .int (ti (32 * j + i))), (5, .int (nI i)), (0, .ref a), (1, .int (nI j)), (2, .int t), (3, .int u)]) hx hb d_Md_firstChange_216 hl (by decide) rfl (fun ls hl => ?_)
                refine lv_iinc (k := 4) (lv' := [(5, .int (nI (i + 1))), (4, .int (ti (32 * j + i))), (8, .int 1), (7, .int (nI ((f_Mo_find ti n2 (j + 4) (ti (32 * j + i))).toNatClampNeg))), (6, .int (ti (32 * j + i))), (0, .ref a), (1, .int (nI j)), (2, .int t), (3, .int u)]) hx hb d_Md_firstChange_218 hl rfl (inc1 _) (by decide) rfl (fun ls hl => ?_)
                refine lv_goto (tgt := 97) hx hb d_Md_firstChange_221 (by decide) ?_
                rw [if_pos hc6, if_neg hc7, if_neg hc8, if_neg hc9, if_pos hc10] at hR
                exact ih (i + 1) (ti (32 * j + i)) mc it vs se sm rs wk ors owk _ _ ls (by omega) hR (lv_sub hl [0, 1, 5, 6, 7, 8] rfl) hP hS
              · have hc10 : ¬ (be = 0) := hc10
                refine lv_iload hx hb d_Md_firstChange_202 (lv_at hl 2 rfl) ?_
                refine lv_iload hx hb d_Md_firstChange_204 (lv_at hl 4 rfl) ?_
                refine lv_icmp_ge (tgt := 214) hx hb d_Md_firstChange_206 (by decide) (fun hc11 => ?_) (fun hc11 => ?_)
                · have hc11 : be ≤ (ti (32 * j + i)) := hc11
                  refine lv_iload hx hb d_Md_firstChange_214 (lv_at hl 4 rfl) ?_
                  refine lv_istore (lv' := [(4, .int be), (8, .int 1), (7, .int (nI ((f_Mo_find ti n2 (j + 4) (ti (32 * j + i))).toNatClampNeg))), (6, .int (ti (32 * j + i))), (5, .int (nI i)), (0, .ref a), (1, .int (nI j)), (2, .int t), (3, .int u)]) hx hb d_Md_firstChange_216 hl (by decide) rfl (fun ls hl => ?_)
                  refine lv_iinc (k := 4) (lv' := [(5, .int (nI (i + 1))), (4, .int be), (8, .int 1), (7, .int (nI ((f_Mo_find ti n2 (j + 4) (ti (32 * j + i))).toNatClampNeg))), (6, .int (ti (32 * j + i))), (0, .ref a), (1, .int (nI j)), (2, .int t), (3, .int u)]) hx hb d_Md_firstChange_218 hl rfl (inc1 _) (by decide) rfl (fun ls hl => ?_)
                  refine lv_goto (tgt := 97) hx hb d_Md_firstChange_221 (by decide) ?_
                  rw [if_pos hc6, if_neg hc7, if_neg hc8, if_neg hc9, if_neg hc10, if_pos hc11] at hR
                  exact ih (i + 1) be mc it vs se sm rs wk ors owk _ _ ls (by omega) hR (lv_sub hl [0, 1, 5, 6, 7, 8] rfl) hP hS
                · have hc11 : ¬ (be ≤ (ti (32 * j + i))) := hc11
                  refine lv_iload hx hb d_Md_firstChange_209 (lv_at hl 2 rfl) ?_
                  refine lv_goto (tgt := 216) hx hb d_Md_firstChange_211 (by decide) ?_
                  refine lv_istore (lv' := [(4, .int (ti (32 * j + i))), (8, .int 1), (7, .int (nI ((f_Mo_find ti n2 (j + 4) (ti (32 * j + i))).toNatClampNeg))), (6, .int (ti (32 * j + i))), (5, .int (nI i)), (0, .ref a), (1, .int (nI j)), (2, .int t), (3, .int u)]) hx hb d_Md_firstChange_216 hl (by decide) rfl (fun ls hl => ?_)
                  refine lv_iinc (k := 4) (lv' := [(5, .int (nI (i + 1))), (4, .int (ti (32 * j + i))), (8, .int 1), (7, .int (nI ((f_Mo_find ti n2 (j + 4) (ti (32 * j + i))).toNatClampNeg))), (6, .int (ti (32 * j + i))), (0, .ref a), (1, .int (nI j)), (2, .int t), (3, .int u)]) hx hb d_Md_firstChange_218 hl rfl (inc1 _) (by decide) rfl (fun ls hl => ?_)
                  refine lv_goto (tgt := 97) hx hb d_Md_firstChange_221 (by decide) ?_
                  rw [if_pos hc6, if_neg hc7, if_neg hc8, if_neg hc9, if_neg hc10, if_neg hc11] at hR
                  exact ih (i + 1) (ti (32 * j + i)) mc it vs se sm rs wk ors owk _ _ ls (by omega) hR (lv_sub hl [0, 1, 5, 6, 7, 8] rfl) hP hS
        · have hc7 : (lg_cmp (ors ((f_Mo_find ti n2 (j + 4) (ti (32 * j + i))).toNatClampNeg)) (rs i)) = 0 := hc7
          refine lv_aload_n hx hb d_Md_firstChange_156 rfl (lv_at hl 4 rfl) ?_
          refine va_get (D := D) (ci := 9) (v := .ref (a + 14)) (C := R_Md) (T := F_Md) (N := 17) hx hb hg in_Md hown hK hP 0 rfl rfl 16 (Nat.le_of_ble_eq_true rfl) (hg _ tw_722) (fun _ h9 => h9) rfl d_Md_firstChange_157 ?_
          refine lv_iload hx hb d_Md_firstChange_160 (lv_at hl 0 rfl) ?_
          refine ep_zald hx hb hK hP 14 2 rfl rfl (i := ((f_Mo_find ti n2 (j + 4) (ti (32 * j + i))).toNatClampNeg)) (by omega) (by decide) d_Md_firstChange_162 ?_
          refine lv_aload_n hx hb d_Md_firstChange_163 rfl (lv_at hl 4 rfl) ?_
          refine va_get (D := D) (ci := 9) (v := .ref (a + 12)) (C := R_Md) (T := F_Md) (N := 17) hx hb hg in_Md hown hK hP 0 rfl rfl 14 (Nat.le_of_ble_eq_true rfl) (hg _ tw_720) (fun _ h9 => h9) rfl d_Md_firstChange_164 ?_
          refine lv_iload hx hb d_Md_firstChange_167 (lv_at hl 2 rfl) ?_
          refine ep_zald hx hb hK hP 12 2 rfl rfl (i := i) (by omega) (by decide) d_Md_firstChange_169 ?_
          refine lv_icmp_eq (tgt := 177) hx hb d_Md_firstChange_170 (by decide) (fun hc12 => ?_) (fun hc12 => ?_)
          · have hc12 : (owk ((f_Mo_find ti n2 (j + 4) (ti (32 * j + i))).toNatClampNeg)) = (wk i) := hc12
            refine lv_iconst (v := 0) hx hb d_Md_firstChange_177 (by decide) ?_
            refine lv_istore (lv' := [(8, .int 0), (7, .int (nI ((f_Mo_find ti n2 (j + 4) (ti (32 * j + i))).toNatClampNeg))), (6, .int (ti (32 * j + i))), (5, .int (nI i)), (4, .int be), (0, .ref a), (1, .int (nI j)), (2, .int t), (3, .int u)]) hx hb d_Md_firstChange_178 hl (by decide) rfl (fun ls hl => ?_)
            refine lv_iload hx hb d_Md_firstChange_180 (lv_at hl 0 rfl) ?_
            refine lv_if_eq (tgt := 214) hx hb d_Md_firstChange_182 (by decide) (fun hc => ?_) (fun hc => False.elim (by revert hc; decide))
            refine lv_iload hx hb d_Md_firstChange_214 (lv_at hl 4 rfl) ?_
            refine lv_istore (lv' := [(4, .int be), (8, .int 0), (7, .int (nI ((f_Mo_find ti n2 (j + 4) (ti (32 * j + i))).toNatClampNeg))), (6, .int (ti (32 * j + i))), (5, .int (nI i)), (0, .ref a), (1, .int (nI j)), (2, .int t), (3, .int u)]) hx hb d_Md_firstChange_216 hl (by decide) rfl (fun ls hl => ?_)
            refine lv_iinc (k := 4) (lv' := [(5, .int (nI (i + 1))), (4, .int be), (8, .int 0), (7, .int (nI ((f_Mo_find ti n2 (j + 4) (ti (32 * j + i))).toNatClampNeg))), (6, .int (ti (32 * j + i))), (0, .ref a), (1, .int (nI j)), (2, .int t), (3, .int u)]) hx hb d_Md_firstChange_218 hl rfl (inc1 _) (by decide) rfl (fun ls hl => ?_)
            refine lv_goto (tgt := 97) hx hb d_Md_firstChange_221 (by decide) ?_
            rw [if_pos hc6, if_pos hc7, if_pos hc12] at hR
            exact ih (i + 1) be mc it vs se sm rs wk ors owk _ _ ls (by omega) hR (lv_sub hl [0, 1, 5, 6, 7, 8] rfl) hP hS
          · have hc12 : ¬ ((owk ((f_Mo_find ti n2 (j + 4) (ti (32 * j + i))).toNatClampNeg)) = (wk i)) := hc12
            refine lv_iconst (v := 1) hx hb d_Md_firstChange_173 (by decide) ?_
            refine lv_goto (tgt := 178) hx hb d_Md_firstChange_174 (by decide) ?_
            refine lv_istore (lv' := [(8, .int 1), (7, .int (nI ((f_Mo_find ti n2 (j + 4) (ti (32 * j + i))).toNatClampNeg))), (6, .int (ti (32 * j + i))), (5, .int (nI i)), (4, .int be), (0, .ref a), (1, .int (nI j)), (2, .int t), (3, .int u)]) hx hb d_Md_firstChange_178 hl (by decide) rfl (fun ls hl => ?_)
            refine lv_iload hx hb d_Md_firstChange_180 (lv_at hl 0 rfl) ?_
            refine lv_if_eq (tgt := 214) hx hb d_Md_firstChange_182 (by decide) (fun hc => False.elim (by revert hc; decide)) (fun hc => ?_)
            refine lv_iload hx hb d_Md_firstChange_185 (lv_at hl 2 rfl) ?_
            refine lv_iload_n hx hb d_Md_firstChange_187 rfl (lv_at hl 7 rfl) ?_
            refine lv_icmp_lt (tgt := 214) hx hb d_Md_firstChange_188 (by decide) (fun hc13 => ?_) (fun hc13 => ?_)
            · have hc13 : (ti (32 * j + i)) < t := hc13
              refine lv_iload hx hb d_Md_firstChange_214 (lv_at hl 4 rfl) ?_
              refine lv_istore (lv' := [(4, .int be), (8, .int 1), (7, .int (nI ((f_Mo_find ti n2 (j + 4) (ti (32 * j + i))).toNatClampNeg))), (6, .int (ti (32 * j + i))), (5, .int (nI i)), (0, .ref a), (1, .int (nI j)), (2, .int t), (3, .int u)]) hx hb d_Md_firstChange_216 hl (by decide) rfl (fun ls hl => ?_)
              refine lv_iinc (k := 4) (lv' := [(5, .int (nI (i + 1))), (4, .int be), (8, .int 1), (7, .int (nI ((f_Mo_find ti n2 (j + 4) (ti (32 * j + i))).toNatClampNeg))), (6, .int (ti (32 * j + i))), (0, .ref a), (1, .int (nI j)), (2, .int t), (3, .int u)]) hx hb d_Md_firstChange_218 hl rfl (inc1 _) (by decide) rfl (fun ls hl => ?_)
              refine lv_goto (tgt := 97) hx hb d_Md_firstChange_221 (by decide) ?_
              rw [if_pos hc6, if_pos hc7, if_neg hc12, if_pos hc13] at hR
              exact ih (i + 1) be mc it vs se sm rs wk ors owk _ _ ls (by omega) hR (lv_sub hl [0, 1, 5, 6, 7, 8] rfl) hP hS
            · have hc13 : ¬ ((ti (32 * j + i)) < t) := hc13
              refine lv_iload hx hb d_Md_firstChange_191 (lv_at hl 2 rfl) ?_
              refine lv_iload_n hx hb d_Md_firstChange_193 rfl (lv_at hl 8 rfl) ?_
              refine lv_icmp_gt (tgt := 214) hx hb d_Md_firstChange_194 (by decide) (fun hc14 => ?_) (fun hc14 => ?_)
              · have hc14 : u < (ti (32 * j + i)) := hc14
                refine lv_iload hx hb d_Md_firstChange_214 (lv_at hl 4 rfl) ?_
                refine lv_istore (lv' := [(4, .int be), (8, .int 1), (7, .int (nI ((f_Mo_find ti n2 (j + 4) (ti (32 * j + i))).toNatClampNeg))), (6, .int (ti (32 * j + i))), (5, .int (nI i)), (0, .ref a), (1, .int (nI j)), (2, .int t), (3, .int u)]) hx hb d_Md_firstChange_216 hl (by decide) rfl (fun ls hl => ?_)
                refine lv_iinc (k := 4) (lv' := [(5, .int (nI (i + 1))), (4, .int be), (8, .int 1), (7, .int (nI ((f_Mo_find ti n2 (j + 4) (ti (32 * j + i))).toNatClampNeg))), (6, .int (ti (32 * j + i))), (0, .ref a), (1, .int (nI j)), (2, .int t), (3, .int u)]) hx hb d_Md_firstChange_218 hl rfl (inc1 _) (by decide) rfl (fun ls hl => ?_)
                refine lv_goto (tgt := 97) hx hb d_Md_firstChange_221 (by decide) ?_
                rw [if_pos hc6, if_pos hc7, if_neg hc12, if_neg hc13, if_pos hc14] at hR
                exact ih (i + 1) be mc it vs se sm rs wk ors owk _ _ ls (by omega) hR (lv_sub hl [0, 1, 5, 6, 7, 8] rfl) hP hS
              · have hc14 : ¬ (u < (ti (32 * j + i))) := hc14
                refine lv_iload hx hb d_Md_firstChange_197 (lv_at hl 4 rfl) ?_
                refine lv_if_eq (tgt := 209) hx hb d_Md_firstChange_199 (by decide) (fun hc15 => ?_) (fun hc15 => ?_)
                · have hc15 : be = 0 := hc15
                  refine lv_iload hx hb d_Md_firstChange_209 (lv_at hl 2 rfl) ?_
                  refine lv_goto (tgt := 216) hx hb d_Md_firstChange_211 (by decide) ?_
                  refine lv_istore (lv' := [(4, .int (ti (32 * j + i))), (8, .int 1), (7, .int (nI ((f_Mo_find ti n2 (j + 4) (ti (32 * j + i))).toNatClampNeg))), (6, .int (ti (32 * j + i))), (5, .int (nI i)), (0, .ref a), (1, .int (nI j)), (2, .int t), (3, .int u)]) hx hb d_Md_firstChange_216 hl (by decide) rfl (fun ls hl => ?_)
                  refine lv_iinc (k := 4) (lv' := [(5, .int (nI (i + 1))), (4, .int (ti (32 * j + i))), (8, .int 1), (7, .int (nI ((f_Mo_find ti n2 (j + 4) (ti (32 * j + i))).toNatClampNeg))), (6, .int (ti (32 * j + i))), (0, .ref a), (1, .int (nI j)), (2, .int t), (3, .int u)]) hx hb d_Md_firstChange_218 hl rfl (inc1 _) (by decide) rfl (fun ls hl => ?_)
                  refine lv_goto (tgt := 97) hx hb d_Md_firstChange_221 (by decide) ?_
                  rw [if_pos hc6, if_pos hc7, if_neg hc12, if_neg hc13, if_neg hc14, if_pos hc15] at hR
                  exact ih (i + 1) (ti (32 * j + i)) mc it vs se sm rs wk ors owk _ _ ls (by omega) hR (lv_sub hl [0, 1, 5, 6, 7, 8] rfl) hP hS
                · have hc15 : ¬ (be = 0) := hc15
                  refine lv_iload hx hb d_Md_firstChange_202 (lv_at hl 2 rfl) ?_
                  refine lv_iload hx hb d_Md_firstChange_204 (lv_at hl 4 rfl) ?_
                  refine lv_icmp_ge (tgt := 214) hx hb d_Md_firstChange_206 (by decide) (fun hc16 => ?_) (fun hc16 => ?_)
                  · have hc16 : be ≤ (ti (32 * j + i)) := hc16
                    refine lv_iload hx hb d_Md_firstChange_214 (lv_at hl 4 rfl) ?_
                    refine lv_istore (lv' := [(4, .int be), (8, .int 1), (7, .int (nI ((f_Mo_find ti n2 (j + 4) (ti (32 * j + i))).toNatClampNeg))), (6, .int (ti (32 * j + i))), (5, .int (nI i)), (0, .ref a), (1, .int (nI j)), (2, .int t), (3, .int u)]) hx hb d_Md_firstChange_216 hl (by decide) rfl (fun ls hl => ?_)
                    refine lv_iinc (k := 4) (lv' := [(5, .int (nI (i + 1))), (4, .int be), (8, .int 1), (7, .int (nI ((f_Mo_find ti n2 (j + 4) (ti (32 * j + i))).toNatClampNeg))), (6, .int (ti (32 * j + i))), (0, .ref a), (1, .int (nI j)), (2, .int t), (3, .int u)]) hx hb d_Md_firstChange_218 hl rfl (inc1 _) (by decide) rfl (fun ls hl => ?_)
                    refine lv_goto (tgt := 97) hx hb d_Md_firstChange_221 (by decide) ?_
                    rw [if_pos hc6, if_pos hc7, if_neg hc12, if_neg hc13, if_neg hc14, if_neg hc15, if_pos hc16] at hR
                    exact ih (i + 1) be mc it vs se sm rs wk ors owk _ _ ls (by omega) hR (lv_sub hl [0, 1, 5, 6, 7, 8] rfl) hP hS
                  · have hc16 : ¬ (be ≤ (ti (32 * j + i))) := hc16
                    refine lv_iload hx hb d_Md_firstChange_209 (lv_at hl 2 rfl) ?_
                    refine lv_goto (tgt := 216) hx hb d_Md_firstChange_211 (by decide) ?_
                    refine lv_istore (lv' := [(4, .int (ti (32 * j + i))), (8, .int 1), (7, .int (nI ((f_Mo_find ti n2 (j + 4) (ti (32 * j + i))).toNatClampNeg))), (6, .int (ti (32 * j + i))), (5, .int (nI i)), (0, .ref a), (1, .int (nI j)), (2, .int t), (3, .int u)]) hx hb d_Md_firstChange_216 hl (by decide) rfl (fun ls hl => ?_)
                    refine lv_iinc (k := 4) (lv' := [(5, .int (nI (i + 1))), (4, .int (ti (32 * j + i))), (8, .int 1), (7, .int (nI ((f_Mo_find ti n2 (j + 4) (ti (32 * j + i))).toNatClampNeg))), (6, .int (ti (32 * j + i))), (0, .ref a), (1, .int (nI j)), (2, .int t), (3, .int u)]) hx hb d_Md_firstChange_218 hl rfl (inc1 _) (by decide) rfl (fun ls hl => ?_)
                    refine lv_goto (tgt := 97) hx hb d_Md_firstChange_221 (by decide) ?_
                    rw [if_pos hc6, if_pos hc7, if_neg hc12, if_neg hc13, if_neg hc14, if_neg hc15, if_neg hc16] at hR
                    exact ih (i + 1) (ti (32 * j + i)) mc it vs se sm rs wk ors owk _ _ ls (by omega) hR (lv_sub hl [0, 1, 5, 6, 7, 8] rfl) hP hS
      · rw [show oI (¬ (f_Mo_find ti n2 (j + 4) (ti (32 * j + i))) = -1) ((f_Mo_find ti n2 (j + 4) (ti (32 * j + i))).toNatClampNeg) = -1 from if_neg hc6]
        refine lv_istore (lv' := [(7, .int (-1)), (6, .int (ti (32 * j + i))), (5, .int (nI i)), (4, .int be), (0, .ref a), (1, .int (nI j)), (2, .int t), (3, .int u)]) hx hb d_Md_firstChange_131 hl (by decide) rfl (fun ls hl => ?_)
        refine lv_iload hx hb d_Md_firstChange_133 (lv_at hl 0 rfl) ?_
        refine lv_if_lt (tgt := 173) hx hb d_Md_firstChange_135 (by decide) (fun hc => ?_) (fun hc => False.elim (by revert hc; decide))
        refine lv_iconst (v := 1) hx hb d_Md_firstChange_173 (by decide) ?_
        refine lv_goto (tgt := 178) hx hb d_Md_firstChange_174 (by decide) ?_
        refine lv_istore (lv' := [(8, .int 1), (7, .int (-1)), (6, .int (ti (32 * j + i))), (5, .int (nI i)), (4, .int be), (0, .ref a), (1, .int (nI j)), (2, .int t), (3, .int u)]) hx hb d_Md_firstChange_178 hl (by decide) rfl (fun ls hl => ?_)
        refine lv_iload hx hb d_Md_firstChange_180 (lv_at hl 0 rfl) ?_
        refine lv_if_eq (tgt := 214) hx hb d_Md_firstChange_182 (by decide) (fun hc => False.elim (by revert hc; decide)) (fun hc => ?_)
        refine lv_iload hx hb d_Md_firstChange_185 (lv_at hl 2 rfl) ?_
        refine lv_iload_n hx hb d_Md_firstChange_187 rfl (lv_at hl 7 rfl) ?_
        refine lv_icmp_lt (tgt := 214) hx hb d_Md_firstChange_188 (by decide) (fun hc17 => ?_) (fun hc17 => ?_)
        · have hc17 : (ti (32 * j + i)) < t := hc17
          refine lv_iload hx hb d_Md_firstChange_214 (lv_at hl 4 rfl) ?_
          refine lv_istore (lv' := [(4, .int be), (8, .int 1), (7, .int (-1)), (6, .int (ti (32 * j + i))), (5, .int (nI i)), (0, .ref a), (1, .int (nI j)), (2, .int t), (3, .int u)]) hx hb d_Md_firstChange_216 hl (by decide) rfl (fun ls hl => ?_)
          refine lv_iinc (k := 4) (lv' := [(5, .int (nI (i + 1))), (4, .int be), (8, .int 1), (7, .int (-1)), (6, .int (ti (32 * j + i))), (0, .ref a), (1, .int (nI j)), (2, .int t), (3, .int u)]) hx hb d_Md_firstChange_218 hl rfl (inc1 _) (by decide) rfl (fun ls hl => ?_)
          refine lv_goto (tgt := 97) hx hb d_Md_firstChange_221 (by decide) ?_
          rw [if_neg hc6, if_pos hc17] at hR
          exact ih (i + 1) be mc it vs se sm rs wk ors owk _ _ ls (by omega) hR (lv_sub hl [0, 1, 5, 6, 7, 8] rfl) hP hS
        · have hc17 : ¬ ((ti (32 * j + i)) < t) := hc17
          refine lv_iload hx hb d_Md_firstChange_191 (lv_at hl 2 rfl) ?_
          refine lv_iload_n hx hb d_Md_firstChange_193 rfl (lv_at hl 8 rfl) ?_
          refine lv_icmp_gt (tgt := 214) hx hb d_Md_firstChange_194 (by decide) (fun hc18 => ?_) (fun hc18 => ?_)
          · have hc18 : u < (ti (32 * j + i)) := hc18
            refine lv_iload hx hb d_Md_firstChange_214 (lv_at hl 4 rfl) ?_
            refine lv_istore (lv' := [(4, .int be), (8, .int 1), (7, .int (-1)), (6, .int (ti (32 * j + i))), (5, .int (nI i)), (0, .ref a), (1, .int (nI j)), (2, .int t), (3, .int u)]) hx hb d_Md_firstChange_216 hl (by decide) rfl (fun ls hl => ?_)
            refine lv_iinc (k := 4) (lv' := [(5, .int (nI (i + 1))), (4, .int be), (8, .int 1), (7, .int (-1)), (6, .int (ti (32 * j + i))), (0, .ref a), (1, .int (nI j)), (2, .int t), (3, .int u)]) hx hb d_Md_firstChange_218 hl rfl (inc1 _) (by decide) rfl (fun ls hl => ?_)
            refine lv_goto (tgt := 97) hx hb d_Md_firstChange_221 (by decide) ?_
            rw [if_neg hc6, if_neg hc17, if_pos hc18] at hR
            exact ih (i + 1) be mc it vs se sm rs wk ors owk _ _ ls (by omega) hR (lv_sub hl [0, 1, 5, 6, 7, 8] rfl) hP hS
          · have hc18 : ¬ (u < (ti (32 * j + i))) := hc18
            refine lv_iload hx hb d_Md_firstChange_197 (lv_at hl 4 rfl) ?_
            refine lv_if_eq (tgt := 209) hx hb d_Md_firstChange_199 (by decide) (fun hc19 => ?_) (fun hc19 => ?_)
            · have hc19 : be = 0 := hc19
              refine lv_iload hx hb d_Md_firstChange_209 (lv_at hl 2 rfl) ?_
              refine lv_goto (tgt := 216) hx hb d_Md_firstChange_211 (by decide) ?_
              refine lv_istore (lv' := [(4, .int (ti (32 * j + i))), (8, .int 1), (7, .int (-1)), (6, .int (ti (32 * j + i))), (5, .int (nI i)), (0, .ref a), (1, .int (nI j)), (2, .int t), (3, .int u)]) hx hb d_Md_firstChange_216 hl (by decide) rfl (fun ls hl => ?_)
              refine lv_iinc (k := 4) (lv' := [(5, .int (nI (i + 1))), (4, .int (ti (32 * j + i))), (8, .int 1), (7, .int (-1)), (6, .int (ti (32 * j + i))), (0, .ref a), (1, .int (nI j)), (2, .int t), (3, .int u)]) hx hb d_Md_firstChange_218 hl rfl (inc1 _) (by decide) rfl (fun ls hl => ?_)
              refine lv_goto (tgt := 97) hx hb d_Md_firstChange_221 (by decide) ?_
              rw [if_neg hc6, if_neg hc17, if_neg hc18, if_pos hc19] at hR
              exact ih (i + 1) (ti (32 * j + i)) mc it vs se sm rs wk ors owk _ _ ls (by omega) hR (lv_sub hl [0, 1, 5, 6, 7, 8] rfl) hP hS
            · have hc19 : ¬ (be = 0) := hc19
              refine lv_iload hx hb d_Md_firstChange_202 (lv_at hl 2 rfl) ?_
              refine lv_iload hx hb d_Md_firstChange_204 (lv_at hl 4 rfl) ?_
              refine lv_icmp_ge (tgt := 214) hx hb d_Md_firstChange_206 (by decide) (fun hc20 => ?_) (fun hc20 => ?_)
              · have hc20 : be ≤ (ti (32 * j + i)) := hc20
                refine lv_iload hx hb d_Md_firstChange_214 (lv_at hl 4 rfl) ?_
                refine lv_istore (lv' := [(4, .int be), (8, .int 1), (7, .int (-1)), (6, .int (ti (32 * j + i))), (5, .int (nI i)), (0, .ref a), (1, .int (nI j)), (2, .int t), (3, .int u)]) hx hb d_Md_firstChange_216 hl (by decide) rfl (fun ls hl => ?_)
                refine lv_iinc (k := 4) (lv' := [(5, .int (nI (i + 1))), (4, .int be), (8, .int 1), (7, .int (-1)), (6, .int (ti (32 * j + i))), (0, .ref a), (1, .int (nI j)), (2, .int t), (3, .int u)]) hx hb d_Md_firstChange_218 hl rfl (inc1 _) (by decide) rfl (fun ls hl => ?_)
                refine lv_goto (tgt := 97) hx hb d_Md_firstChange_221 (by decide) ?_
                rw [if_neg hc6, if_neg hc17, if_neg hc18, if_neg hc19, if_pos hc20] at hR
                exact ih (i + 1) be mc it vs se sm rs wk ors owk _ _ ls (by omega) hR (lv_sub hl [0, 1, 5, 6, 7, 8] rfl) hP hS
              · have hc20 : ¬ (be ≤ (ti (32 * j + i))) := hc20
                refine lv_iload hx hb d_Md_firstChange_209 (lv_at hl 2 rfl) ?_
                refine lv_goto (tgt := 216) hx hb d_Md_firstChange_211 (by decide) ?_
                refine lv_istore (lv' := [(4, .int (ti (32 * j + i))), (8, .int 1), (7, .int (-1)), (6, .int (ti (32 * j + i))), (5, .int (nI i)), (0, .ref a), (1, .int (nI j)), (2, .int t), (3, .int u)]) hx hb d_Md_firstChange_216 hl (by decide) rfl (fun ls hl => ?_)
                refine lv_iinc (k := 4) (lv' := [(5, .int (nI (i + 1))), (4, .int (ti (32 * j + i))), (8, .int 1), (7, .int (-1)), (6, .int (ti (32 * j + i))), (0, .ref a), (1, .int (nI j)), (2, .int t), (3, .int u)]) hx hb d_Md_firstChange_218 hl rfl (inc1 _) (by decide) rfl (fun ls hl => ?_)
                refine lv_goto (tgt := 97) hx hb d_Md_firstChange_221 (by decide) ?_
                rw [if_neg hc6, if_neg hc17, if_neg hc18, if_neg hc19, if_neg hc20] at hR
                exact ih (i + 1) (ti (32 * j + i)) mc it vs se sm rs wk ors owk _ _ ls (by omega) hR (lv_sub hl [0, 1, 5, 6, 7, 8] rfl) hP hS
  have key_38 : ∀ (k : Nat) (i : Nat) (mc : Nat) (it : Nat → Int32) (vs : Nat → Int32) (se : Nat → Int32) (sm : Int64) (rs : Nat → Int64) (wk : Nat → Int32) (ors : Nat → Int64) (owk : Nat → Int32) (H : Heap) (locs : List Loc) (ls : Array Slot), i + k = 32 → bz wk → g_Mo_firstChange_2_38 kn ti nm xa xb n n2 j t u k i mc it vs se sm rs wk ors owk = R → lv_has ls 9 [(4, .int (nI i)), (0, .ref a), (1, .int (nI j)), (2, .int t), (3, .int u)] → va_P D cls (wMo cI cJ cZ a ((f_Mo_lacksTwo kn j t u).2) kn ed ct ti nm xa xb (nI mc) it vs se sm rs wk ors owk) H → va_S (blk a 15) s.heap H locs → W p l e (headSpec (k_Md_firstChange :: gt) rm_Md_firstChange).room s m ([.ref a, .int (nI j), .int t, .int u] : List Value).toArray below meth c H locs 0 0 (MQ below (Qd (blk a 15) (some (.int R.1)) (fun H => va_P D cls (wMo cI cJ cZ a R.2.1 kn ed ct ti nm xa xb (nI R.2.2.1) R.2.2.2.1 R.2.2.2.2.1 R.2.2.2.2.2.1 R.2.2.2.2.2.2.1 R.2.2.2.2.2.2.2.1 R.2.2.2.2.2.2.2.2.1 R.2.2.2.2.2.2.2.2.2.1 R.2.2.2.2.2.2.2.2.2.2) H)) ([.ref a, .int (nI j), .int t, .int u] : List Value).toArray s 0 0 (blk a 15)) (F0 m 38 ls []) := by
    intro k
    induction k with
    | zero =>
      intro i mc it vs se sm rs wk ors owk H locs ls hi hb9 hR hl hP hS
      have hR : (g_Mo_firstChange_2_97 kn ti n n2 j t u n 0 0 ((f_Mo_run_2 ti nm xa xb it vs se rs wk n j 1000000000).1) ((f_Mo_run_2 ti nm xa xb it vs se rs wk n j 1000000000).2.1) ((f_Mo_run_2 ti nm xa xb it vs se rs wk n j 1000000000).2.2.1) ((f_Mo_run_2 ti nm xa xb it vs se rs wk n j 1000000000).2.2.2.1) ((f_Mo_run_2 ti nm xa xb it vs se rs wk n j 1000000000).2.2.2.2.1) ((f_Mo_run_2 ti nm xa xb it vs se rs wk n j 1000000000).2.2.2.2.2.1) ((f_Mo_run_2 ti nm xa xb it vs se rs wk n j 1000000000).2.2.2.2.2.2) ors owk) = R := hR
      have hD : va_D (blk a 15) (wMo cI cJ cZ a ((f_Mo_lacksTwo kn j t u).2) kn ed ct ti nm xa xb (nI mc) it vs se sm rs wk ors owk) := (blk_D (wMo_in))
      refine lv_iload hx hb d_Md_firstChange_38 (lv_at hl 0 rfl) ?_
      refine lv_bipush (v := 32) hx hb d_Md_firstChange_40 (by decide) ?_
      refine lv_icmp_ge (tgt := 79) hx hb d_Md_firstChange_42 (by decide) (fun hc => ?_) (fun hc => False.elim (by have hc : ¬ (32 ≤ i) := fun h => hc (by exact (nI_leI (a := 32) (b := i) (by omega) (by omega)).mpr h); omega))
      refine lv_aload_n hx hb d_Md_firstChange_79 rfl (lv_at hl 1 rfl) ?_
      refine lv_iload_n hx hb d_Md_firstChange_80 rfl (lv_at hl 2 rfl) ?_
      refine lv_aload_n hx hb d_Md_firstChange_81 rfl (lv_at hl 1 rfl) ?_
      refine lv_iload_n hx hb d_Md_firstChange_82 rfl (lv_at hl 2 rfl) ?_
      refine ep_callP (W.runV (As := [.int (nI j)]) (rest := [.int (nI j), .ref a]) ⟨hx, hb, hml, hown, hg⟩ (m_Mo_kindOf l D cI cJ cZ cO a ((f_Mo_lacksTwo kn j t u).2) kn ed ct ti nm xa xb (nI mc) it vs se sm rs wk ors owk j (by omega) _ rfl) (ep_cwV 1 hg tw_789 tw_791 ts_11 tw_12 tk_Md_kindOf rfl rfl (by decide +kernel) ⟨(Nat.le_of_ble_eq_true rfl), (Nat.le_of_ble_eq_true rfl)⟩) ⟨ep_blind, va_recv (q0 := 0) (ci := 9) hK hP rfl rfl, ep_pre hKn (hP)⟩ rfl rfl hl.1 rfl (lv_room (Nat.le_of_ble_eq_true rfl)) d_Md_firstChange_83 ⟨Nat.zero_le _, Nat.zero_le _⟩) ?_
      refine W.eq (g2 := F0 m 86 ls [.int (f_Mo_kindOf kn j), .int (nI j), .ref a]) rfl ?_
      refine lv_topi (fun z9 e_z9 => ?_)
      obtain rfl : z9 = 2 := by rw [e_z9]; exact (by rw [show f_Mo_kindOf kn j = kn j - 1 from rfl, hk]; decide)
      refine lv_ldc (v := 1000000000) hx hb hown (hg _ tw_780) d_Md_firstChange_86 ?_
      refine ep_callH (W.runV (As := [.int (nI j), .int 2, .int 1000000000]) (rest := []) ⟨hx, hb, hml, hown, hg⟩ (m_Mo_run_2 l D cI cJ cZ cO a ((f_Mo_lacksTwo kn j t u).2) kn ed ct ti nm xa xb (nI mc) it vs se sm rs wk ors owk n j 1000000000 (by omega) hct (by omega) _ rfl) (ep_cwV 3 hg tw_832 tw_834 ts_17 tw_12 tk_Md_run rfl rfl (by decide +kernel) ⟨(Nat.le_of_ble_eq_true rfl), (Nat.le_of_ble_eq_true rfl)⟩) ⟨ep_blind, va_recv (q0 := 0) (ci := 9) hK hP rfl rfl, ep_pre hKn (hP)⟩ rfl rfl hl.1 rfl (lv_room (Nat.le_of_ble_eq_true rfl)) d_Md_firstChange_88 ⟨Nat.zero_le _, Nat.zero_le _⟩) hS (fun q h => h) (fun H locs hsz9 hk1 hP1 hS => ?_)
      refine W.eq (g2 := F0 m 91 ls []) rfl ?_
      have hP : va_P D cls (wMo cI cJ cZ a ((f_Mo_lacksTwo kn j t u).2) kn ed ct ti nm xa xb (nI ((f_Mo_run_2 ti nm xa xb it vs se rs wk n j 1000000000).1)) ((f_Mo_run_2 ti nm xa xb it vs se rs wk n j 1000000000).2.1) ((f_Mo_run_2 ti nm xa xb it vs se rs wk n j 1000000000).2.2.1) ((f_Mo_run_2 ti nm xa xb it vs se rs wk n j 1000000000).2.2.2.1) ((f_Mo_run_2 ti nm xa xb it vs se rs wk n j 1000000000).2.2.2.2.1) ((f_Mo_run_2 ti nm xa xb it vs se rs wk n j 1000000000).2.2.2.2.2.1) ((f_Mo_run_2 ti nm xa xb it vs se rs wk n j 1000000000).2.2.2.2.2.2) ors owk) H := hP1
      have hD : va_D (blk a 15) (wMo cI cJ cZ a ((f_Mo_lacksTwo kn j t u).2) kn ed ct ti nm xa xb (nI ((f_Mo_run_2 ti nm xa xb it vs se rs wk n j 1000000000).1)) ((f_Mo_run_2 ti nm xa xb it vs se rs wk n j 1000000000).2.1) ((f_Mo_run_2 ti nm xa xb it vs se rs wk n j 1000000000).2.2.1) ((f_Mo_run_2 ti nm xa xb it vs se rs wk n j 1000000000).2.2.2.1) ((f_Mo_run_2 ti nm xa xb it vs se rs wk n j 1000000000).2.2.2.2.1) ((f_Mo_run_2 ti nm xa xb it vs se rs wk n j 1000000000).2.2.2.2.2.1) ((f_Mo_run_2 ti nm xa xb it vs se rs wk n j 1000000000).2.2.2.2.2.2) ors owk) := (blk_D (wMo_in))
      refine lv_iconst (v := 0) hx hb d_Md_firstChange_91 (by decide) ?_
      refine lv_istore (lv' := [(4, .int 0), (0, .ref a), (1, .int (nI j)), (2, .int t), (3, .int u)]) hx hb d_Md_firstChange_92 hl (by decide) rfl (fun ls hl => ?_)
      refine lv_iconst (v := 0) hx hb d_Md_firstChange_94 (by decide) ?_
      refine lv_istore (lv' := [(5, .int 0), (4, .int 0), (0, .ref a), (1, .int (nI j)), (2, .int t), (3, .int u)]) hx hb d_Md_firstChange_95 hl (by decide) rfl (fun ls hl => ?_)
      exact key_97 n 0 0 ((f_Mo_run_2 ti nm xa xb it vs se rs wk n j 1000000000).1) ((f_Mo_run_2 ti nm xa xb it vs se rs wk n j 1000000000).2.1) ((f_Mo_run_2 ti nm xa xb it vs se rs wk n j 1000000000).2.2.1) ((f_Mo_run_2 ti nm xa xb it vs se rs wk n j 1000000000).2.2.2.1) ((f_Mo_run_2 ti nm xa xb it vs se rs wk n j 1000000000).2.2.2.2.1) ((f_Mo_run_2 ti nm xa xb it vs se rs wk n j 1000000000).2.2.2.2.2.1) ((f_Mo_run_2 ti nm xa xb it vs se rs wk n j 1000000000).2.2.2.2.2.2) ors owk _ _ ls (by omega) hR hl hP hS
    | succ k ih =>
      intro i mc it vs se sm rs wk ors owk H locs ls hi hb9 hR hl hP hS
      have hR : (g_Mo_firstChange_2_38 kn ti nm xa xb n n2 j t u k (i + 1) mc it vs se sm rs wk (vp_updL ors i (rs i)) (upd owk i (wk i))) = R := hR
      have hD : va_D (blk a 15) (wMo cI cJ cZ a ((f_Mo_lacksTwo kn j t u).2) kn ed ct ti nm xa xb (nI mc) it vs se sm rs wk ors owk) := (blk_D (wMo_in))
      refine lv_iload hx hb d_Md_firstChange_38 (lv_at hl 0 rfl) ?_
      refine lv_bipush (v := 32) hx hb d_Md_firstChange_40 (by decide) ?_
      refine lv_icmp_ge (tgt := 79) hx hb d_Md_firstChange_42 (by decide) (fun hc => False.elim (by have hc := (nI_leI (a := 32) (b := i) (by omega) (by omega)).mp hc; omega)) (fun hc => ?_)
      refine lv_aload_n hx hb d_Md_firstChange_45 rfl (lv_at hl 1 rfl) ?_
      refine va_get (D := D) (ci := 9) (v := .ref (a + 13)) (C := R_Md) (T := F_Md) (N := 17) hx hb hg in_Md hown hK hP 0 rfl rfl 15 (Nat.le_of_ble_eq_true rfl) (hg _ tw_721) (fun _ h9 => h9) rfl d_Md_firstChange_46 ?_
      refine lv_iload hx hb d_Md_firstChange_49 (lv_at hl 0 rfl) ?_
      refine lv_aload_n hx hb d_Md_firstChange_51 rfl (lv_at hl 1 rfl) ?_
      refine va_get (D := D) (ci := 9) (v := .ref (a + 11)) (C := R_Md) (T := F_Md) (N := 17) hx hb hg in_Md hown hK hP 0 rfl rfl 13 (Nat.le_of_ble_eq_true rfl) (hg _ tw_719) (fun _ h9 => h9) rfl d_Md_firstChange_52 ?_
      refine lv_iload hx hb d_Md_firstChange_55 (lv_at hl 0 rfl) ?_
      refine ep_lald hx hb hK hP 11 1 rfl rfl (i := i) (by omega) (by decide) d_Md_firstChange_57 ?_
      refine ep_last hx hb hK hP hD hS 13 1 rfl rfl (i := i) (x := (rs i)) (by omega) (by decide) d_Md_firstChange_58 (fun H locs hP hD hS => ?_)
      have hP : va_P D cls (wMo cI cJ cZ a ((f_Mo_lacksTwo kn j t u).2) kn ed ct ti nm xa xb (nI mc) it vs se sm rs wk (vp_updL ors i (rs i)) owk) H := hP
      have hD : va_D (blk a 15) (wMo cI cJ cZ a ((f_Mo_lacksTwo kn j t u).2) kn ed ct ti nm xa xb (nI mc) it vs se sm rs wk (vp_updL ors i (rs i)) owk) := hD
      refine lv_aload_n hx hb d_Md_firstChange_59 rfl (lv_at hl 1 rfl) ?_
      refine va_get (D := D) (ci := 9) (v := .ref (a + 14)) (C := R_Md) (T := F_Md) (N := 17) hx hb hg in_Md hown hK hP 0 rfl rfl 16 (Nat.le_of_ble_eq_true rfl) (hg _ tw_722) (fun _ h9 => h9) rfl d_Md_firstChange_60 ?_
      refine lv_iload hx hb d_Md_firstChange_63 (lv_at hl 0 rfl) ?_
      refine lv_aload_n hx hb d_Md_firstChange_65 rfl (lv_at hl 1 rfl) ?_
      refine va_get (D := D) (ci := 9) (v := .ref (a + 12)) (C := R_Md) (T := F_Md) (N := 17) hx hb hg in_Md hown hK hP 0 rfl rfl 14 (Nat.le_of_ble_eq_true rfl) (hg _ tw_720) (fun _ h9 => h9) rfl d_Md_firstChange_66 ?_
      refine lv_iload hx hb d_Md_firstChange_69 (lv_at hl 0 rfl) ?_
      refine ep_zald hx hb hK hP 12 2 rfl rfl (i := i) (by omega) (by decide) d_Md_firstChange_71 ?_
      refine ep_zast hx hb hK hP hD hS 14 2 rfl rfl (i := i) (x := (wk i)) (bz_n hb9 _) (by omega) (by decide) d_Md_firstChange_72 (fun H locs hP hD hS => ?_)
      have hP : va_P D cls (wMo cI cJ cZ a ((f_Mo_lacksTwo kn j t u).2) kn ed ct ti nm xa xb (nI mc) it vs se sm rs wk (vp_updL ors i (rs i)) (upd owk i (wk i))) H := hP
      have hD : va_D (blk a 15) (wMo cI cJ cZ a ((f_Mo_lacksTwo kn j t u).2) kn ed ct ti nm xa xb (nI mc) it vs se sm rs wk (vp_updL ors i (rs i)) (upd owk i (wk i))) := hD
      refine lv_iinc (k := 0) (lv' := [(4, .int (nI (i + 1))), (0, .ref a), (1, .int (nI j)), (2, .int t), (3, .int u)]) hx hb d_Md_firstChange_73 hl rfl (inc1 _) (by decide) rfl (fun ls hl => ?_)
      refine lv_goto (tgt := 38) hx hb d_Md_firstChange_76 (by decide) ?_
      exact ih (i + 1) mc it vs se sm rs wk (vp_updL ors i (rs i)) (upd owk i (wk i)) _ _ ls (by omega) hb9 hR hl hP hS
  have hR : (g_Mo_firstChange_2_38 kn ti nm xa xb n n2 j t u 32 0 ((f_Mo_run_2 ti nm xa xb it vs se rs wk n2 (j + 4) 1000000000).1) ((f_Mo_run_2 ti nm xa xb it vs se rs wk n2 (j + 4) 1000000000).2.1) ((f_Mo_run_2 ti nm xa xb it vs se rs wk n2 (j + 4) 1000000000).2.2.1) ((f_Mo_run_2 ti nm xa xb it vs se rs wk n2 (j + 4) 1000000000).2.2.2.1) ((f_Mo_run_2 ti nm xa xb it vs se rs wk n2 (j + 4) 1000000000).2.2.2.2.1) ((f_Mo_run_2 ti nm xa xb it vs se rs wk n2 (j + 4) 1000000000).2.2.2.2.2.1) ((f_Mo_run_2 ti nm xa xb it vs se rs wk n2 (j + 4) 1000000000).2.2.2.2.2.2) ors owk) = R := hR
  refine lv_aload_n hx hb d_Md_firstChange_0 rfl (lv_at hl 0 rfl) ?_
  refine lv_iload_n hx hb d_Md_firstChange_1 rfl (lv_at hl 1 rfl) ?_
  refine lv_iload_n hx hb d_Md_firstChange_2 rfl (lv_at hl 2 rfl) ?_
  refine lv_iload_n hx hb d_Md_firstChange_3 rfl (lv_at hl 3 rfl) ?_
  refine ep_callH (W.runV (As := [.int (nI j), .int t, .int u]) (rest := []) ⟨hx, hb, hml, hown, hg⟩ (m_Mo_lacksTwo l D cI cJ cZ cO a code kn ed ct ti nm xa xb ma it vs se sm rs wk ors owk j t u (by omega) _ rfl) (ep_cwV 3 hg tw_896 tw_898 ts_25 tw_12 tk_Md_lacksTwo rfl rfl (by decide +kernel) ⟨(Nat.le_of_ble_eq_true rfl), (Nat.le_of_ble_eq_true rfl)⟩) ⟨ep_blind, va_recv (q0 := 0) (ci := 9) hK hP rfl rfl, ep_pre hKn (hP)⟩ rfl rfl hl.1 rfl (lv_room (Nat.le_of_ble_eq_true rfl)) d_Md_firstChange_4 ⟨Nat.zero_le _, Nat.zero_le _⟩) hS (fun q h => h) (fun H locs hsz9 hk1 hP1 hS => ?_)
  refine W.eq (g2 := F0 m 7 ls [.int ((f_Mo_lacksTwo kn j t u).1)]) rfl ?_
  have hP : va_P D cls (wMo cI cJ cZ a ((f_Mo_lacksTwo kn j t u).2) kn ed ct ti nm xa xb ma it vs se sm rs wk ors owk) H := hP1
  have hD : va_D (blk a 15) (wMo cI cJ cZ a ((f_Mo_lacksTwo kn j t u).2) kn ed ct ti nm xa xb ma it vs se sm rs wk ors owk) := (blk_D (wMo_in))
  refine lv_if_ne (tgt := 19) hx hb d_Md_firstChange_7 (by decide) (fun hc => absurd hlk hc) (fun hc => ?_)
  refine lv_aload_n hx hb d_Md_firstChange_10 rfl (lv_at hl 0 rfl) ?_
  refine va_get (D := D) (ci := 9) (v := .ref (a + 2)) (C := R_Md) (T := F_Md) (N := 17) hx hb hg in_Md hown hK hP 0 rfl rfl 2 (Nat.le_of_ble_eq_true rfl) (hg _ tw_708) (fun _ h9 => h9) rfl d_Md_firstChange_11 ?_
  refine lv_iload_n hx hb d_Md_firstChange_14 rfl (lv_at hl 1 rfl) ?_
  refine ep_zald hx hb hK hP 2 2 rfl rfl (i := j) (by omega) (by decide) d_Md_firstChange_15 ?_
  refine lv_if_ne (tgt := 21) hx hb d_Md_firstChange_16 (by decide) (fun hc => ?_) (fun hc => absurd hc hed)
  refine lv_aload_n hx hb d_Md_firstChange_21 rfl (lv_at hl 0 rfl) ?_
  refine lv_iload_n hx hb d_Md_firstChange_22 rfl (lv_at hl 1 rfl) ?_
  refine lv_iconst (v := 4) hx hb d_Md_firstChange_23 (by decide) ?_
  refine lv_iadd hx hb d_Md_firstChange_24 ?_
  refine lv_topi (fun z9 e_z9 => ?_)
  obtain rfl : z9 = nI (j + 4) := by rw [e_z9]; exact (nI_add j 4)
  refine lv_aload_n hx hb d_Md_firstChange_25 rfl (lv_at hl 0 rfl) ?_
  refine lv_iload_n hx hb d_Md_firstChange_26 rfl (lv_at hl 1 rfl) ?_
  refine ep_callP (W.runV (As := [.int (nI j)]) (rest := [.int (nI (j + 4)), .ref a]) ⟨hx, hb, hml, hown, hg⟩ (m_Mo_kindOf l D cI cJ cZ cO a ((f_Mo_lacksTwo kn j t u).2) kn ed ct ti nm xa xb ma it vs se sm rs wk ors owk j (by omega) _ rfl) (ep_cwV 1 hg tw_789 tw_791 ts_11 tw_12 tk_Md_kindOf rfl rfl (by decide +kernel) ⟨(Nat.le_of_ble_eq_true rfl), (Nat.le_of_ble_eq_true rfl)⟩) ⟨ep_blind, va_recv (q0 := 0) (ci := 9) hK hP rfl rfl, ep_pre hKn (hP)⟩ rfl rfl hl.1 rfl (lv_room (Nat.le_of_ble_eq_true rfl)) d_Md_firstChange_27 ⟨Nat.zero_le _, Nat.zero_le _⟩) ?_
  refine W.eq (g2 := F0 m 30 ls [.int (f_Mo_kindOf kn j), .int (nI (j + 4)), .ref a]) rfl ?_
  refine lv_topi (fun z9 e_z9 => ?_)
  obtain rfl : z9 = 2 := by rw [e_z9]; exact (by rw [show f_Mo_kindOf kn j = kn j - 1 from rfl, hk]; decide)
  refine lv_ldc (v := 1000000000) hx hb hown (hg _ tw_780) d_Md_firstChange_30 ?_
  refine ep_callH (W.runV (As := [.int (nI (j + 4)), .int 2, .int 1000000000]) (rest := []) ⟨hx, hb, hml, hown, hg⟩ (m_Mo_run_2 l D cI cJ cZ cO a ((f_Mo_lacksTwo kn j t u).2) kn ed ct ti nm xa xb ma it vs se sm rs wk ors owk n2 (j + 4) 1000000000 (by omega) hct2 (by omega) _ rfl) (ep_cwV 3 hg tw_832 tw_834 ts_17 tw_12 tk_Md_run rfl rfl (by decide +kernel) ⟨(Nat.le_of_ble_eq_true rfl), (Nat.le_of_ble_eq_true rfl)⟩) ⟨ep_blind, va_recv (q0 := 0) (ci := 9) hK hP rfl rfl, ep_pre hKn (hP)⟩ rfl rfl hl.1 rfl (lv_room (Nat.le_of_ble_eq_true rfl)) d_Md_firstChange_32 ⟨Nat.zero_le _, Nat.zero_le _⟩) hS (fun q h => h) (fun H locs hsz9 hk1 hP1 hS => ?_)
  refine W.eq (g2 := F0 m 35 ls []) rfl ?_
  have hP : va_P D cls (wMo cI cJ cZ a ((f_Mo_lacksTwo kn j t u).2) kn ed ct ti nm xa xb (nI ((f_Mo_run_2 ti nm xa xb it vs se rs wk n2 (j + 4) 1000000000).1)) ((f_Mo_run_2 ti nm xa xb it vs se rs wk n2 (j + 4) 1000000000).2.1) ((f_Mo_run_2 ti nm xa xb it vs se rs wk n2 (j + 4) 1000000000).2.2.1) ((f_Mo_run_2 ti nm xa xb it vs se rs wk n2 (j + 4) 1000000000).2.2.2.1) ((f_Mo_run_2 ti nm xa xb it vs se rs wk n2 (j + 4) 1000000000).2.2.2.2.1) ((f_Mo_run_2 ti nm xa xb it vs se rs wk n2 (j + 4) 1000000000).2.2.2.2.2.1) ((f_Mo_run_2 ti nm xa xb it vs se rs wk n2 (j + 4) 1000000000).2.2.2.2.2.2) ors owk) H := hP1
  have hD : va_D (blk a 15) (wMo cI cJ cZ a ((f_Mo_lacksTwo kn j t u).2) kn ed ct ti nm xa xb (nI ((f_Mo_run_2 ti nm xa xb it vs se rs wk n2 (j + 4) 1000000000).1)) ((f_Mo_run_2 ti nm xa xb it vs se rs wk n2 (j + 4) 1000000000).2.1) ((f_Mo_run_2 ti nm xa xb it vs se rs wk n2 (j + 4) 1000000000).2.2.1) ((f_Mo_run_2 ti nm xa xb it vs se rs wk n2 (j + 4) 1000000000).2.2.2.1) ((f_Mo_run_2 ti nm xa xb it vs se rs wk n2 (j + 4) 1000000000).2.2.2.2.1) ((f_Mo_run_2 ti nm xa xb it vs se rs wk n2 (j + 4) 1000000000).2.2.2.2.2.1) ((f_Mo_run_2 ti nm xa xb it vs se rs wk n2 (j + 4) 1000000000).2.2.2.2.2.2) ors owk) := (blk_D (wMo_in))
  refine lv_iconst (v := 0) hx hb d_Md_firstChange_35 (by decide) ?_
  refine lv_istore (lv' := [(4, .int 0), (0, .ref a), (1, .int (nI j)), (2, .int t), (3, .int u)]) hx hb d_Md_firstChange_36 hl (by decide) rfl (fun ls hl => ?_)
  exact key_38 32 0 ((f_Mo_run_2 ti nm xa xb it vs se rs wk n2 (j + 4) 1000000000).1) ((f_Mo_run_2 ti nm xa xb it vs se rs wk n2 (j + 4) 1000000000).2.1) ((f_Mo_run_2 ti nm xa xb it vs se rs wk n2 (j + 4) 1000000000).2.2.1) ((f_Mo_run_2 ti nm xa xb it vs se rs wk n2 (j + 4) 1000000000).2.2.2.1) ((f_Mo_run_2 ti nm xa xb it vs se rs wk n2 (j + 4) 1000000000).2.2.2.2.1) ((f_Mo_run_2 ti nm xa xb it vs se rs wk n2 (j + 4) 1000000000).2.2.2.2.2.1) ((f_Mo_run_2 ti nm xa xb it vs se rs wk n2 (j + 4) 1000000000).2.2.2.2.2.2) ors owk _ _ ls (by omega) (run_bz_2 _ _ _ _ _ _ _ _ _ _ _ _ hbz) hR hl hP hS

def g_Mo_effective_3_29 (kn : Nat → Int32) (ti : Nat → Int32) (j : Nat) (t : Int32) (u : Int32) : Nat → Nat → Nat → Nat → (Nat → Int32) → (Nat → Int32) → (Nat → Int32) → Int64 → (Nat → Int64) → (Nat → Int32) → Nat × Int32 × Nat × (Nat → Int32) × (Nat → Int32) × (Nat → Int32) × Int64 × (Nat → Int64) × (Nat → Int32)
  | 0, i, c9, mc, it, vs, se, sm, rs, wk => (c9, (f_Mo_lacksTwo kn j t u).2, mc, it, vs, se, sm, rs, wk)
  | k + 1, i, c9, mc, it, vs, se, sm, rs, wk => if (ti (32 * j + i)) < t then (g_Mo_effective_3_29 kn ti j t u k (i + 1) (c9 + 0) mc it vs se sm rs wk) else (if u < (ti (32 * j + i)) then (g_Mo_effective_3_29 kn ti j t u k (i + 1) (c9 + 0) mc it vs se sm rs wk) else (if (wk i) = 0 then (g_Mo_effective_3_29 kn ti j t u k (i + 1) (c9 + 0) mc it vs se sm rs wk) else (g_Mo_effective_3_29 kn ti j t u k (i + 1) (c9 + 1) mc it vs se sm rs wk)))

def f_Mo_effective_3 (kn : Nat → Int32) (ti : Nat → Int32) (nm : Nat → Int32) (xa : Nat → Int32) (it : Nat → Int32) (vs : Nat → Int32) (se : Nat → Int32) (rs : Nat → Int64) (wk : Nat → Int32) (n : Nat) (j : Nat) (t : Int32) (u : Int32) : Nat × Int32 × Nat × (Nat → Int32) × (Nat → Int32) × (Nat → Int32) × Int64 × (Nat → Int64) × (Nat → Int32) := g_Mo_effective_3_29 kn ti j t u n 0 0 ((f_Mo_run_3 ti nm xa it vs se rs wk n j u).1) ((f_Mo_run_3 ti nm xa it vs se rs wk n j u).2.1) ((f_Mo_run_3 ti nm xa it vs se rs wk n j u).2.2.1) ((f_Mo_run_3 ti nm xa it vs se rs wk n j u).2.2.2.1) ((f_Mo_run_3 ti nm xa it vs se rs wk n j u).2.2.2.2.1) ((f_Mo_run_3 ti nm xa it vs se rs wk n j u).2.2.2.2.2.1) ((f_Mo_run_3 ti nm xa it vs se rs wk n j u).2.2.2.2.2.2)
set_option maxHeartbeats 4000000 in
set_option maxRecDepth 100000 in
theorem m_Mo_effective_3 (l : Launch) (D : va_G) (cI cJ cZ cO : ClassId) (a : Nat) (code : Int32) (kn : Nat → Int32) (ed : Nat → Int32) (ct : Nat → Int32) (ti : Nat → Int32) (nm : Nat → Int32) (xa : Nat → Int32) (xb : Nat → Int32) (ma : Int32) (it : Nat → Int32) (vs : Nat → Int32) (se : Nat → Int32) (sm : Int64) (rs : Nat → Int64) (wk : Nat → Int32) (ors : Nat → Int64) (owk : Nat → Int32) (n : Nat) (j : Nat) (t : Int32) (u : Int32) (hj : j < 4) (hlk : (f_Mo_lacksTwo kn j t u).1 = 0) (hk : kn j = 4) (hct : ct j = nI n) (hn : n ≤ 32) (R : Nat × Int32 × Nat × (Nat → Int32) × (Nat → Int32) × (Nat → Int32) × Int64 × (Nat → Int64) × (Nat → Int32)) (hR : f_Mo_effective_3 kn ti nm xa it vs se rs wk n j t u = R) : Met l y_Md_effective (k_Md_effective :: gt) rm_Md_effective (Pc0 D cI cJ cZ cO [.ref a, .int (nI j), .int t, .int u] (fun H => va_P D cls (wMo cI cJ cZ a code kn ed ct ti nm xa xb ma it vs se sm rs wk ors owk) H)) (Qd (blk a 15) (some (.int (nI R.1))) (fun H => va_P D cls (wMo cI cJ cZ a R.2.1 kn ed ct ti nm xa xb (nI R.2.2.1) R.2.2.2.1 R.2.2.2.2.1 R.2.2.2.2.2.1 R.2.2.2.2.2.2.1 R.2.2.2.2.2.2.2.1 R.2.2.2.2.2.2.2.2 ors owk) H)) 0 0 (blk a 15) := by
  refine Met.ofW (cc := c_Md_effective) (maxL := 7) (ret := (Option.some FieldType.int)) (by decide) rfl ?_
  intro p e s m args below meth c s₁ B hml hv
  obtain ⟨rfl, hKn, hP⟩ := hv
  have hx := B.exec
  have hb := B.bytes
  have hr := B.returns
  have hts := atoms_spec (ws := k_Md_effective :: gt) B.pre
  have hg : ∀ w ∈ gt, w.before _ s = true := fun w h => hts w (List.mem_cons_of_mem _ h)
  have hown : s.vm.findClass R_Md = some m.cls := findClass_of_methodNamed B.named
  have hlocks := B.notSynchronized
  have hK := hKn.1
  have hl := lv_entry ([.ref a, .int (nI j), .int t, .int u]) (n := 7) (Nat.le_of_ble_eq_true rfl)
  rw [lg_entry_eq]
  generalize (lg_sl ([.ref a, .int (nI j), .int t, .int u]) ++ List.replicate (7 - (lg_sl ([.ref a, .int (nI j), .int t, .int u])).length) Slot.unset).toArray = ls at hl ⊢
  have hl : lv_has ls 7 [(0, .ref a), (1, .int (nI j)), (2, .int t), (3, .int u)] := hl
  have hS : va_S (blk a 15) s.heap s.heap [] := va_S.rf
  have hD : va_D (blk a 15) (wMo cI cJ cZ a code kn ed ct ti nm xa xb ma it vs se sm rs wk ors owk) := (blk_D (wMo_in))
  have key_29 : ∀ (k : Nat) (i : Nat) (c9 : Nat) (mc : Nat) (it : Nat → Int32) (vs : Nat → Int32) (se : Nat → Int32) (sm : Int64) (rs : Nat → Int64) (wk : Nat → Int32) (H : Heap) (locs : List Loc) (ls : Array Slot), i + k = n → g_Mo_effective_3_29 kn ti j t u k i c9 mc it vs se sm rs wk = R → lv_has ls 7 [(5, .int (nI i)), (4, .int (nI c9)), (0, .ref a), (1, .int (nI j)), (2, .int t), (3, .int u)] → va_P D cls (wMo cI cJ cZ a ((f_Mo_lacksTwo kn j t u).2) kn ed ct ti nm xa xb (nI mc) it vs se sm rs wk ors owk) H → va_S (blk a 15) s.heap H locs → W p l e (headSpec (k_Md_effective :: gt) rm_Md_effective).room s m ([.ref a, .int (nI j), .int t, .int u] : List Value).toArray below meth c H locs 0 0 (MQ below (Qd (blk a 15) (some (.int (nI R.1))) (fun H => va_P D cls (wMo cI cJ cZ a R.2.1 kn ed ct ti nm xa xb (nI R.2.2.1) R.2.2.2.1 R.2.2.2.2.1 R.2.2.2.2.2.1 R.2.2.2.2.2.2.1 R.2.2.2.2.2.2.2.1 R.2.2.2.2.2.2.2.2 ors owk) H)) ([.ref a, .int (nI j), .int t, .int u] : List Value).toArray s 0 0 (blk a 15)) (F0 m 29 ls []) := by
    intro k
    induction k with
    | zero =>
      intro i c9 mc it vs se sm rs wk H locs ls hi hR hl hP hS
      have hR : ((c9, (f_Mo_lacksTwo kn j t u).2, mc, it, vs, se, sm, rs, wk)) = R := hR
      have hD : va_D (blk a 15) (wMo cI cJ cZ a ((f_Mo_lacksTwo kn j t u).2) kn ed ct ti nm xa xb (nI mc) it vs se sm rs wk ors owk) := (blk_D (wMo_in))
      refine lv_iload hx hb d_Md_effective_29 (lv_at hl 0 rfl) ?_
      refine lv_aload_n hx hb d_Md_effective_31 rfl (lv_at hl 2 rfl) ?_
      refine va_get (D := D) (ci := 9) (v := .ref (a + 3)) (C := R_Md) (T := F_Md) (N := 17) hx hb hg in_Md hown hK hP 0 rfl rfl 3 (Nat.le_of_ble_eq_true rfl) (hg _ tw_709) (fun _ h9 => h9) rfl d_Md_effective_32 ?_
      refine lv_iload_n hx hb d_Md_effective_35 rfl (lv_at hl 3 rfl) ?_
      refine ep_iald hx hb hK hP 3 0 rfl rfl (i := j) (by omega) (by decide) d_Md_effective_36 ?_
      refine lv_topi (fun z9 e_z9 => ?_)
      obtain rfl : z9 = nI n := by rw [e_z9]; exact hct
      refine lv_icmp_ge (tgt := 92) hx hb d_Md_effective_37 (by decide) (fun hc => ?_) (fun hc => False.elim (by have hc : ¬ (n ≤ i) := fun h => hc (by exact (nI_leI (a := n) (b := i) (by omega) (by omega)).mpr h); omega))
      refine lv_iload hx hb d_Md_effective_92 (lv_at hl 1 rfl) ?_
      subst hR
      exact W.iret (v := (nI c9)) hx hb hr (fun t9 ht hW => ⟨rfl, hS.F ht, by rw [ht]; exact hP⟩) hS.2.2 d_Md_effective_94
    | succ k ih =>
      intro i c9 mc it vs se sm rs wk H locs ls hi hR hl hP hS
      have hR : (if (ti (32 * j + i)) < t then (g_Mo_effective_3_29 kn ti j t u k (i + 1) (c9 + 0) mc it vs se sm rs wk) else (if u < (ti (32 * j + i)) then (g_Mo_effective_3_29 kn ti j t u k (i + 1) (c9 + 0) mc it vs se sm rs wk) else (if (wk i) = 0 then (g_Mo_effective_3_29 kn ti j t u k (i + 1) (c9 + 0) mc it vs se sm rs wk) else (g_Mo_effective_3_29 kn ti j t u k (i + 1) (c9 + 1) mc it vs se sm rs wk)))) = R := hR
      have hD : va_D (blk a 15) (wMo cI cJ cZ a ((f_Mo_lacksTwo kn j t u).2) kn ed ct ti nm xa xb (nI mc) it vs se sm rs wk ors owk) := (blk_D (wMo_in))
      refine lv_iload hx hb d_Md_effective_29 (lv_at hl 0 rfl) ?_
      refine lv_aload_n hx hb d_Md_effective_31 rfl (lv_at hl 2 rfl) ?_
      refine va_get (D := D) (ci := 9) (v := .ref (a + 3)) (C := R_Md) (T := F_Md) (N := 17) hx hb hg in_Md hown hK hP 0 rfl rfl 3 (Nat.le_of_ble_eq_true rfl) (hg _ tw_709) (fun _ h9 => h9) rfl d_Md_effective_32 ?_
      refine lv_iload_n hx hb d_Md_effective_35 rfl (lv_at hl 3 rfl) ?_
      refine ep_iald hx hb hK hP 3 0 rfl rfl (i := j) (by omega) (by decide) d_Md_effective_36 ?_
      refine lv_topi (fun z9 e_z9 => ?_)
      obtain rfl : z9 = nI n := by rw [e_z9]; exact hct
      refine lv_icmp_ge (tgt := 92) hx hb d_Md_effective_37 (by decide) (fun hc => False.elim (by have hc := (nI_leI (a := n) (b := i) (by omega) (by omega)).mp hc; omega)) (fun hc => ?_)
      refine lv_aload_n hx hb d_Md_effective_40 rfl (lv_at hl 2 rfl) ?_
      refine va_get (D := D) (ci := 9) (v := .ref (a + 4)) (C := R_Md) (T := F_Md) (N := 17) hx hb hg in_Md hown hK hP 0 rfl rfl 4 (Nat.le_of_ble_eq_true rfl) (hg _ tw_710) (fun _ h9 => h9) rfl d_Md_effective_41 ?_
      refine lv_bipush (v := 32) hx hb d_Md_effective_44 (by decide) ?_
      refine lv_iload_n hx hb d_Md_effective_46 rfl (lv_at hl 3 rfl) ?_
      refine lv_imul hx hb d_Md_effective_47 ?_
      refine lv_topi (fun z9 e_z9 => ?_)
      obtain rfl : z9 = nI (32 * j) := by rw [e_z9]; exact (nI_mul 32 j)
      refine lv_iload hx hb d_Md_effective_48 (lv_at hl 0 rfl) ?_
      refine lv_iadd hx hb d_Md_effective_50 ?_
      refine lv_topi (fun z9 e_z9 => ?_)
      obtain rfl : z9 = nI (32 * j + i) := by rw [e_z9]; exact (nI_add (32 * j) i)
      refine ep_iald hx hb hK hP 4 0 rfl rfl (i := (32 * j + i)) (by omega) (by decide) d_Md_effective_51 ?_
      refine lv_istore (lv' := [(6, .int (ti (32 * j + i))), (5, .int (nI i)), (4, .int (nI c9)), (0, .ref a), (1, .int (nI j)), (2, .int t), (3, .int u)]) hx hb d_Md_effective_52 hl (by decide) rfl (fun ls hl => ?_)
      refine lv_iload hx hb d_Md_effective_54 (lv_at hl 2 rfl) ?_
      refine lv_iload hx hb d_Md_effective_56 (lv_at hl 0 rfl) ?_
      refine lv_iload_n hx hb d_Md_effective_58 rfl (lv_at hl 5 rfl) ?_
      refine lv_icmp_lt (tgt := 82) hx hb d_Md_effective_59 (by decide) (fun hc1 => ?_) (fun hc1 => ?_)
      · have hc1 : (ti (32 * j + i)) < t := hc1
        refine lv_iconst (v := 0) hx hb d_Md_effective_82 (by decide) ?_
        refine lv_iadd hx hb d_Md_effective_83 ?_
        refine lv_topi (fun z9 e_z9 => ?_)
        obtain rfl : z9 = nI (c9 + 0) := by rw [e_z9]; exact (nI_add c9 0)
        refine lv_istore (lv' := [(4, .int (nI (c9 + 0))), (6, .int (ti (32 * j + i))), (5, .int (nI i)), (0, .ref a), (1, .int (nI j)), (2, .int t), (3, .int u)]) hx hb d_Md_effective_84 hl (by decide) rfl (fun ls hl => ?_)
        refine lv_iinc (k := 2) (lv' := [(5, .int (nI (i + 1))), (4, .int (nI (c9 + 0))), (6, .int (ti (32 * j + i))), (0, .ref a), (1, .int (nI j)), (2, .int t), (3, .int u)]) hx hb d_Md_effective_86 hl rfl (inc1 _) (by decide) rfl (fun ls hl => ?_)
        refine lv_goto (tgt := 29) hx hb d_Md_effective_89 (by decide) ?_
        rw [if_pos hc1] at hR
        exact ih (i + 1) (c9 + 0) mc it vs se sm rs wk _ _ ls (by omega) hR (lv_sub hl [0, 1, 3, 4, 5, 6] rfl) hP hS
      · have hc1 : ¬ ((ti (32 * j + i)) < t) := hc1
        refine lv_iload hx hb d_Md_effective_62 (lv_at hl 0 rfl) ?_
        refine lv_iload_n hx hb d_Md_effective_64 rfl (lv_at hl 6 rfl) ?_
        refine lv_icmp_gt (tgt := 82) hx hb d_Md_effective_65 (by decide) (fun hc2 => ?_) (fun hc2 => ?_)
        · have hc2 : u < (ti (32 * j + i)) := hc2
          refine lv_iconst (v := 0) hx hb d_Md_effective_82 (by decide) ?_
          refine lv_iadd hx hb d_Md_effective_83 ?_
          refine lv_topi (fun z9 e_z9 => ?_)
          obtain rfl : z9 = nI (c9 + 0) := by rw [e_z9]; exact (nI_add c9 0)
          refine lv_istore (lv' := [(4, .int (nI (c9 + 0))), (6, .int (ti (32 * j + i))), (5, .int (nI i)), (0, .ref a), (1, .int (nI j)), (2, .int t), (3, .int u)]) hx hb d_Md_effective_84 hl (by decide) rfl (fun ls hl => ?_)
          refine lv_iinc (k := 2) (lv' := [(5, .int (nI (i + 1))), (4, .int (nI (c9 + 0))), (6, .int (ti (32 * j + i))), (0, .ref a), (1, .int (nI j)), (2, .int t), (3, .int u)]) hx hb d_Md_effective_86 hl rfl (inc1 _) (by decide) rfl (fun ls hl => ?_)
          refine lv_goto (tgt := 29) hx hb d_Md_effective_89 (by decide) ?_
          rw [if_neg hc1, if_pos hc2] at hR
          exact ih (i + 1) (c9 + 0) mc it vs se sm rs wk _ _ ls (by omega) hR (lv_sub hl [0, 1, 3, 4, 5, 6] rfl) hP hS
        · have hc2 : ¬ (u < (ti (32 * j + i))) := hc2
          refine lv_aload_n hx hb d_Md_effective_68 rfl (lv_at hl 3 rfl) ?_
          refine va_get (D := D) (ci := 9) (v := .ref (a + 12)) (C := R_Md) (T := F_Md) (N := 17) hx hb hg in_Md hown hK hP 0 rfl rfl 14 (Nat.le_of_ble_eq_true rfl) (hg _ tw_720) (fun _ h9 => h9) rfl d_Md_effective_69 ?_
          refine lv_iload hx hb d_Md_effective_72 (lv_at hl 1 rfl) ?_
          refine ep_zald hx hb hK hP 12 2 rfl rfl (i := i) (by omega) (by decide) d_Md_effective_74 ?_
          refine lv_if_eq (tgt := 82) hx hb d_Md_effective_75 (by decide) (fun hc3 => ?_) (fun hc3 => ?_)
          · have hc3 : (wk i) = 0 := hc3
            refine lv_iconst (v := 0) hx hb d_Md_effective_82 (by decide) ?_
            refine lv_iadd hx hb d_Md_effective_83 ?_
            refine lv_topi (fun z9 e_z9 => ?_)
            obtain rfl : z9 = nI (c9 + 0) := by rw [e_z9]; exact (nI_add c9 0)
            refine lv_istore (lv' := [(4, .int (nI (c9 + 0))), (6, .int (ti (32 * j + i))), (5, .int (nI i)), (0, .ref a), (1, .int (nI j)), (2, .int t), (3, .int u)]) hx hb d_Md_effective_84 hl (by decide) rfl (fun ls hl => ?_)
            refine lv_iinc (k := 2) (lv' := [(5, .int (nI (i + 1))), (4, .int (nI (c9 + 0))), (6, .int (ti (32 * j + i))), (0, .ref a), (1, .int (nI j)), (2, .int t), (3, .int u)]) hx hb d_Md_effective_86 hl rfl (inc1 _) (by decide) rfl (fun ls hl => ?_)
            refine lv_goto (tgt := 29) hx hb d_Md_effective_89 (by decide) ?_
            rw [if_neg hc1, if_neg hc2, if_pos hc3] at hR
            exact ih (i + 1) (c9 + 0) mc it vs se sm rs wk _ _ ls (by omega) hR (lv_sub hl [0, 1, 3, 4, 5, 6] rfl) hP hS
          · have hc3 : ¬ ((wk i) = 0) := hc3
            refine lv_iconst (v := 1) hx hb d_Md_effective_78 (by decide) ?_
            refine lv_goto (tgt := 83) hx hb d_Md_effective_79 (by decide) ?_
            refine lv_iadd hx hb d_Md_effective_83 ?_
            refine lv_topi (fun z9 e_z9 => ?_)
            obtain rfl : z9 = nI (c9 + 1) := by rw [e_z9]; exact (nI_add c9 1)
            refine lv_istore (lv' := [(4, .int (nI (c9 + 1))), (6, .int (ti (32 * j + i))), (5, .int (nI i)), (0, .ref a), (1, .int (nI j)), (2, .int t), (3, .int u)]) hx hb d_Md_effective_84 hl (by decide) rfl (fun ls hl => ?_)
            refine lv_iinc (k := 2) (lv' := [(5, .int (nI (i + 1))), (4, .int (nI (c9 + 1))), (6, .int (ti (32 * j + i))), (0, .ref a), (1, .int (nI j)), (2, .int t), (3, .int u)]) hx hb d_Md_effective_86 hl rfl (inc1 _) (by decide) rfl (fun ls hl => ?_)
            refine lv_goto (tgt := 29) hx hb d_Md_effective_89 (by decide) ?_
            rw [if_neg hc1, if_neg hc2, if_neg hc3] at hR
            exact ih (i + 1) (c9 + 1) mc it vs se sm rs wk _ _ ls (by omega) hR (lv_sub hl [0, 1, 3, 4, 5, 6] rfl) hP hS
  have hR : (g_Mo_effective_3_29 kn ti j t u n 0 0 ((f_Mo_run_3 ti nm xa it vs se rs wk n j u).1) ((f_Mo_run_3 ti nm xa it vs se rs wk n j u).2.1) ((f_Mo_run_3 ti nm xa it vs se rs wk n j u).2.2.1) ((f_Mo_run_3 ti nm xa it vs se rs wk n j u).2.2.2.1) ((f_Mo_run_3 ti nm xa it vs se rs wk n j u).2.2.2.2.1) ((f_Mo_run_3 ti nm xa it vs se rs wk n j u).2.2.2.2.2.1) ((f_Mo_run_3 ti nm xa it vs se rs wk n j u).2.2.2.2.2.2)) = R := hR
  refine lv_aload_n hx hb d_Md_effective_0 rfl (lv_at hl 0 rfl) ?_
  refine lv_iload_n hx hb d_Md_effective_1 rfl (lv_at hl 1 rfl) ?_
  refine lv_iload_n hx hb d_Md_effective_2 rfl (lv_at hl 2 rfl) ?_
  refine lv_iload_n hx hb d_Md_effective_3 rfl (lv_at hl 3 rfl) ?_
  refine ep_callH (W.runV (As := [.int (nI j), .int t, .int u]) (rest := []) ⟨hx, hb, hml, hown, hg⟩ (m_Mo_lacksTwo l D cI cJ cZ cO a code kn ed ct ti nm xa xb ma it vs se sm rs wk ors owk j t u (by omega) _ rfl) (ep_cwV 3 hg tw_896 tw_898 ts_25 tw_12 tk_Md_lacksTwo rfl rfl (by decide +kernel) ⟨(Nat.le_of_ble_eq_true rfl), (Nat.le_of_ble_eq_true rfl)⟩) ⟨ep_blind, va_recv (q0 := 0) (ci := 9) hK hP rfl rfl, ep_pre hKn (hP)⟩ rfl rfl hl.1 rfl (lv_room (Nat.le_of_ble_eq_true rfl)) d_Md_effective_4 ⟨Nat.zero_le _, Nat.zero_le _⟩) hS (fun q h => h) (fun H locs hsz9 hk1 hP1 hS => ?_)
  refine W.eq (g2 := F0 m 7 ls [.int ((f_Mo_lacksTwo kn j t u).1)]) rfl ?_
  have hP : va_P D cls (wMo cI cJ cZ a ((f_Mo_lacksTwo kn j t u).2) kn ed ct ti nm xa xb ma it vs se sm rs wk ors owk) H := hP1
  have hD : va_D (blk a 15) (wMo cI cJ cZ a ((f_Mo_lacksTwo kn j t u).2) kn ed ct ti nm xa xb ma it vs se sm rs wk ors owk) := (blk_D (wMo_in))
  refine lv_if_eq (tgt := 12) hx hb d_Md_effective_7 (by decide) (fun hc => ?_) (fun hc => absurd hlk hc)
  refine lv_aload_n hx hb d_Md_effective_12 rfl (lv_at hl 0 rfl) ?_
  refine lv_iload_n hx hb d_Md_effective_13 rfl (lv_at hl 1 rfl) ?_
  refine lv_aload_n hx hb d_Md_effective_14 rfl (lv_at hl 0 rfl) ?_
  refine lv_iload_n hx hb d_Md_effective_15 rfl (lv_at hl 1 rfl) ?_
  refine ep_callP (W.runV (As := [.int (nI j)]) (rest := [.int (nI j), .ref a]) ⟨hx, hb, hml, hown, hg⟩ (m_Mo_kindOf l D cI cJ cZ cO a ((f_Mo_lacksTwo kn j t u).2) kn ed ct ti nm xa xb ma it vs se sm rs wk ors owk j (by omega) _ rfl) (ep_cwV 1 hg tw_789 tw_791 ts_11 tw_12 tk_Md_kindOf rfl rfl (by decide +kernel) ⟨(Nat.le_of_ble_eq_true rfl), (Nat.le_of_ble_eq_true rfl)⟩) ⟨ep_blind, va_recv (q0 := 0) (ci := 9) hK hP rfl rfl, ep_pre hKn (hP)⟩ rfl rfl hl.1 rfl (lv_room (Nat.le_of_ble_eq_true rfl)) d_Md_effective_16 ⟨Nat.zero_le _, Nat.zero_le _⟩) ?_
  refine W.eq (g2 := F0 m 19 ls [.int (f_Mo_kindOf kn j), .int (nI j), .ref a]) rfl ?_
  refine lv_topi (fun z9 e_z9 => ?_)
  obtain rfl : z9 = 3 := by rw [e_z9]; exact (by rw [show f_Mo_kindOf kn j = kn j - 1 from rfl, hk]; decide)
  refine lv_iload_n hx hb d_Md_effective_19 rfl (lv_at hl 3 rfl) ?_
  refine ep_callH (W.runV (As := [.int (nI j), .int 3, .int u]) (rest := []) ⟨hx, hb, hml, hown, hg⟩ (m_Mo_run_3 l D cI cJ cZ cO a ((f_Mo_lacksTwo kn j t u).2) kn ed ct ti nm xa xb ma it vs se sm rs wk ors owk n j u (by omega) hct (by omega) _ rfl) (ep_cwV 3 hg tw_832 tw_834 ts_17 tw_12 tk_Md_run rfl rfl (by decide +kernel) ⟨(Nat.le_of_ble_eq_true rfl), (Nat.le_of_ble_eq_true rfl)⟩) ⟨ep_blind, va_recv (q0 := 0) (ci := 9) hK hP rfl rfl, ep_pre hKn (hP)⟩ rfl rfl hl.1 rfl (lv_room (Nat.le_of_ble_eq_true rfl)) d_Md_effective_20 ⟨Nat.zero_le _, Nat.zero_le _⟩) hS (fun q h => h) (fun H locs hsz9 hk1 hP1 hS => ?_)
  refine W.eq (g2 := F0 m 23 ls []) rfl ?_
  have hP : va_P D cls (wMo cI cJ cZ a ((f_Mo_lacksTwo kn j t u).2) kn ed ct ti nm xa xb (nI ((f_Mo_run_3 ti nm xa it vs se rs wk n j u).1)) ((f_Mo_run_3 ti nm xa it vs se rs wk n j u).2.1) ((f_Mo_run_3 ti nm xa it vs se rs wk n j u).2.2.1) ((f_Mo_run_3 ti nm xa it vs se rs wk n j u).2.2.2.1) ((f_Mo_run_3 ti nm xa it vs se rs wk n j u).2.2.2.2.1) ((f_Mo_run_3 ti nm xa it vs se rs wk n j u).2.2.2.2.2.1) ((f_Mo_run_3 ti nm xa it vs se rs wk n j u).2.2.2.2.2.2) ors owk) H := hP1
  have hD : va_D (blk a 15) (wMo cI cJ cZ a ((f_Mo_lacksTwo kn j t u).2) kn ed ct ti nm xa xb (nI ((f_Mo_run_3 ti nm xa it vs se rs wk n j u).1)) ((f_Mo_run_3 ti nm xa it vs se rs wk n j u).2.1) ((f_Mo_run_3 ti nm xa it vs se rs wk n j u).2.2.1) ((f_Mo_run_3 ti nm xa it vs se rs wk n j u).2.2.2.1) ((f_Mo_run_3 ti nm xa it vs se rs wk n j u).2.2.2.2.1) ((f_Mo_run_3 ti nm xa it vs se rs wk n j u).2.2.2.2.2.1) ((f_Mo_run_3 ti nm xa it vs se rs wk n j u).2.2.2.2.2.2) ors owk) := (blk_D (wMo_in))
  refine lv_iconst (v := 0) hx hb d_Md_effective_23 (by decide) ?_
  refine lv_istore (lv' := [(4, .int 0), (0, .ref a), (1, .int (nI j)), (2, .int t), (3, .int u)]) hx hb d_Md_effective_24 hl (by decide) rfl (fun ls hl => ?_)
  refine lv_iconst (v := 0) hx hb d_Md_effective_26 (by decide) ?_
  refine lv_istore (lv' := [(5, .int 0), (4, .int 0), (0, .ref a), (1, .int (nI j)), (2, .int t), (3, .int u)]) hx hb d_Md_effective_27 hl (by decide) rfl (fun ls hl => ?_)
  exact key_29 n 0 0 ((f_Mo_run_3 ti nm xa it vs se rs wk n j u).1) ((f_Mo_run_3 ti nm xa it vs se rs wk n j u).2.1) ((f_Mo_run_3 ti nm xa it vs se rs wk n j u).2.2.1) ((f_Mo_run_3 ti nm xa it vs se rs wk n j u).2.2.2.1) ((f_Mo_run_3 ti nm xa it vs se rs wk n j u).2.2.2.2.1) ((f_Mo_run_3 ti nm xa it vs se rs wk n j u).2.2.2.2.2.1) ((f_Mo_run_3 ti nm xa it vs se rs wk n j u).2.2.2.2.2.2) _ _ ls (by omega) hR hl hP hS

def g_Mo_firstChange_3_227 (kn : Nat → Int32) (ti : Nat → Int32) (n : Nat) (j : Nat) (t : Int32) (u : Int32) : Nat → Nat → Int32 → Nat → (Nat → Int32) → (Nat → Int32) → (Nat → Int32) → Int64 → (Nat → Int64) → (Nat → Int32) → (Nat → Int64) → (Nat → Int32) → Int32 × Int32 × Nat × (Nat → Int32) × (Nat → Int32) × (Nat → Int32) × Int64 × (Nat → Int64) × (Nat → Int32) × (Nat → Int64) × (Nat → Int32)
  | 0, i, be, mc, it, vs, se, sm, rs, wk, ors, owk => (be, (f_Mo_lacksTwo kn j t u).2, mc, it, vs, se, sm, rs, wk, ors, owk)
  | k + 1, i, be, mc, it, vs, se, sm, rs, wk, ors, owk => if ¬ (f_Mo_find ti n j (ti (32 * (j + 4) + i))) = -1 then (g_Mo_firstChange_3_227 kn ti n j t u k (i + 1) be mc it vs se sm rs wk ors owk) else (if (ti (32 * (j + 4) + i)) < t then (g_Mo_firstChange_3_227 kn ti n j t u k (i + 1) be mc it vs se sm rs wk ors owk) else (if u < (ti (32 * (j + 4) + i)) then (g_Mo_firstChange_3_227 kn ti n j t u k (i + 1) be mc it vs se sm rs wk ors owk) else (if be = 0 then (g_Mo_firstChange_3_227 kn ti n j t u k (i + 1) (ti (32 * (j + 4) + i)) mc it vs se sm rs wk ors owk) else (if be ≤ (ti (32 * (j + 4) + i)) then (g_Mo_firstChange_3_227 kn ti n j t u k (i + 1) be mc it vs se sm rs wk ors owk) else (g_Mo_firstChange_3_227 kn ti n j t u k (i + 1) (ti (32 * (j + 4) + i)) mc it vs se sm rs wk ors owk)))))

def g_Mo_firstChange_3_97 (kn : Nat → Int32) (ti : Nat → Int32) (n : Nat) (n2 : Nat) (j : Nat) (t : Int32) (u : Int32) : Nat → Nat → Int32 → Nat → (Nat → Int32) → (Nat → Int32) → (Nat → Int32) → Int64 → (Nat → Int64) → (Nat → Int32) → (Nat → Int64) → (Nat → Int32) → Int32 × Int32 × Nat × (Nat → Int32) × (Nat → Int32) × (Nat → Int32) × Int64 × (Nat → Int64) × (Nat → Int32) × (Nat → Int64) × (Nat → Int32)
  | 0, i, be, mc, it, vs, se, sm, rs, wk, ors, owk => g_Mo_firstChange_3_227 kn ti n j t u n2 0 be mc it vs se sm rs wk ors owk
  | k + 1, i, be, mc, it, vs, se, sm, rs, wk, ors, owk => if ¬ (f_Mo_find ti n2 (j + 4) (ti (32 * j + i))) = -1 then (if (lg_cmp (ors ((f_Mo_find ti n2 (j + 4) (ti (32 * j + i))).toNatClampNeg)) (rs i)) = 0 then (if (owk ((f_Mo_find ti n2 (j + 4) (ti (32 * j + i))).toNatClampNeg)) = (wk i) then (g_Mo_firstChange_3_97 kn ti n n2 j t u k (i + 1) be mc it vs se sm rs wk ors owk) else (if (ti (32 * j + i)) < t then (g_Mo_firstChange_3_97 kn ti n n2 j t u k (i + 1) be mc it vs se sm rs wk ors owk) else (if u < (ti (32 * j + i)) then (g_Mo_firstChange_3_97 kn ti n n2 j t u k (i + 1) be mc it vs se sm rs wk ors owk) else (if be = 0 then (g_Mo_firstChange_3_97 kn ti n n2 j t u k (i + 1) (ti (32 * j + i)) mc it vs se sm rs wk ors owk) else (if be ≤ (ti (32 * j + i)) then (g_Mo_firstChange_3_97 kn ti n n2 j t u k (i + 1) be mc it vs se sm rs wk ors owk) else (g_Mo_firstChange_3_97 kn ti n n2 j t u k (i + 1) (ti (32 * j + i)) mc it vs se sm rs wk ors owk)))))) else (if (ti (32 * j + i)) < t then (g_Mo_firstChange_3_97 kn ti n n2 j t u k (i + 1) be mc it vs se sm rs wk ors owk) else (if u < (ti (32 * j + i)) then (g_Mo_firstChange_3_97 kn ti n n2 j t u k (i + 1) be mc it vs se sm rs wk ors owk) else (if be = 0 then (g_Mo_firstChange_3_97 kn ti n n2 j t u k (i + 1) (ti (32 * j + i)) mc it vs se sm rs wk ors owk) else (if be ≤ (ti (32 * j + i)) then (g_Mo_firstChange_3_97 kn ti n n2 j t u k (i + 1) be mc it vs se sm rs wk ors owk) else (g_Mo_firstChange_3_97 kn ti n n2 j t u k (i + 1) (ti (32 * j + i)) mc it vs se sm rs wk ors owk)))))) else (if (ti (32 * j + i)) < t then (g_Mo_firstChange_3_97 kn ti n n2 j t u k (i + 1) be mc it vs se sm rs wk ors owk) else (if u < (ti (32 * j + i)) then (g_Mo_firstChange_3_97 kn ti n n2 j t u k (i + 1) be mc it vs se sm rs wk ors owk) else (if be = 0 then (g_Mo_firstChange_3_97 kn ti n n2 j t u k (i + 1) (ti (32 * j + i)) mc it vs se sm rs wk ors owk) else (if be ≤ (ti (32 * j + i)) then (g_Mo_firstChange_3_97 kn ti n n2 j t u k (i + 1) be mc it vs se sm rs wk ors owk) else (g_Mo_firstChange_3_97 kn ti n n2 j t u k (i + 1) (ti (32 * j + i)) mc it vs se sm rs wk ors owk)))))

def g_Mo_firstChange_3_38 (kn : Nat → Int32) (ti : Nat → Int32) (nm : Nat → Int32) (xa : Nat → Int32) (n : Nat) (n2 : Nat) (j : Nat) (t : Int32) (u : Int32) : Nat → Nat → Nat → (Nat → Int32) → (Nat → Int32) → (Nat → Int32) → Int64 → (Nat → Int64) → (Nat → Int32) → (Nat → Int64) → (Nat → Int32) → Int32 × Int32 × Nat × (Nat → Int32) × (Nat → Int32) × (Nat → Int32) × Int64 × (Nat → Int64) × (Nat → Int32) × (Nat → Int64) × (Nat → Int32)
  | 0, i, mc, it, vs, se, sm, rs, wk, ors, owk => g_Mo_firstChange_3_97 kn ti n n2 j t u n 0 0 ((f_Mo_run_3 ti nm xa it vs se rs wk n j 1000000000).1) ((f_Mo_run_3 ti nm xa it vs se rs wk n j 1000000000).2.1) ((f_Mo_run_3 ti nm xa it vs se rs wk n j 1000000000).2.2.1) ((f_Mo_run_3 ti nm xa it vs se rs wk n j 1000000000).2.2.2.1) ((f_Mo_run_3 ti nm xa it vs se rs wk n j 1000000000).2.2.2.2.1) ((f_Mo_run_3 ti nm xa it vs se rs wk n j 1000000000).2.2.2.2.2.1) ((f_Mo_run_3 ti nm xa it vs se rs wk n j 1000000000).2.2.2.2.2.2) ors owk
  | k + 1, i, mc, it, vs, se, sm, rs, wk, ors, owk => g_Mo_firstChange_3_38 kn ti nm xa n n2 j t u k (i + 1) mc it vs se sm rs wk (vp_updL ors i (rs i)) (upd owk i (wk i))

def f_Mo_firstChange_3 (kn : Nat → Int32) (ti : Nat → Int32) (nm : Nat → Int32) (xa : Nat → Int32) (it : Nat → Int32) (vs : Nat → Int32) (se : Nat → Int32) (rs : Nat → Int64) (wk : Nat → Int32) (ors : Nat → Int64) (owk : Nat → Int32) (n : Nat) (n2 : Nat) (j : Nat) (t : Int32) (u : Int32) : Int32 × Int32 × Nat × (Nat → Int32) × (Nat → Int32) × (Nat → Int32) × Int64 × (Nat → Int64) × (Nat → Int32) × (Nat → Int64) × (Nat → Int32) := g_Mo_firstChange_3_38 kn ti nm xa n n2 j t u 32 0 ((f_Mo_run_3 ti nm xa it vs se rs wk n2 (j + 4) 1000000000).1) ((f_Mo_run_3 ti nm xa it vs se rs wk n2 (j + 4) 1000000000).2.1) ((f_Mo_run_3 ti nm xa it vs se rs wk n2 (j + 4) 1000000000).2.2.1) ((f_Mo_run_3 ti nm xa it vs se rs wk n2 (j + 4) 1000000000).2.2.2.1) ((f_Mo_run_3 ti nm xa it vs se rs wk n2 (j + 4) 1000000000).2.2.2.2.1) ((f_Mo_run_3 ti nm xa it vs se rs wk n2 (j + 4) 1000000000).2.2.2.2.2.1) ((f_Mo_run_3 ti nm xa it vs se rs wk n2 (j + 4) 1000000000).2.2.2.2.2.2) ors owk
set_option maxHeartbeats 4000000 in
set_option maxRecDepth 100000 in
theorem m_Mo_firstChange_3 (l : Launch) (D : va_G) (cI cJ cZ cO : ClassId) (a : Nat) (code : Int32) (kn : Nat → Int32) (ed : Nat → Int32) (ct : Nat → Int32) (ti : Nat → Int32) (nm : Nat → Int32) (xa : Nat → Int32) (xb : Nat → Int32) (ma : Int32) (it : Nat → Int32) (vs : Nat → Int32) (se : Nat → Int32) (sm : Int64) (rs : Nat → Int64) (wk : Nat → Int32) (ors : Nat → Int64) (owk : Nat → Int32) (n : Nat) (n2 : Nat) (j : Nat) (t : Int32) (u : Int32) (hj : j < 4) (hlk : (f_Mo_lacksTwo kn j t u).1 = 0) (hk : kn j = 4) (hct : ct j = nI n) (hn : n ≤ 32) (hct2 : ct (j + 4) = nI n2) (hn2 : n2 ≤ 32) (hbz : bz wk) (hed : ¬ ed j = 0) (R : Int32 × Int32 × Nat × (Nat → Int32) × (Nat → Int32) × (Nat → Int32) × Int64 × (Nat → Int64) × (Nat → Int32) × (Nat → Int64) × (Nat → Int32)) (hR : f_Mo_firstChange_3 kn ti nm xa it vs se rs wk ors owk n n2 j t u = R) : Met l y_Md_firstChange (k_Md_firstChange :: gt) rm_Md_firstChange (Pc0 D cI cJ cZ cO [.ref a, .int (nI j), .int t, .int u] (fun H => va_P D cls (wMo cI cJ cZ a code kn ed ct ti nm xa xb ma it vs se sm rs wk ors owk) H)) (Qd (blk a 15) (some (.int R.1)) (fun H => va_P D cls (wMo cI cJ cZ a R.2.1 kn ed ct ti nm xa xb (nI R.2.2.1) R.2.2.2.1 R.2.2.2.2.1 R.2.2.2.2.2.1 R.2.2.2.2.2.2.1 R.2.2.2.2.2.2.2.1 R.2.2.2.2.2.2.2.2.1 R.2.2.2.2.2.2.2.2.2.1 R.2.2.2.2.2.2.2.2.2.2) H)) 0 0 (blk a 15) := by
  refine Met.ofW (cc := c_Md_firstChange) (maxL := 9) (ret := (Option.some FieldType.int)) (by decide) rfl ?_
  intro p e s m args below meth c s₁ B hml hv
  obtain ⟨rfl, hKn, hP⟩ := hv
  have hx := B.exec
  have hb := B.bytes
  have hr := B.returns
  have hts := atoms_spec (ws := k_Md_firstChange :: gt) B.pre
  have hg : ∀ w ∈ gt, w.before _ s = true := fun w h => hts w (List.mem_cons_of_mem _ h)
  have hown : s.vm.findClass R_Md = some m.cls := findClass_of_methodNamed B.named
  have hlocks := B.notSynchronized
  have hK := hKn.1
  have hl := lv_entry ([.ref a, .int (nI j), .int t, .int u]) (n := 9) (Nat.le_of_ble_eq_true rfl)
  rw [lg_entry_eq]
  generalize (lg_sl ([.ref a, .int (nI j), .int t, .int u]) ++ List.replicate (9 - (lg_sl ([.ref a, .int (nI j), .int t, .int u])).length) Slot.unset).toArray = ls at hl ⊢
  have hl : lv_has ls 9 [(0, .ref a), (1, .int (nI j)), (2, .int t), (3, .int u)] := hl
  have hS : va_S (blk a 15) s.heap s.heap [] := va_S.rf
  have hD : va_D (blk a 15) (wMo cI cJ cZ a code kn ed ct ti nm xa xb ma it vs se sm rs wk ors owk) := (blk_D (wMo_in))
  have key_227 : ∀ (k : Nat) (i : Nat) (be : Int32) (mc : Nat) (it : Nat → Int32) (vs : Nat → Int32) (se : Nat → Int32) (sm : Int64) (rs : Nat → Int64) (wk : Nat → Int32) (ors : Nat → Int64) (owk : Nat → Int32) (H : Heap) (locs : List Loc) (ls : Array Slot), i + k = n2 → g_Mo_firstChange_3_227 kn ti n j t u k i be mc it vs se sm rs wk ors owk = R → lv_has ls 9 [(5, .int (nI i)), (4, .int be), (0, .ref a), (1, .int (nI j)), (2, .int t), (3, .int u)] → va_P D cls (wMo cI cJ cZ a ((f_Mo_lacksTwo kn j t u).2) kn ed ct ti nm xa xb (nI mc) it vs se sm rs wk ors owk) H → va_S (blk a 15) s.heap H locs → W p l e (headSpec (k_Md_firstChange :: gt) rm_Md_firstChange).room s m ([.ref a, .int (nI j), .int t, .int u] : List Value).toArray below meth c H locs 0 0 (MQ below (Qd (blk a 15) (some (.int R.1)) (fun H => va_P D cls (wMo cI cJ cZ a R.2.1 kn ed ct ti nm xa xb (nI R.2.2.1) R.2.2.2.1 R.2.2.2.2.1 R.2.2.2.2.2.1 R.2.2.2.2.2.2.1 R.2.2.2.2.2.2.2.1 R.2.2.2.2.2.2.2.2.1 R.2.2.2.2.2.2.2.2.2.1 R.2.2.2.2.2.2.2.2.2.2) H)) ([.ref a, .int (nI j), .int t, .int u] : List Value).toArray s 0 0 (blk a 15)) (F0 m 227 ls []) := by
    intro k
    induction k with
    | zero =>
      intro i be mc it vs se sm rs wk ors owk H locs ls hi hR hl hP hS
      have hR : ((be, (f_Mo_lacksTwo kn j t u).2, mc, it, vs, se, sm, rs, wk, ors, owk)) = R := hR
      have hD : va_D (blk a 15) (wMo cI cJ cZ a ((f_Mo_lacksTwo kn j t u).2) kn ed ct ti nm xa xb (nI mc) it vs se sm rs wk ors owk) := (blk_D (wMo_in))
      refine lv_iload hx hb d_Md_firstChange_227 (lv_at hl 0 rfl) ?_
      refine lv_aload_n hx hb d_Md_firstChange_229 rfl (lv_at hl 2 rfl) ?_
      refine va_get (D := D) (ci := 9) (v := .ref (a + 3)) (C := R_Md) (T := F_Md) (N := 17) hx hb hg in_Md hown hK hP 0 rfl rfl 3 (Nat.le_of_ble_eq_true rfl) (hg _ tw_709) (fun _ h9 => h9) rfl d_Md_firstChange_230 ?_
      refine lv_iload_n hx hb d_Md_firstChange_233 rfl (lv_at hl 3 rfl) ?_
      refine lv_iconst (v := 4) hx hb d_Md_firstChange_234 (by decide) ?_
      refine lv_iadd hx hb d_Md_firstChange_235 ?_
      refine lv_topi (fun z9 e_z9 => ?_)
      obtain rfl : z9 = nI (j + 4) := by rw [e_z9]; exact (nI_add j 4)
      refine ep_iald hx hb hK hP 3 0 rfl rfl (i := (j + 4)) (by omega) (by decide) d_Md_firstChange_236 ?_
      refine lv_topi (fun z9 e_z9 => ?_)
      obtain rfl : z9 = nI n2 := by rw [e_z9]; exact hct2
      refine lv_icmp_ge (tgt := 305) hx hb d_Md_firstChange_237 (by decide) (fun hc => ?_) (fun hc => False.elim (by have hc : ¬ (n2 ≤ i) := fun h => hc (by exact (nI_leI (a := n2) (b := i) (by omega) (by omega)).mpr h); omega))
      refine lv_iload hx hb d_Md_firstChange_305 (lv_at hl 1 rfl) ?_
      subst hR
      exact W.iret (v := be) hx hb hr (fun t9 ht hW => ⟨rfl, hS.F ht, by rw [ht]; exact hP⟩) hS.2.2 d_Md_firstChange_307
    | succ k ih =>
      intro i be mc it vs se sm rs wk ors owk H locs ls hi hR hl hP hS
      have hR : (if ¬ (f_Mo_find ti n j (ti (32 * (j + 4) + i))) = -1 then (g_Mo_firstChange_3_227 kn ti n j t u k (i + 1) be mc it vs se sm rs wk ors owk) else (if (ti (32 * (j + 4) + i)) < t then (g_Mo_firstChange_3_227 kn ti n j t u k (i + 1) be mc it vs se sm rs wk ors owk) else (if u < (ti (32 * (j + 4) + i)) then (g_Mo_firstChange_3_227 kn ti n j t u k (i + 1) be mc it vs se sm rs wk ors owk) else (if be = 0 then (g_Mo_firstChange_3_227 kn ti n j t u k (i + 1) (ti (32 * (j + 4) + i)) mc it vs se sm rs wk ors owk) else (if be ≤ (ti (32 * (j + 4) + i)) then (g_Mo_firstChange_3_227 kn ti n j t u k (i + 1) be mc it vs se sm rs wk ors owk) else (g_Mo_firstChange_3_227 kn ti n j t u k (i + 1) (ti (32 * (j + 4) + i)) mc it vs se sm rs wk ors owk)))))) = R := hR
      have hD : va_D (blk a 15) (wMo cI cJ cZ a ((f_Mo_lacksTwo kn j t u).2) kn ed ct ti nm xa xb (nI mc) it vs se sm rs wk ors owk) := (blk_D (wMo_in))
      refine lv_iload hx hb d_Md_firstChange_227 (lv_at hl 0 rfl) ?_
      refine lv_aload_n hx hb d_Md_firstChange_229 rfl (lv_at hl 2 rfl) ?_
      refine va_get (D := D) (ci := 9) (v := .ref (a + 3)) (C := R_Md) (T := F_Md) (N := 17) hx hb hg in_Md hown hK hP 0 rfl rfl 3 (Nat.le_of_ble_eq_true rfl) (hg _ tw_709) (fun _ h9 => h9) rfl d_Md_firstChange_230 ?_
      refine lv_iload_n hx hb d_Md_firstChange_233 rfl (lv_at hl 3 rfl) ?_
      refine lv_iconst (v := 4) hx hb d_Md_firstChange_234 (by decide) ?_
      refine lv_iadd hx hb d_Md_firstChange_235 ?_
      refine lv_topi (fun z9 e_z9 => ?_)
      obtain rfl : z9 = nI (j + 4) := by rw [e_z9]; exact (nI_add j 4)
      refine ep_iald hx hb hK hP 3 0 rfl rfl (i := (j + 4)) (by omega) (by decide) d_Md_firstChange_236 ?_
      refine lv_topi (fun z9 e_z9 => ?_)
      obtain rfl : z9 = nI n2 := by rw [e_z9]; exact hct2
      refine lv_icmp_ge (tgt := 305) hx hb d_Md_firstChange_237 (by decide) (fun hc => False.elim (by have hc := (nI_leI (a := n2) (b := i) (by omega) (by omega)).mp hc; omega)) (fun hc => ?_)
      refine lv_aload_n hx hb d_Md_firstChange_240 rfl (lv_at hl 2 rfl) ?_
      refine va_get (D := D) (ci := 9) (v := .ref (a + 4)) (C := R_Md) (T := F_Md) (N := 17) hx hb hg in_Md hown hK hP 0 rfl rfl 4 (Nat.le_of_ble_eq_true rfl) (hg _ tw_710) (fun _ h9 => h9) rfl d_Md_firstChange_241 ?_
      refine lv_bipush (v := 32) hx hb d_Md_firstChange_244 (by decide) ?_
      refine lv_iload_n hx hb d_Md_firstChange_246 rfl (lv_at hl 3 rfl) ?_
      refine lv_iconst (v := 4) hx hb d_Md_firstChange_247 (by decide) ?_
      refine lv_iadd hx hb d_Md_firstChange_248 ?_
      refine lv_topi (fun z9 e_z9 => ?_)
      obtain rfl : z9 = nI (j + 4) := by rw [e_z9]; exact (nI_add j 4)
      refine lv_imul hx hb d_Md_firstChange_249 ?_
      refine lv_topi (fun z9 e_z9 => ?_)
      obtain rfl : z9 = nI (32 * (j + 4)) := by rw [e_z9]; exact (nI_mul 32 (j + 4))
      refine lv_iload hx hb d_Md_firstChange_250 (lv_at hl 0 rfl) ?_
      refine lv_iadd hx hb d_Md_firstChange_252 ?_
      refine lv_topi (fun z9 e_z9 => ?_)
      obtain rfl : z9 = nI (32 * (j + 4) + i) := by rw [e_z9]; exact (nI_add (32 * (j + 4)) i)
      refine ep_iald hx hb hK hP 4 0 rfl rfl (i := (32 * (j + 4) + i)) (by omega) (by decide) d_Md_firstChange_253 ?_
      refine lv_istore (lv' := [(6, .int (ti (32 * (j + 4) + i))), (5, .int (nI i)), (4, .int be), (0, .ref a), (1, .int (nI j)), (2, .int t), (3, .int u)]) hx hb d_Md_firstChange_254 hl (by decide) rfl (fun ls hl => ?_)
      refine lv_aload_n hx hb d_Md_firstChange_256 rfl (lv_at hl 3 rfl) ?_
      refine lv_iload_n hx hb d_Md_firstChange_257 rfl (lv_at hl 4 rfl) ?_
      refine lv_iload hx hb d_Md_firstChange_258 (lv_at hl 0 rfl) ?_
      refine ep_callP (W.runV (As := [.int (nI j), .int (ti (32 * (j + 4) + i))]) (rest := []) ⟨hx, hb, hml, hown, hg⟩ (m_Mo_find l D cI cJ cZ cO a ((f_Mo_lacksTwo kn j t u).2) kn ed ct ti nm xa xb (nI mc) it vs se sm rs wk ors owk n j (ti (32 * (j + 4) + i)) (by omega) hct (by omega) _ rfl) (ep_cwV 2 hg tw_785 tw_787 ts_10 tw_12 tk_Md_find rfl rfl (by decide +kernel) ⟨(Nat.le_of_ble_eq_true rfl), (Nat.le_of_ble_eq_true rfl)⟩) ⟨ep_blind, va_recv (q0 := 0) (ci := 9) hK hP rfl rfl, ep_pre hKn (hP)⟩ rfl rfl hl.1 rfl (lv_room (Nat.le_of_ble_eq_true rfl)) d_Md_firstChange_260 ⟨Nat.zero_le _, Nat.zero_le _⟩) ?_
      refine W.eq (g2 := F0 m 263 ls [.int (f_Mo_find ti n j (ti (32 * (j + 4) + i)))]) rfl ?_
      refine lv_topi (fun z8 e_z8 => ?_)
      obtain rfl : z8 = oI (¬ (f_Mo_find ti n j (ti (32 * (j + 4) + i))) = -1) ((f_Mo_find ti n j (ti (32 * (j + 4) + i))).toNatClampNeg) := by rw [e_z8]; exact (oI_of (fi_at _ _ _ _ (by omega)))
      by_cases hc1 : ¬ (f_Mo_find ti n j (ti (32 * (j + 4) + i))) = -1
      · rw [show oI (¬ (f_Mo_find ti n j (ti (32 * (j + 4) + i))) = -1) ((f_Mo_find ti n j (ti (32 * (j + 4) + i))).toNatClampNeg) = nI ((f_Mo_find ti n j (ti (32 * (j + 4) + i))).toNatClampNeg) from if_pos hc1]
        have hp9 : (f_Mo_find ti n j (ti (32 * (j + 4) + i))).toNatClampNeg < n := fi_lt _ _ _ _ (by omega) hc1
        refine lv_if_ge (tgt := 295) hx hb d_Md_firstChange_263 (by decide) (fun hc => ?_) (fun hc => False.elim (by have hc : ¬ (0 ≤ (f_Mo_find ti n j (ti (32 * (j + 4) + i))).toNatClampNeg) := fun h => hc (by exact (nI_leI (a := 0) (b := (f_Mo_find ti n j (ti (32 * (j + 4) + i))).toNatClampNeg) (by omega) (by omega)).mpr h); omega))
        refine lv_iload hx hb d_Md_firstChange_295 (lv_at hl 2 rfl) ?_
        refine lv_istore (lv' := [(4, .int be), (6, .int (ti (32 * (j + 4) + i))), (5, .int (nI i)), (0, .ref a), (1, .int (nI j)), (2, .int t), (3, .int u)]) hx hb d_Md_firstChange_297 hl (by decide) rfl (fun ls hl => ?_)
        refine lv_iinc (k := 2) (lv' := [(5, .int (nI (i + 1))), (4, .int be), (6, .int (ti (32 * (j + 4) + i))), (0, .ref a), (1, .int (nI j)), (2, .int t), (3, .int u)]) hx hb d_Md_firstChange_299 hl rfl (inc1 _) (by decide) rfl (fun ls hl => ?_)
        refine lv_goto (tgt := 227) hx hb d_Md_firstChange_302 (by decide) ?_
        rw [if_pos hc1] at hR
        exact ih (i + 1) be mc it vs se sm rs wk ors owk _ _ ls (by omega) hR (lv_sub hl [0, 1, 3, 4, 5, 6] rfl) hP hS
      · rw [show oI (¬ (f_Mo_find ti n j (ti (32 * (j + 4) + i))) = -1) ((f_Mo_find ti n j (ti (32 * (j + 4) + i))).toNatClampNeg) = -1 from if_neg hc1]
        refine lv_if_ge (tgt := 295) hx hb d_Md_firstChange_263 (by decide) (fun hc => False.elim (by revert hc; decide)) (fun hc => ?_)
        refine lv_iload hx hb d_Md_firstChange_266 (lv_at hl 0 rfl) ?_
        refine lv_iload_n hx hb d_Md_firstChange_268 rfl (lv_at hl 5 rfl) ?_
        refine lv_icmp_lt (tgt := 295) hx hb d_Md_firstChange_269 (by decide) (fun hc2 => ?_) (fun hc2 => ?_)
        · have hc2 : (ti (32 * (j + 4) + i)) < t := hc2
          refine lv_iload hx hb d_Md_firstChange_295 (lv_at hl 2 rfl) ?_
          refine lv_istore (lv' := [(4, .int be), (6, .int (ti (32 * (j + 4) + i))), (5, .int (nI i)), (0, .ref a), (1, .int (nI j)), (2, .int t), (3, .int u)]) hx hb d_Md_firstChange_297 hl (by decide) rfl (fun ls hl => ?_)
          refine lv_iinc (k := 2) (lv' := [(5, .int (nI (i + 1))), (4, .int be), (6, .int (ti (32 * (j + 4) + i))), (0, .ref a), (1, .int (nI j)), (2, .int t), (3, .int u)]) hx hb d_Md_firstChange_299 hl rfl (inc1 _) (by decide) rfl (fun ls hl => ?_)
          refine lv_goto (tgt := 227) hx hb d_Md_firstChange_302 (by decide) ?_
          rw [if_neg hc1, if_pos hc2] at hR
          exact ih (i + 1) be mc it vs se sm rs wk ors owk _ _ ls (by omega) hR (lv_sub hl [0, 1, 3, 4, 5, 6] rfl) hP hS
        · have hc2 : ¬ ((ti (32 * (j + 4) + i)) < t) := hc2
          refine lv_iload hx hb d_Md_firstChange_272 (lv_at hl 0 rfl) ?_
          refine lv_iload_n hx hb d_Md_firstChange_274 rfl (lv_at hl 6 rfl) ?_
          refine lv_icmp_gt (tgt := 295) hx hb d_Md_firstChange_275 (by decide) (fun hc3 => ?_) (fun hc3 => ?_)
          · have hc3 : u < (ti (32 * (j + 4) + i)) := hc3
            refine lv_iload hx hb d_Md_firstChange_295 (lv_at hl 2 rfl) ?_
            refine lv_istore (lv' := [(4, .int be), (6, .int (ti (32 * (j + 4) + i))), (5, .int (nI i)), (0, .ref a), (1, .int (nI j)), (2, .int t), (3, .int u)]) hx hb d_Md_firstChange_297 hl (by decide) rfl (fun ls hl => ?_)
            refine lv_iinc (k := 2) (lv' := [(5, .int (nI (i + 1))), (4, .int be), (6, .int (ti (32 * (j + 4) + i))), (0, .ref a), (1, .int (nI j)), (2, .int t), (3, .int u)]) hx hb d_Md_firstChange_299 hl rfl (inc1 _) (by decide) rfl (fun ls hl => ?_)
            refine lv_goto (tgt := 227) hx hb d_Md_firstChange_302 (by decide) ?_
            rw [if_neg hc1, if_neg hc2, if_pos hc3] at hR
            exact ih (i + 1) be mc it vs se sm rs wk ors owk _ _ ls (by omega) hR (lv_sub hl [0, 1, 3, 4, 5, 6] rfl) hP hS
          · have hc3 : ¬ (u < (ti (32 * (j + 4) + i))) := hc3
            refine lv_iload hx hb d_Md_firstChange_278 (lv_at hl 2 rfl) ?_
            refine lv_if_eq (tgt := 290) hx hb d_Md_firstChange_280 (by decide) (fun hc4 => ?_) (fun hc4 => ?_)
            · have hc4 : be = 0 := hc4
              refine lv_iload hx hb d_Md_firstChange_290 (lv_at hl 0 rfl) ?_
              refine lv_goto (tgt := 297) hx hb d_Md_firstChange_292 (by decide) ?_
              refine lv_istore (lv' := [(4, .int (ti (32 * (j + 4) + i))), (6, .int (ti (32 * (j + 4) + i))), (5, .int (nI i)), (0, .ref a), (1, .int (nI j)), (2, .int t), (3, .int u)]) hx hb d_Md_firstChange_297 hl (by decide) rfl (fun ls hl => ?_)
              refine lv_iinc (k := 2) (lv' := [(5, .int (nI (i + 1))), (4, .int (ti (32 * (j + 4) + i))), (6, .int (ti (32 * (j + 4) + i))), (0, .ref a), (1, .int (nI j)), (2, .int t), (3, .int u)]) hx hb d_Md_firstChange_299 hl rfl (inc1 _) (by decide) rfl (fun ls hl => ?_)
              refine lv_goto (tgt := 227) hx hb d_Md_firstChange_302 (by decide) ?_
              rw [if_neg hc1, if_neg hc2, if_neg hc3, if_pos hc4] at hR
              exact ih (i + 1) (ti (32 * (j + 4) + i)) mc it vs se sm rs wk ors owk _ _ ls (by omega) hR (lv_sub hl [0, 1, 3, 4, 5, 6] rfl) hP hS
            · have hc4 : ¬ (be = 0) := hc4
              refine lv_iload hx hb d_Md_firstChange_283 (lv_at hl 0 rfl) ?_
              refine lv_iload hx hb d_Md_firstChange_285 (lv_at hl 2 rfl) ?_
              refine lv_icmp_ge (tgt := 295) hx hb d_Md_firstChange_287 (by decide) (fun hc5 => ?_) (fun hc5 => ?_)
              · have hc5 : be ≤ (ti (32 * (j + 4) + i)) := hc5
                refine lv_iload hx hb d_Md_firstChange_295 (lv_at hl 2 rfl) ?_
                refine lv_istore (lv' := [(4, .int be), (6, .int (ti (32 * (j + 4) + i))), (5, .int (nI i)), (0, .ref a), (1, .int (nI j)), (2, .int t), (3, .int u)]) hx hb d_Md_firstChange_297 hl (by decide) rfl (fun ls hl => ?_)
                refine lv_iinc (k := 2) (lv' := [(5, .int (nI (i + 1))), (4, .int be), (6, .int (ti (32 * (j + 4) + i))), (0, .ref a), (1, .int (nI j)), (2, .int t), (3, .int u)]) hx hb d_Md_firstChange_299 hl rfl (inc1 _) (by decide) rfl (fun ls hl => ?_)
                refine lv_goto (tgt := 227) hx hb d_Md_firstChange_302 (by decide) ?_
                rw [if_neg hc1, if_neg hc2, if_neg hc3, if_neg hc4, if_pos hc5] at hR
                exact ih (i + 1) be mc it vs se sm rs wk ors owk _ _ ls (by omega) hR (lv_sub hl [0, 1, 3, 4, 5, 6] rfl) hP hS
              · have hc5 : ¬ (be ≤ (ti (32 * (j + 4) + i))) := hc5
                refine lv_iload hx hb d_Md_firstChange_290 (lv_at hl 0 rfl) ?_
                refine lv_goto (tgt := 297) hx hb d_Md_firstChange_292 (by decide) ?_
                refine lv_istore (lv' := [(4, .int (ti (32 * (j + 4) + i))), (6, .int (ti (32 * (j + 4) + i))), (5, .int (nI i)), (0, .ref a), (1, .int (nI j)), (2, .int t), (3, .int u)]) hx hb d_Md_firstChange_297 hl (by decide) rfl (fun ls hl => ?_)
                refine lv_iinc (k := 2) (lv' := [(5, .int (nI (i + 1))), (4, .int (ti (32 * (j + 4) + i))), (6, .int (ti (32 * (j + 4) + i))), (0, .ref a), (1, .int (nI j)), (2, .int t), (3, .int u)]) hx hb d_Md_firstChange_299 hl rfl (inc1 _) (by decide) rfl (fun ls hl => ?_)
                refine lv_goto (tgt := 227) hx hb d_Md_firstChange_302 (by decide) ?_
                rw [if_neg hc1, if_neg hc2, if_neg hc3, if_neg hc4, if_neg hc5] at hR
                exact ih (i + 1) (ti (32 * (j + 4) + i)) mc it vs se sm rs wk ors owk _ _ ls (by omega) hR (lv_sub hl [0, 1, 3, 4, 5, 6] rfl) hP hS
  have key_97 : ∀ (k : Nat) (i : Nat) (be : Int32) (mc : Nat) (it : Nat → Int32) (vs : Nat → Int32) (se : Nat → Int32) (sm : Int64) (rs : Nat → Int64) (wk : Nat → Int32) (ors : Nat → Int64) (owk : Nat → Int32) (H : Heap) (locs : List Loc) (ls : Array Slot), i + k = n → g_Mo_firstChange_3_97 kn ti n n2 j t u k i be mc it vs se sm rs wk ors owk = R → lv_has ls 9 [(5, .int (nI i)), (4, .int be), (0, .ref a), (1, .int (nI j)), (2, .int t), (3, .int u)] → va_P D cls (wMo cI cJ cZ a ((f_Mo_lacksTwo kn j t u).2) kn ed ct ti nm xa xb (nI mc) it vs se sm rs wk ors owk) H → va_S (blk a 15) s.heap H locs → W p l e (headSpec (k_Md_firstChange :: gt) rm_Md_firstChange).room s m ([.ref a, .int (nI j), .int t, .int u] : List Value).toArray below meth c H locs 0 0 (MQ below (Qd (blk a 15) (some (.int R.1)) (fun H => va_P D cls (wMo cI cJ cZ a R.2.1 kn ed ct ti nm xa xb (nI R.2.2.1) R.2.2.2.1 R.2.2.2.2.1 R.2.2.2.2.2.1 R.2.2.2.2.2.2.1 R.2.2.2.2.2.2.2.1 R.2.2.2.2.2.2.2.2.1 R.2.2.2.2.2.2.2.2.2.1 R.2.2.2.2.2.2.2.2.2.2) H)) ([.ref a, .int (nI j), .int t, .int u] : List Value).toArray s 0 0 (blk a 15)) (F0 m 97 ls []) := by
    intro k
    induction k with
    | zero =>
      intro i be mc it vs se sm rs wk ors owk H locs ls hi hR hl hP hS
      have hR : (g_Mo_firstChange_3_227 kn ti n j t u n2 0 be mc it vs se sm rs wk ors owk) = R := hR
      have hD : va_D (blk a 15) (wMo cI cJ cZ a ((f_Mo_lacksTwo kn j t u).2) kn ed ct ti nm xa xb (nI mc) it vs se sm rs wk ors owk) := (blk_D (wMo_in))
      refine lv_iload hx hb d_Md_firstChange_97 (lv_at hl 0 rfl) ?_
      refine lv_aload_n hx hb d_Md_firstChange_99 rfl (lv_at hl 2 rfl) ?_
      refine va_get (D := D) (ci := 9) (v := .ref (a + 3)) (C := R_Md) (T := F_Md) (N := 17) hx hb hg in_Md hown hK hP 0 rfl rfl 3 (Nat.le_of_ble_eq_true rfl) (hg _ tw_709) (fun _ h9 => h9) rfl d_Md_firstChange_100 ?_
      refine lv_iload_n hx hb d_Md_firstChange_103 rfl (lv_at hl 3 rfl) ?_
      refine ep_iald hx hb hK hP 3 0 rfl rfl (i := j) (by omega) (by decide) d_Md_firstChange_104 ?_
      refine lv_topi (fun z9 e_z9 => ?_)
      obtain rfl : z9 = nI n := by rw [e_z9]; exact hct
      refine lv_icmp_ge (tgt := 224) hx hb d_Md_firstChange_105 (by decide) (fun hc => ?_) (fun hc => False.elim (by have hc : ¬ (n ≤ i) := fun h => hc (by exact (nI_leI (a := n) (b := i) (by omega) (by omega)).mpr h); omega))
      refine lv_iconst (v := 0) hx hb d_Md_firstChange_224 (by decide) ?_
      refine lv_istore (lv' := [(5, .int 0), (4, .int be), (0, .ref a), (1, .int (nI j)), (2, .int t), (3, .int u)]) hx hb d_Md_firstChange_225 hl (by decide) rfl (fun ls hl => ?_)
      exact key_227 n2 0 be mc it vs se sm rs wk ors owk _ _ ls (by omega) hR hl hP hS
    | succ k ih =>
      intro i be mc it vs se sm rs wk ors owk H locs ls hi hR hl hP hS
      have hR : (if ¬ (f_Mo_find ti n2 (j + 4) (ti (32 * j + i))) = -1 then (if (lg_cmp (ors ((f_Mo_find ti n2 (j + 4) (ti (32 * j + i))).toNatClampNeg)) (rs i)) = 0 then (if (owk ((f_Mo_find ti n2 (j + 4) (ti (32 * j + i))).toNatClampNeg)) = (wk i) then (g_Mo_firstChange_3_97 kn ti n n2 j t u k (i + 1) be mc it vs se sm rs wk ors owk) else (if (ti (32 * j + i)) < t then (g_Mo_firstChange_3_97 kn ti n n2 j t u k (i + 1) be mc it vs se sm rs wk ors owk) else (if u < (ti (32 * j + i)) then (g_Mo_firstChange_3_97 kn ti n n2 j t u k (i + 1) be mc it vs se sm rs wk ors owk) else (if be = 0 then (g_Mo_firstChange_3_97 kn ti n n2 j t u k (i + 1) (ti (32 * j + i)) mc it vs se sm rs wk ors owk) else (if be ≤ (ti (32 * j + i)) then (g_Mo_firstChange_3_97 kn ti n n2 j t u k (i + 1) be mc it vs se sm rs wk ors owk) else (g_Mo_firstChange_3_97 kn ti n n2 j t u k (i + 1) (ti (32 * j + i)) mc it vs se sm rs wk ors owk)))))) else (if (ti (32 * j + i)) < t then (g_Mo_firstChange_3_97 kn ti n n2 j t u k (i + 1) be mc it vs se sm rs wk ors owk) else (if u < (ti (32 * j + i)) then (g_Mo_firstChange_3_97 kn ti n n2 j t u k (i + 1) be mc it vs se sm rs wk ors owk) else (if be = 0 then (g_Mo_firstChange_3_97 kn ti n n2 j t u k (i + 1) (ti (32 * j + i)) mc it vs se sm rs wk ors owk) else (if be ≤ (ti (32 * j + i)) then (g_Mo_firstChange_3_97 kn ti n n2 j t u k (i + 1) be mc it vs se sm rs wk ors owk) else (g_Mo_firstChange_3_97 kn ti n n2 j t u k (i + 1) (ti (32 * j + i)) mc it vs se sm rs wk ors owk)))))) else (if (ti (32 * j + i)) < t then (g_Mo_firstChange_3_97 kn ti n n2 j t u k (i + 1) be mc it vs se sm rs wk ors owk) else (if u < (ti (32 * j + i)) then (g_Mo_firstChange_3_97 kn ti n n2 j t u k (i + 1) be mc it vs se sm rs wk ors owk) else (if be = 0 then (g_Mo_firstChange_3_97 kn ti n n2 j t u k (i + 1) (ti (32 * j + i)) mc it vs se sm rs wk ors owk) else (if be ≤ (ti (32 * j + i)) then (g_Mo_firstChange_3_97 kn ti n n2 j t u k (i + 1) be mc it vs se sm rs wk ors owk) else (g_Mo_firstChange_3_97 kn ti n n2 j t u k (i + 1) (ti (32 * j + i)) mc it vs se sm rs wk ors owk)))))) = R := hR
      have hD : va_D (blk a 15) (wMo cI cJ cZ a ((f_Mo_lacksTwo kn j t u).2) kn ed ct ti nm xa xb (nI mc) it vs se sm rs wk ors owk) := (blk_D (wMo_in))
      refine lv_iload hx hb d_Md_firstChange_97 (lv_at hl 0 rfl) ?_
      refine lv_aload_n hx hb d_Md_firstChange_99 rfl (lv_at hl 2 rfl) ?_
      refine va_get (D := D) (ci := 9) (v := .ref (a + 3)) (C := R_Md) (T := F_Md) (N := 17) hx hb hg in_Md hown hK hP 0 rfl rfl 3 (Nat.le_of_ble_eq_true rfl) (hg _ tw_709) (fun _ h9 => h9) rfl d_Md_firstChange_100 ?_
      refine lv_iload_n hx hb d_Md_firstChange_103 rfl (lv_at hl 3 rfl) ?_
      refine ep_iald hx hb hK hP 3 0 rfl rfl (i := j) (by omega) (by decide) d_Md_firstChange_104 ?_
      refine lv_topi (fun z9 e_z9 => ?_)
      obtain rfl : z9 = nI n := by rw [e_z9]; exact hct
      refine lv_icmp_ge (tgt := 224) hx hb d_Md_firstChange_105 (by decide) (fun hc => False.elim (by have hc := (nI_leI (a := n) (b := i) (by omega) (by omega)).mp hc; omega)) (fun hc => ?_)
      refine lv_aload_n hx hb d_Md_firstChange_108 rfl (lv_at hl 2 rfl) ?_
      refine va_get (D := D) (ci := 9) (v := .ref (a + 4)) (C := R_Md) (T := F_Md) (N := 17) hx hb hg in_Md hown hK hP 0 rfl rfl 4 (Nat.le_of_ble_eq_true rfl) (hg _ tw_710) (fun _ h9 => h9) rfl d_Md_firstChange_109 ?_
      refine lv_bipush (v := 32) hx hb d_Md_firstChange_112 (by decide) ?_
      refine lv_iload_n hx hb d_Md_firstChange_114 rfl (lv_at hl 3 rfl) ?_
      refine lv_imul hx hb d_Md_firstChange_115 ?_
      refine lv_topi (fun z9 e_z9 => ?_)
      obtain rfl : z9 = nI (32 * j) := by rw [e_z9]; exact (nI_mul 32 j)
      refine lv_iload hx hb d_Md_firstChange_116 (lv_at hl 0 rfl) ?_
      refine lv_iadd hx hb d_Md_firstChange_118 ?_
      refine lv_topi (fun z9 e_z9 => ?_)
      obtain rfl : z9 = nI (32 * j + i) := by rw [e_z9]; exact (nI_add (32 * j) i)
      refine ep_iald hx hb hK hP 4 0 rfl rfl (i := (32 * j + i)) (by omega) (by decide) d_Md_firstChange_119 ?_
      refine lv_istore (lv' := [(6, .int (ti (32 * j + i))), (5, .int (nI i)), (4, .int be), (0, .ref a), (1, .int (nI j)), (2, .int t), (3, .int u)]) hx hb d_Md_firstChange_120 hl (by decide) rfl (fun ls hl => ?_)
      refine lv_aload_n hx hb d_Md_firstChange_122 rfl (lv_at hl 3 rfl) ?_
      refine lv_iload_n hx hb d_Md_firstChange_123 rfl (lv_at hl 4 rfl) ?_
      refine lv_iconst (v := 4) hx hb d_Md_firstChange_124 (by decide) ?_
      refine lv_iadd hx hb d_Md_firstChange_125 ?_
      refine lv_topi (fun z9 e_z9 => ?_)
      obtain rfl : z9 = nI (j + 4) := by rw [e_z9]; exact (nI_add j 4)
      refine lv_iload hx hb d_Md_firstChange_126 (lv_at hl 0 rfl) ?_
      refine ep_callP (W.runV (As := [.int (nI (j + 4)), .int (ti (32 * j + i))]) (rest := []) ⟨hx, hb, hml, hown, hg⟩ (m_Mo_find l D cI cJ cZ cO a ((f_Mo_lacksTwo kn j t u).2) kn ed ct ti nm xa xb (nI mc) it vs se sm rs wk ors owk n2 (j + 4) (ti (32 * j + i)) (by omega) hct2 (by omega) _ rfl) (ep_cwV 2 hg tw_785 tw_787 ts_10 tw_12 tk_Md_find rfl rfl (by decide +kernel) ⟨(Nat.le_of_ble_eq_true rfl), (Nat.le_of_ble_eq_true rfl)⟩) ⟨ep_blind, va_recv (q0 := 0) (ci := 9) hK hP rfl rfl, ep_pre hKn (hP)⟩ rfl rfl hl.1 rfl (lv_room (Nat.le_of_ble_eq_true rfl)) d_Md_firstChange_128 ⟨Nat.zero_le _, Nat.zero_le _⟩) ?_
      refine W.eq (g2 := F0 m 131 ls [.int (f_Mo_find ti n2 (j + 4) (ti (32 * j + i)))]) rfl ?_
      refine lv_topi (fun z8 e_z8 => ?_)
      obtain rfl : z8 = oI (¬ (f_Mo_find ti n2 (j + 4) (ti (32 * j + i))) = -1) ((f_Mo_find ti n2 (j + 4) (ti (32 * j + i))).toNatClampNeg) := by rw [e_z8]; exact (oI_of (fi_at _ _ _ _ (by omega)))
      by_cases hc6 : ¬ (f_Mo_find ti n2 (j + 4) (ti (32 * j + i))) = -1
      · rw [show oI (¬ (f_Mo_find ti n2 (j + 4) (ti (32 * j + i))) = -1) ((f_Mo_find ti n2 (j + 4) (ti (32 * j + i))).toNatClampNeg) = nI ((f_Mo_find ti n2 (j + 4) (ti (32 * j + i))).toNatClampNeg) from if_pos hc6]
        have hp9 : (f_Mo_find ti n2 (j + 4) (ti (32 * j + i))).toNatClampNeg < n2 := fi_lt _ _ _ _ (by omega) hc6
        refine lv_istore (lv' := [(7, .int (nI ((f_Mo_find ti n2 (j + 4) (ti (32 * j + i))).toNatClampNeg))), (6, .int (ti (32 * j + i))), (5, .int (nI i)), (4, .int be), (0, .ref a), (1, .int (nI j)), (2, .int t), (3, .int u)]) hx hb d_Md_firstChange_131 hl (by decide) rfl (fun ls hl => ?_)
        refine lv_iload hx hb d_Md_firstChange_133 (lv_at hl 0 rfl) ?_
        refine lv_if_lt (tgt := 173) hx hb d_Md_firstChange_135 (by decide) (fun hc => False.elim (by have hc := (nI_ltI (a := (f_Mo_find ti n2 (j + 4) (ti (32 * j + i))).toNatClampNeg) (b := 0) (by omega) (by omega)).mp hc; omega)) (fun hc => ?_)
        refine lv_aload_n hx hb d_Md_firstChange_138 rfl (lv_at hl 4 rfl) ?_
        refine va_get (D := D) (ci := 9) (v := .ref (a + 13)) (C := R_Md) (T := F_Md) (N := 17) hx hb hg in_Md hown hK hP 0 rfl rfl 15 (Nat.le_of_ble_eq_true rfl) (hg _ tw_721) (fun _ h9 => h9) rfl d_Md_firstChange_139 ?_
        refine lv_iload hx hb d_Md_firstChange_142 (lv_at hl 0 rfl) ?_
        refine ep_lald hx hb hK hP 13 1 rfl rfl (i := ((f_Mo_find ti n2 (j + 4) (ti (32 * j + i))).toNatClampNeg)) (by omega) (by decide) d_Md_firstChange_144 ?_
        refine lv_aload_n hx hb d_Md_firstChange_145 rfl (lv_at hl 4 rfl) ?_
        refine va_get (D := D) (ci := 9) (v := .ref (a + 11)) (C := R_Md) (T := F_Md) (N := 17) hx hb hg in_Md hown hK hP 0 rfl rfl 13 (Nat.le_of_ble_eq_true rfl) (hg _ tw_719) (fun _ h9 => h9) rfl d_Md_firstChange_146 ?_
        refine lv_iload hx hb d_Md_firstChange_149 (lv_at hl 2 rfl) ?_
        refine ep_lald hx hb hK hP 11 1 rfl rfl (i := i) (by omega) (by decide) d_Md_firstChange_151 ?_
        refine W.lcmp hx hb d_Md_firstChange_152 ?_
        refine lv_if_ne (tgt := 173) hx hb d_Md_firstChange_153 (by decide) (fun hc7 => ?_) (fun hc7 => ?_)
        · have hc7 : ¬ ((lg_cmp (ors ((f_Mo_find ti n2 (j + 4) (ti (32 * j + i))).toNatClampNeg)) (rs i)) = 0) := hc7
          refine lv_iconst (v := 1) hx hb d_Md_firstChange_173 (by decide) ?_
          refine lv_goto (tgt := 178) hx hb d_Md_firstChange_174 (by decide) ?_
          refine lv_istore (lv' := [(8, .int 1), (7, .int (nI ((f_Mo_find ti n2 (j + 4) (ti (32 * j + i))).toNatClampNeg))), (6, .int (ti (32 * j + i))), (5, .int (nI i)), (4, .int be), (0, .ref a), (1, .int (nI j)), (2, .int t), (3, .int u)]) hx hb d_Md_firstChange_178 hl (by decide) rfl (fun ls hl => ?_)
          refine lv_iload hx hb d_Md_firstChange_180 (lv_at hl 0 rfl) ?_
          refine lv_if_eq (tgt := 214) hx hb d_Md_firstChange_182 (by decide) (fun hc => False.elim (by revert hc; decide)) (fun hc => ?_)
          refine lv_iload hx hb d_Md_firstChange_185 (lv_at hl 2 rfl) ?_
          refine lv_iload_n hx hb d_Md_firstChange_187 rfl (lv_at hl 7 rfl) ?_
          refine lv_icmp_lt (tgt := 214) hx hb d_Md_firstChange_188 (by decide) (fun hc8 => ?_) (fun hc8 => ?_)
          · have hc8 : (ti (32 * j + i)) < t := hc8
            refine lv_iload hx hb d_Md_firstChange_214 (lv_at hl 4 rfl) ?_
            refine lv_istore (lv' := [(4, .int be), (8, .int 1), (7, .int (nI ((f_Mo_find ti n2 (j + 4) (ti (32 * j + i))).toNatClampNeg))), (6, .int (ti (32 * j + i))), (5, .int (nI i)), (0, .ref a), (1, .int (nI j)), (2, .int t), (3, .int u)]) hx hb d_Md_firstChange_216 hl (by decide) rfl (fun ls hl => ?_)
            refine lv_iinc (k := 4) (lv' := [(5, .int (nI (i + 1))), (4, .int be), (8, .int 1), (7, .int (nI ((f_Mo_find ti n2 (j + 4) (ti (32 * j + i))).toNatClampNeg))), (6, .int (ti (32 * j + i))), (0, .ref a), (1, .int (nI j)), (2, .int t), (3, .int u)]) hx hb d_Md_firstChange_218 hl rfl (inc1 _) (by decide) rfl (fun ls hl => ?_)
            refine lv_goto (tgt := 97) hx hb d_Md_firstChange_221 (by decide) ?_
            rw [if_pos hc6, if_neg hc7, if_pos hc8] at hR
            exact ih (i + 1) be mc it vs se sm rs wk ors owk _ _ ls (by omega) hR (lv_sub hl [0, 1, 5, 6, 7, 8] rfl) hP hS
          · have hc8 : ¬ ((ti (32 * j + i)) < t) := hc8
            refine lv_iload hx hb d_Md_firstChange_191 (lv_at hl 2 rfl) ?_
            refine lv_iload_n hx hb d_Md_firstChange_193 rfl (lv_at hl 8 rfl) ?_
            refine lv_icmp_gt (tgt := 214) hx hb d_Md_firstChange_194 (by decide) (fun hc9 => ?_) (fun hc9 => ?_)
            · have hc9 : u < (ti (32 * j + i)) := hc9
              refine lv_iload hx hb d_Md_firstChange_214 (lv_at hl 4 rfl) ?_
              refine lv_istore (lv' := [(4, .int be), (8, .int 1), (7, .int (nI ((f_Mo_find ti n2 (j + 4) (ti (32 * j + i))).toNatClampNeg))), (6, .int (ti (32 * j + i))), (5, .int (nI i)), (0, .ref a), (1, .int (nI j)), (2, .int t), (3, .int u)]) hx hb d_Md_firstChange_216 hl (by decide) rfl (fun ls hl => ?_)
              refine lv_iinc (k := 4) (lv' := [(5, .int (nI (i + 1))), (4, .int be), (8, .int 1), (7, .int (nI ((f_Mo_find ti n2 (j + 4) (ti (32 * j + i))).toNatClampNeg))), (6, .int (ti (32 * j + i))), (0, .ref a), (1, .int (nI j)), (2, .int t), (3, .int u)]) hx hb d_Md_firstChange_218 hl rfl (inc1 _) (by decide) rfl (fun ls hl => ?_)
              refine lv_goto (tgt := 97) hx hb d_Md_firstChange_221 (by decide) ?_
              rw [if_pos hc6, if_neg hc7, if_neg hc8, if_pos hc9] at hR
              exact ih (i + 1) be mc it vs se sm rs wk ors owk _ _ ls (by omega) hR (lv_sub hl [0, 1, 5, 6, 7, 8] rfl) hP hS
            · have hc9 : ¬ (u < (ti (32 * j + i))) := hc9
              refine lv_iload hx hb d_Md_firstChange_197 (lv_at hl 4 rfl) ?_
              refine lv_if_eq (tgt := 209) hx hb d_Md_firstChange_199 (by decide) (fun hc10 => ?_) (fun hc10 => ?_)
              · have hc10 : be = 0 := hc10
                refine lv_iload hx hb d_Md_firstChange_209 (lv_at hl 2 rfl) ?_
                refine lv_goto (tgt := 216) hx hb d_Md_firstChange_211 (by decide) ?_
                refine lv_istore (lv' := [(4, .int (ti (32 * j + i))), (8, .int 1), (7, .int (nI ((f_Mo_find ti n2 (j + 4) (ti (32 * j + i))).toNatClampNeg))), (6, .int (ti (32 * j + i))), (5, .int (nI i)), (0, .ref a), (1, .int (nI j)), (2, .int t), (3, .int u)]) hx hb d_Md_firstChange_216 hl (by decide) rfl (fun ls hl => ?_)
                refine lv_iinc (k := 4) (lv' := [(5, .int (nI (i + 1))), (4, .int (ti (32 * j + i))), (8, .int 1), (7, .int (nI ((f_Mo_find ti n2 (j + 4) (ti (32 * j + i))).toNatClampNeg))), (6, .int (ti (32 * j + i))), (0, .ref a), (1, .int (nI j)), (2, .int t), (3, .int u)]) hx hb d_Md_firstChange_218 hl rfl (inc1 _) (by decide) rfl (fun ls hl => ?_)
                refine lv_goto (tgt := 97) hx hb d_Md_firstChange_221 (by decide) ?_
                rw [if_pos hc6, if_neg hc7, if_neg hc8, if_neg hc9, if_pos hc10] at hR
                exact ih (i + 1) (ti (32 * j + i)) mc it vs se sm rs wk ors owk _ _ ls (by omega) hR (lv_sub hl [0, 1, 5, 6, 7, 8] rfl) hP hS
              · have hc10 : ¬ (be = 0) := hc10
                refine lv_iload hx hb d_Md_firstChange_202 (lv_at hl 2 rfl) ?_
                refine lv_iload hx hb d_Md_firstChange_204 (lv_at hl 4 rfl) ?_
                refine lv_icmp_ge (tgt := 214) hx hb d_Md_firstChange_206 (by decide) (fun hc11 => ?_) (fun hc11 => ?_)
                · have hc11 : be ≤ (ti (32 * j + i)) := hc11
                  refine lv_iload hx hb d_Md_firstChange_214 (lv_at hl 4 rfl) ?_
                  refine lv_istore (lv' := [(4, .int be), (8, .int 1), (7, .int (nI ((f_Mo_find ti n2 (j + 4) (ti (32 * j + i))).toNatClampNeg))), (6, .int (ti (32 * j + i))), (5, .int (nI i)), (0, .ref a), (1, .int (nI j)), (2, .int t), (3, .int u)]) hx hb d_Md_firstChange_216 hl (by decide) rfl (fun ls hl => ?_)
                  refine lv_iinc (k := 4) (lv' := [(5, .int (nI (i + 1))), (4, .int be), (8, .int 1), (7, .int (nI ((f_Mo_find ti n2 (j + 4) (ti (32 * j + i))).toNatClampNeg))), (6, .int (ti (32 * j + i))), (0, .ref a), (1, .int (nI j)), (2, .int t), (3, .int u)]) hx hb d_Md_firstChange_218 hl rfl (inc1 _) (by decide) rfl (fun ls hl => ?_)
                  refine lv_goto (tgt := 97) hx hb d_Md_firstChange_221 (by decide) ?_
                  rw [if_pos hc6, if_neg hc7, if_neg hc8, if_neg hc9, if_neg hc10, if_pos hc11] at hR
                  exact ih (i + 1) be mc it vs se sm rs wk ors owk _ _ ls (by omega) hR (lv_sub hl [0, 1, 5, 6, 7, 8] rfl) hP hS
                · have hc11 : ¬ (be ≤ (ti (32 * j + i))) := hc11
                  refine lv_iload hx hb d_Md_firstChange_209 (lv_at hl 2 rfl) ?_
                  refine lv_goto (tgt := 216) hx hb d_Md_firstChange_211 (by decide) ?_
                  refine lv_istore (lv' := [(4, .int (ti (32 * j + i))), (8, .int 1), (7, .int (nI ((f_Mo_find ti n2 (j + 4) (ti (32 * j + i))).toNatClampNeg))), (6, .int (ti (32 * j + i))), (5, .int (nI i)), (0, .ref a), (1, .int (nI j)), (2, .int t), (3, .int u)]) hx hb d_Md_firstChange_216 hl (by decide) rfl (fun ls hl => ?_)
                  refine lv_iinc (k := 4) (lv' := [(5, .int (nI (i + 1))), (4, .int (ti (32 * j + i))), (8, .int 1), (7, .int (nI ((f_Mo_find ti n2 (j + 4) (ti (32 * j + i))).toNatClampNeg))), (6, .int (ti (32 * j + i))), (0, .ref a), (1, .int (nI j)), (2, .int t), (3, .int u)]) hx hb d_Md_firstChange_218 hl rfl (inc1 _) (by decide) rfl (fun ls hl => ?_)
                  refine lv_goto (tgt := 97) hx hb d_Md_firstChange_221 (by decide) ?_
                  rw [if_pos hc6, if_neg hc7, if_neg hc8, if_neg hc9, if_neg hc10, if_neg hc11] at hR
                  exact ih (i + 1) (ti (32 * j + i)) mc it vs se sm rs wk ors owk _ _ ls (by omega) hR (lv_sub hl [0, 1, 5, 6, 7, 8] rfl) hP hS
        · have hc7 : (lg_cmp (ors ((f_Mo_find ti n2 (j + 4) (ti (32 * j + i))).toNatClampNeg)) (rs i)) = 0 := hc7
          refine lv_aload_n hx hb d_Md_firstChange_156 rfl (lv_at hl 4 rfl) ?_
          refine va_get (D := D) (ci := 9) (v := .ref (a + 14)) (C := R_Md) (T := F_Md) (N := 17) hx hb hg in_Md hown hK hP 0 rfl rfl 16 (Nat.le_of_ble_eq_true rfl) (hg _ tw_722) (fun _ h9 => h9) rfl d_Md_firstChange_157 ?_
          refine lv_iload hx hb d_Md_firstChange_160 (lv_at hl 0 rfl) ?_
          refine ep_zald hx hb hK hP 14 2 rfl rfl (i := ((f_Mo_find ti n2 (j + 4) (ti (32 * j + i))).toNatClampNeg)) (by omega) (by decide) d_Md_firstChange_162 ?_
          refine lv_aload_n hx hb d_Md_firstChange_163 rfl (lv_at hl 4 rfl) ?_
          refine va_get (D := D) (ci := 9) (v := .ref (a + 12)) (C := R_Md) (T := F_Md) (N := 17) hx hb hg in_Md hown hK hP 0 rfl rfl 14 (Nat.le_of_ble_eq_true rfl) (hg _ tw_720) (fun _ h9 => h9) rfl d_Md_firstChange_164 ?_
          refine lv_iload hx hb d_Md_firstChange_167 (lv_at hl 2 rfl) ?_
          refine ep_zald hx hb hK hP 12 2 rfl rfl (i := i) (by omega) (by decide) d_Md_firstChange_169 ?_
          refine lv_icmp_eq (tgt := 177) hx hb d_Md_firstChange_170 (by decide) (fun hc12 => ?_) (fun hc12 => ?_)
          · have hc12 : (owk ((f_Mo_find ti n2 (j + 4) (ti (32 * j + i))).toNatClampNeg)) = (wk i) := hc12
            refine lv_iconst (v := 0) hx hb d_Md_firstChange_177 (by decide) ?_
            refine lv_istore (lv' := [(8, .int 0), (7, .int (nI ((f_Mo_find ti n2 (j + 4) (ti (32 * j + i))).toNatClampNeg))), (6, .int (ti (32 * j + i))), (5, .int (nI i)), (4, .int be), (0, .ref a), (1, .int (nI j)), (2, .int t), (3, .int u)]) hx hb d_Md_firstChange_178 hl (by decide) rfl (fun ls hl => ?_)
            refine lv_iload hx hb d_Md_firstChange_180 (lv_at hl 0 rfl) ?_
            refine lv_if_eq (tgt := 214) hx hb d_Md_firstChange_182 (by decide) (fun hc => ?_) (fun hc => False.elim (by revert hc; decide))
            refine lv_iload hx hb d_Md_firstChange_214 (lv_at hl 4 rfl) ?_
            refine lv_istore (lv' := [(4, .int be), (8, .int 0), (7, .int (nI ((f_Mo_find ti n2 (j + 4) (ti (32 * j + i))).toNatClampNeg))), (6, .int (ti (32 * j + i))), (5, .int (nI i)), (0, .ref a), (1, .int (nI j)), (2, .int t), (3, .int u)]) hx hb d_Md_firstChange_216 hl (by decide) rfl (fun ls hl => ?_)
            refine lv_iinc (k := 4) (lv' := [(5, .int (nI (i + 1))), (4, .int be), (8, .int 0), (7, .int (nI ((f_Mo_find ti n2 (j + 4) (ti (32 * j + i))).toNatClampNeg))), (6, .int (ti (32 * j + i))), (0, .ref a), (1, .int (nI j)), (2, .int t), (3, .int u)]) hx hb d_Md_firstChange_218 hl rfl (inc1 _) (by decide) rfl (fun ls hl => ?_)
            refine lv_goto (tgt := 97) hx hb d_Md_firstChange_221 (by decide) ?_
            rw [if_pos hc6, if_pos hc7, if_pos hc12] at hR
            exact ih (i + 1) be mc it vs se sm rs wk ors owk _ _ ls (by omega) hR (lv_sub hl [0, 1, 5, 6, 7, 8] rfl) hP hS
          · have hc12 : ¬ ((owk ((f_Mo_find ti n2 (j + 4) (ti (32 * j + i))).toNatClampNeg)) = (wk i)) := hc12
            refine lv_iconst (v := 1) hx hb d_Md_firstChange_173 (by decide) ?_
            refine lv_goto (tgt := 178) hx hb d_Md_firstChange_174 (by decide) ?_
            refine lv_istore (lv' := [(8, .int 1), (7, .int (nI ((f_Mo_find ti n2 (j + 4) (ti (32 * j + i))).toNatClampNeg))), (6, .int (ti (32 * j + i))), (5, .int (nI i)), (4, .int be), (0, .ref a), (1, .int (nI j)), (2, .int t), (3, .int u)]) hx hb d_Md_firstChange_178 hl (by decide) rfl (fun ls hl => ?_)
            refine lv_iload hx hb d_Md_firstChange_180 (lv_at hl 0 rfl) ?_
            refine lv_if_eq (tgt := 214) hx hb d_Md_firstChange_182 (by decide) (fun hc => False.elim (by revert hc; decide)) (fun hc => ?_)
            refine lv_iload hx hb d_Md_firstChange_185 (lv_at hl 2 rfl) ?_
            refine lv_iload_n hx hb d_Md_firstChange_187 rfl (lv_at hl 7 rfl) ?_
            refine lv_icmp_lt (tgt := 214) hx hb d_Md_firstChange_188 (by decide) (fun hc13 => ?_) (fun hc13 => ?_)
            · have hc13 : (ti (32 * j + i)) < t := hc13
              refine lv_iload hx hb d_Md_firstChange_214 (lv_at hl 4 rfl) ?_
              refine lv_istore (lv' := [(4, .int be), (8, .int 1), (7, .int (nI ((f_Mo_find ti n2 (j + 4) (ti (32 * j + i))).toNatClampNeg))), (6, .int (ti (32 * j + i))), (5, .int (nI i)), (0, .ref a), (1, .int (nI j)), (2, .int t), (3, .int u)]) hx hb d_Md_firstChange_216 hl (by decide) rfl (fun ls hl => ?_)
              refine lv_iinc (k := 4) (lv' := [(5, .int (nI (i + 1))), (4, .int be), (8, .int 1), (7, .int (nI ((f_Mo_find ti n2 (j + 4) (ti (32 * j + i))).toNatClampNeg))), (6, .int (ti (32 * j + i))), (0, .ref a), (1, .int (nI j)), (2, .int t), (3, .int u)]) hx hb d_Md_firstChange_218 hl rfl (inc1 _) (by decide) rfl (fun ls hl => ?_)
              refine lv_goto (tgt := 97) hx hb d_Md_firstChange_221 (by decide) ?_
              rw [if_pos hc6, if_pos hc7, if_neg hc12, if_pos hc13] at hR
              exact ih (i + 1) be mc it vs se sm rs wk ors owk _ _ ls (by omega) hR (lv_sub hl [0, 1, 5, 6, 7, 8] rfl) hP hS
            · have hc13 : ¬ ((ti (32 * j + i)) < t) := hc13
              refine lv_iload hx hb d_Md_firstChange_191 (lv_at hl 2 rfl) ?_
              refine lv_iload_n hx hb d_Md_firstChange_193 rfl (lv_at hl 8 rfl) ?_
              refine lv_icmp_gt (tgt := 214) hx hb d_Md_firstChange_194 (by decide) (fun hc14 => ?_) (fun hc14 => ?_)
              · have hc14 : u < (ti (32 * j + i)) := hc14
                refine lv_iload hx hb d_Md_firstChange_214 (lv_at hl 4 rfl) ?_
                refine lv_istore (lv' := [(4, .int be), (8, .int 1), (7, .int (nI ((f_Mo_find ti n2 (j + 4) (ti (32 * j + i))).toNatClampNeg))), (6, .int (ti (32 * j + i))), (5, .int (nI i)), (0, .ref a), (1, .int (nI j)), (2, .int t), (3, .int u)]) hx hb d_Md_firstChange_216 hl (by decide) rfl (fun ls hl => ?_)
                refine lv_iinc (k := 4) (lv' := [(5, .int (nI (i + 1))), (4, .int be), (8, .int 1), (7, .int (nI ((f_Mo_find ti n2 (j + 4) (ti (32 * j + i))).toNatClampNeg))), (6, .int (ti (32 * j + i))), (0, .ref a), (1, .int (nI j)), (2, .int t), (3, .int u)]) hx hb d_Md_firstChange_218 hl rfl (inc1 _) (by decide) rfl (fun ls hl => ?_)
                refine lv_goto (tgt := 97) hx hb d_Md_firstChange_221 (by decide) ?_
                rw [if_pos hc6, if_pos hc7, if_neg hc12, if_neg hc13, if_pos hc14] at hR
                exact ih (i + 1) be mc it vs se sm rs wk ors owk _ _ ls (by omega) hR (lv_sub hl [0, 1, 5, 6, 7, 8] rfl) hP hS
              · have hc14 : ¬ (u < (ti (32 * j + i))) := hc14
                refine lv_iload hx hb d_Md_firstChange_197 (lv_at hl 4 rfl) ?_
                refine lv_if_eq (tgt := 209) hx hb d_Md_firstChange_199 (by decide) (fun hc15 => ?_) (fun hc15 => ?_)
                · have hc15 : be = 0 := hc15
                  refine lv_iload hx hb d_Md_firstChange_209 (lv_at hl 2 rfl) ?_
                  refine lv_goto (tgt := 216) hx hb d_Md_firstChange_211 (by decide) ?_
                  refine lv_istore (lv' := [(4, .int (ti (32 * j + i))), (8, .int 1), (7, .int (nI ((f_Mo_find ti n2 (j + 4) (ti (32 * j + i))).toNatClampNeg))), (6, .int (ti (32 * j + i))), (5, .int (nI i)), (0, .ref a), (1, .int (nI j)), (2, .int t), (3, .int u)]) hx hb d_Md_firstChange_216 hl (by decide) rfl (fun ls hl => ?_)
                  refine lv_iinc (k := 4) (lv' := [(5, .int (nI (i + 1))), (4, .int (ti (32 * j + i))), (8, .int 1), (7, .int (nI ((f_Mo_find ti n2 (j + 4) (ti (32 * j + i))).toNatClampNeg))), (6, .int (ti (32 * j + i))), (0, .ref a), (1, .int (nI j)), (2, .int t), (3, .int u)]) hx hb d_Md_firstChange_218 hl rfl (inc1 _) (by decide) rfl (fun ls hl => ?_)
                  refine lv_goto (tgt := 97) hx hb d_Md_firstChange_221 (by decide) ?_
                  rw [if_pos hc6, if_pos hc7, if_neg hc12, if_neg hc13, if_neg hc14, if_pos hc15] at hR
                  exact ih (i + 1) (ti (32 * j + i)) mc it vs se sm rs wk ors owk _ _ ls (by omega) hR (lv_sub hl [0, 1, 5, 6, 7, 8] rfl) hP hS
                · have hc15 : ¬ (be = 0) := hc15
                  refine lv_iload hx hb d_Md_firstChange_202 (lv_at hl 2 rfl) ?_
                  refine lv_iload hx hb d_Md_firstChange_204 (lv_at hl 4 rfl) ?_
                  refine lv_icmp_ge (tgt := 214) hx hb d_Md_firstChange_206 (by decide) (fun hc16 => ?_) (fun hc16 => ?_)
                  · have hc16 : be ≤ (ti (32 * j + i)) := hc16
                    refine lv_iload hx hb d_Md_firstChange_214 (lv_at hl 4 rfl) ?_
                    refine lv_istore (lv' := [(4, .int be), (8, .int 1), (7, .int (nI ((f_Mo_find ti n2 (j + 4) (ti (32 * j + i))).toNatClampNeg))), (6, .int (ti (32 * j + i))), (5, .int (nI i)), (0, .ref a), (1, .int (nI j)), (2, .int t), (3, .int u)]) hx hb d_Md_firstChange_216 hl (by decide) rfl (fun ls hl => ?_)
                    refine lv_iinc (k := 4) (lv' := [(5, .int (nI (i + 1))), (4, .int be), (8, .int 1), (7, .int (nI ((f_Mo_find ti n2 (j + 4) (ti (32 * j + i))).toNatClampNeg))), (6, .int (ti (32 * j + i))), (0, .ref a), (1, .int (nI j)), (2, .int t), (3, .int u)]) hx hb d_Md_firstChange_218 hl rfl (inc1 _) (by decide) rfl (fun ls hl => ?_)
                    refine lv_goto (tgt := 97) hx hb d_Md_firstChange_221 (by decide) ?_
                    rw [if_pos hc6, if_pos hc7, if_neg hc12, if_neg hc13, if_neg hc14, if_neg hc15, if_pos hc16] at hR
                    exact ih (i + 1) be mc it vs se sm rs wk ors owk _ _ ls (by omega) hR (lv_sub hl [0, 1, 5, 6, 7, 8] rfl) hP hS
                  · have hc16 : ¬ (be ≤ (ti (32 * j + i))) := hc16
                    refine lv_iload hx hb d_Md_firstChange_209 (lv_at hl 2 rfl) ?_
                    refine lv_goto (tgt := 216) hx hb d_Md_firstChange_211 (by decide) ?_
                    refine lv_istore (lv' := [(4, .int (ti (32 * j + i))), (8, .int 1), (7, .int (nI ((f_Mo_find ti n2 (j + 4) (ti (32 * j + i))).toNatClampNeg))), (6, .int (ti (32 * j + i))), (5, .int (nI i)), (0, .ref a), (1, .int (nI j)), (2, .int t), (3, .int u)]) hx hb d_Md_firstChange_216 hl (by decide) rfl (fun ls hl => ?_)
                    refine lv_iinc (k := 4) (lv' := [(5, .int (nI (i + 1))), (4, .int (ti (32 * j + i))), (8, .int 1), (7, .int (nI ((f_Mo_find ti n2 (j + 4) (ti (32 * j + i))).toNatClampNeg))), (6, .int (ti (32 * j + i))), (0, .ref a), (1, .int (nI j)), (2, .int t), (3, .int u)]) hx hb d_Md_firstChange_218 hl rfl (inc1 _) (by decide) rfl (fun ls hl => ?_)
                    refine lv_goto (tgt := 97) hx hb d_Md_firstChange_221 (by decide) ?_
                    rw [if_pos hc6, if_pos hc7, if_neg hc12, if_neg hc13, if_neg hc14, if_neg hc15, if_neg hc16] at hR
                    exact ih (i + 1) (ti (32 * j + i)) mc it vs se sm rs wk ors owk _ _ ls (by omega) hR (lv_sub hl [0, 1, 5, 6, 7, 8] rfl) hP hS
      · rw [show oI (¬ (f_Mo_find ti n2 (j + 4) (ti (32 * j + i))) = -1) ((f_Mo_find ti n2 (j + 4) (ti (32 * j + i))).toNatClampNeg) = -1 from if_neg hc6]
        refine lv_istore (lv' := [(7, .int (-1)), (6, .int (ti (32 * j + i))), (5, .int (nI i)), (4, .int be), (0, .ref a), (1, .int (nI j)), (2, .int t), (3, .int u)]) hx hb d_Md_firstChange_131 hl (by decide) rfl (fun ls hl => ?_)
        refine lv_iload hx hb d_Md_firstChange_133 (lv_at hl 0 rfl) ?_
        refine lv_if_lt (tgt := 173) hx hb d_Md_firstChange_135 (by decide) (fun hc => ?_) (fun hc => False.elim (by revert hc; decide))
        refine lv_iconst (v := 1) hx hb d_Md_firstChange_173 (by decide) ?_
        refine lv_goto (tgt := 178) hx hb d_Md_firstChange_174 (by decide) ?_
        refine lv_istore (lv' := [(8, .int 1), (7, .int (-1)), (6, .int (ti (32 * j + i))), (5, .int (nI i)), (4, .int be), (0, .ref a), (1, .int (nI j)), (2, .int t), (3, .int u)]) hx hb d_Md_firstChange_178 hl (by decide) rfl (fun ls hl => ?_)
        refine lv_iload hx hb d_Md_firstChange_180 (lv_at hl 0 rfl) ?_
        refine lv_if_eq (tgt := 214) hx hb d_Md_firstChange_182 (by decide) (fun hc => False.elim (by revert hc; decide)) (fun hc => ?_)
        refine lv_iload hx hb d_Md_firstChange_185 (lv_at hl 2 rfl) ?_
        refine lv_iload_n hx hb d_Md_firstChange_187 rfl (lv_at hl 7 rfl) ?_
        refine lv_icmp_lt (tgt := 214) hx hb d_Md_firstChange_188 (by decide) (fun hc17 => ?_) (fun hc17 => ?_)
        · have hc17 : (ti (32 * j + i)) < t := hc17
          refine lv_iload hx hb d_Md_firstChange_214 (lv_at hl 4 rfl) ?_
          refine lv_istore (lv' := [(4, .int be), (8, .int 1), (7, .int (-1)), (6, .int (ti (32 * j + i))), (5, .int (nI i)), (0, .ref a), (1, .int (nI j)), (2, .int t), (3, .int u)]) hx hb d_Md_firstChange_216 hl (by decide) rfl (fun ls hl => ?_)
          refine lv_iinc (k := 4) (lv' := [(5, .int (nI (i + 1))), (4, .int be), (8, .int 1), (7, .int (-1)), (6, .int (ti (32 * j + i))), (0, .ref a), (1, .int (nI j)), (2, .int t), (3, .int u)]) hx hb d_Md_firstChange_218 hl rfl (inc1 _) (by decide) rfl (fun ls hl => ?_)
          refine lv_goto (tgt := 97) hx hb d_Md_firstChange_221 (by decide) ?_
          rw [if_neg hc6, if_pos hc17] at hR
          exact ih (i + 1) be mc it vs se sm rs wk ors owk _ _ ls (by omega) hR (lv_sub hl [0, 1, 5, 6, 7, 8] rfl) hP hS
        · have hc17 : ¬ ((ti (32 * j + i)) < t) := hc17
          refine lv_iload hx hb d_Md_firstChange_191 (lv_at hl 2 rfl) ?_
          refine lv_iload_n hx hb d_Md_firstChange_193 rfl (lv_at hl 8 rfl) ?_
          refine lv_icmp_gt (tgt := 214) hx hb d_Md_firstChange_194 (by decide) (fun hc18 => ?_) (fun hc18 => ?_)
          · have hc18 : u < (ti (32 * j + i)) := hc18
            refine lv_iload hx hb d_Md_firstChange_214 (lv_at hl 4 rfl) ?_
            refine lv_istore (lv' := [(4, .int be), (8, .int 1), (7, .int (-1)), (6, .int (ti (32 * j + i))), (5, .int (nI i)), (0, .ref a), (1, .int (nI j)), (2, .int t), (3, .int u)]) hx hb d_Md_firstChange_216 hl (by decide) rfl (fun ls hl => ?_)
            refine lv_iinc (k := 4) (lv' := [(5, .int (nI (i + 1))), (4, .int be), (8, .int 1), (7, .int (-1)), (6, .int (ti (32 * j + i))), (0, .ref a), (1, .int (nI j)), (2, .int t), (3, .int u)]) hx hb d_Md_firstChange_218 hl rfl (inc1 _) (by decide) rfl (fun ls hl => ?_)
            refine lv_goto (tgt := 97) hx hb d_Md_firstChange_221 (by decide) ?_
            rw [if_neg hc6, if_neg hc17, if_pos hc18] at hR
            exact ih (i + 1) be mc it vs se sm rs wk ors owk _ _ ls (by omega) hR (lv_sub hl [0, 1, 5, 6, 7, 8] rfl) hP hS
          · have hc18 : ¬ (u < (ti (32 * j + i))) := hc18
            refine lv_iload hx hb d_Md_firstChange_197 (lv_at hl 4 rfl) ?_
            refine lv_if_eq (tgt := 209) hx hb d_Md_firstChange_199 (by decide) (fun hc19 => ?_) (fun hc19 => ?_)
            · have hc19 : be = 0 := hc19
              refine lv_iload hx hb d_Md_firstChange_209 (lv_at hl 2 rfl) ?_
              refine lv_goto (tgt := 216) hx hb d_Md_firstChange_211 (by decide) ?_
              refine lv_istore (lv' := [(4, .int (ti (32 * j + i))), (8, .int 1), (7, .int (-1)), (6, .int (ti (32 * j + i))), (5, .int (nI i)), (0, .ref a), (1, .int (nI j)), (2, .int t), (3, .int u)]) hx hb d_Md_firstChange_216 hl (by decide) rfl (fun ls hl => ?_)
              refine lv_iinc (k := 4) (lv' := [(5, .int (nI (i + 1))), (4, .int (ti (32 * j + i))), (8, .int 1), (7, .int (-1)), (6, .int (ti (32 * j + i))), (0, .ref a), (1, .int (nI j)), (2, .int t), (3, .int u)]) hx hb d_Md_firstChange_218 hl rfl (inc1 _) (by decide) rfl (fun ls hl => ?_)
              refine lv_goto (tgt := 97) hx hb d_Md_firstChange_221 (by decide) ?_
              rw [if_neg hc6, if_neg hc17, if_neg hc18, if_pos hc19] at hR
              exact ih (i + 1) (ti (32 * j + i)) mc it vs se sm rs wk ors owk _ _ ls (by omega) hR (lv_sub hl [0, 1, 5, 6, 7, 8] rfl) hP hS
            · have hc19 : ¬ (be = 0) := hc19
              refine lv_iload hx hb d_Md_firstChange_202 (lv_at hl 2 rfl) ?_
              refine lv_iload hx hb d_Md_firstChange_204 (lv_at hl 4 rfl) ?_
              refine lv_icmp_ge (tgt := 214) hx hb d_Md_firstChange_206 (by decide) (fun hc20 => ?_) (fun hc20 => ?_)
              · have hc20 : be ≤ (ti (32 * j + i)) := hc20
                refine lv_iload hx hb d_Md_firstChange_214 (lv_at hl 4 rfl) ?_
                refine lv_istore (lv' := [(4, .int be), (8, .int 1), (7, .int (-1)), (6, .int (ti (32 * j + i))), (5, .int (nI i)), (0, .ref a), (1, .int (nI j)), (2, .int t), (3, .int u)]) hx hb d_Md_firstChange_216 hl (by decide) rfl (fun ls hl => ?_)
                refine lv_iinc (k := 4) (lv' := [(5, .int (nI (i + 1))), (4, .int be), (8, .int 1), (7, .int (-1)), (6, .int (ti (32 * j + i))), (0, .ref a), (1, .int (nI j)), (2, .int t), (3, .int u)]) hx hb d_Md_firstChange_218 hl rfl (inc1 _) (by decide) rfl (fun ls hl => ?_)
                refine lv_goto (tgt := 97) hx hb d_Md_firstChange_221 (by decide) ?_
                rw [if_neg hc6, if_neg hc17, if_neg hc18, if_neg hc19, if_pos hc20] at hR
                exact ih (i + 1) be mc it vs se sm rs wk ors owk _ _ ls (by omega) hR (lv_sub hl [0, 1, 5, 6, 7, 8] rfl) hP hS
              · have hc20 : ¬ (be ≤ (ti (32 * j + i))) := hc20
                refine lv_iload hx hb d_Md_firstChange_209 (lv_at hl 2 rfl) ?_
                refine lv_goto (tgt := 216) hx hb d_Md_firstChange_211 (by decide) ?_
                refine lv_istore (lv' := [(4, .int (ti (32 * j + i))), (8, .int 1), (7, .int (-1)), (6, .int (ti (32 * j + i))), (5, .int (nI i)), (0, .ref a), (1, .int (nI j)), (2, .int t), (3, .int u)]) hx hb d_Md_firstChange_216 hl (by decide) rfl (fun ls hl => ?_)
                refine lv_iinc (k := 4) (lv' := [(5, .int (nI (i + 1))), (4, .int (ti (32 * j + i))), (8, .int 1), (7, .int (-1)), (6, .int (ti (32 * j + i))), (0, .ref a), (1, .int (nI j)), (2, .int t), (3, .int u)]) hx hb d_Md_firstChange_218 hl rfl (inc1 _) (by decide) rfl (fun ls hl => ?_)
                refine lv_goto (tgt := 97) hx hb d_Md_firstChange_221 (by decide) ?_
                rw [if_neg hc6, if_neg hc17, if_neg hc18, if_neg hc19, if_neg hc20] at hR
                exact ih (i + 1) (ti (32 * j + i)) mc it vs se sm rs wk ors owk _ _ ls (by omega) hR (lv_sub hl [0, 1, 5, 6, 7, 8] rfl) hP hS
  have key_38 : ∀ (k : Nat) (i : Nat) (mc : Nat) (it : Nat → Int32) (vs : Nat → Int32) (se : Nat → Int32) (sm : Int64) (rs : Nat → Int64) (wk : Nat → Int32) (ors : Nat → Int64) (owk : Nat → Int32) (H : Heap) (locs : List Loc) (ls : Array Slot), i + k = 32 → bz wk → g_Mo_firstChange_3_38 kn ti nm xa n n2 j t u k i mc it vs se sm rs wk ors owk = R → lv_has ls 9 [(4, .int (nI i)), (0, .ref a), (1, .int (nI j)), (2, .int t), (3, .int u)] → va_P D cls (wMo cI cJ cZ a ((f_Mo_lacksTwo kn j t u).2) kn ed ct ti nm xa xb (nI mc) it vs se sm rs wk ors owk) H → va_S (blk a 15) s.heap H locs → W p l e (headSpec (k_Md_firstChange :: gt) rm_Md_firstChange).room s m ([.ref a, .int (nI j), .int t, .int u] : List Value).toArray below meth c H locs 0 0 (MQ below (Qd (blk a 15) (some (.int R.1)) (fun H => va_P D cls (wMo cI cJ cZ a R.2.1 kn ed ct ti nm xa xb (nI R.2.2.1) R.2.2.2.1 R.2.2.2.2.1 R.2.2.2.2.2.1 R.2.2.2.2.2.2.1 R.2.2.2.2.2.2.2.1 R.2.2.2.2.2.2.2.2.1 R.2.2.2.2.2.2.2.2.2.1 R.2.2.2.2.2.2.2.2.2.2) H)) ([.ref a, .int (nI j), .int t, .int u] : List Value).toArray s 0 0 (blk a 15)) (F0 m 38 ls []) := by
    intro k
    induction k with
    | zero =>
      intro i mc it vs se sm rs wk ors owk H locs ls hi hb9 hR hl hP hS
      have hR : (g_Mo_firstChange_3_97 kn ti n n2 j t u n 0 0 ((f_Mo_run_3 ti nm xa it vs se rs wk n j 1000000000).1) ((f_Mo_run_3 ti nm xa it vs se rs wk n j 1000000000).2.1) ((f_Mo_run_3 ti nm xa it vs se rs wk n j 1000000000).2.2.1) ((f_Mo_run_3 ti nm xa it vs se rs wk n j 1000000000).2.2.2.1) ((f_Mo_run_3 ti nm xa it vs se rs wk n j 1000000000).2.2.2.2.1) ((f_Mo_run_3 ti nm xa it vs se rs wk n j 1000000000).2.2.2.2.2.1) ((f_Mo_run_3 ti nm xa it vs se rs wk n j 1000000000).2.2.2.2.2.2) ors owk) = R := hR
      have hD : va_D (blk a 15) (wMo cI cJ cZ a ((f_Mo_lacksTwo kn j t u).2) kn ed ct ti nm xa xb (nI mc) it vs se sm rs wk ors owk) := (blk_D (wMo_in))
      refine lv_iload hx hb d_Md_firstChange_38 (lv_at hl 0 rfl) ?_
      refine lv_bipush (v := 32) hx hb d_Md_firstChange_40 (by decide) ?_
      refine lv_icmp_ge (tgt := 79) hx hb d_Md_firstChange_42 (by decide) (fun hc => ?_) (fun hc => False.elim (by have hc : ¬ (32 ≤ i) := fun h => hc (by exact (nI_leI (a := 32) (b := i) (by omega) (by omega)).mpr h); omega))
      refine lv_aload_n hx hb d_Md_firstChange_79 rfl (lv_at hl 1 rfl) ?_
      refine lv_iload_n hx hb d_Md_firstChange_80 rfl (lv_at hl 2 rfl) ?_
      refine lv_aload_n hx hb d_Md_firstChange_81 rfl (lv_at hl 1 rfl) ?_
      refine lv_iload_n hx hb d_Md_firstChange_82 rfl (lv_at hl 2 rfl) ?_
      refine ep_callP (W.runV (As := [.int (nI j)]) (rest := [.int (nI j), .ref a]) ⟨hx, hb, hml, hown, hg⟩ (m_Mo_kindOf l D cI cJ cZ cO a ((f_Mo_lacksTwo kn j t u).2) kn ed ct ti nm xa xb (nI mc) it vs se sm rs wk ors owk j (by omega) _ rfl) (ep_cwV 1 hg tw_789 tw_791 ts_11 tw_12 tk_Md_kindOf rfl rfl (by decide +kernel) ⟨(Nat.le_of_ble_eq_true rfl), (Nat.le_of_ble_eq_true rfl)⟩) ⟨ep_blind, va_recv (q0 := 0) (ci := 9) hK hP rfl rfl, ep_pre hKn (hP)⟩ rfl rfl hl.1 rfl (lv_room (Nat.le_of_ble_eq_true rfl)) d_Md_firstChange_83 ⟨Nat.zero_le _, Nat.zero_le _⟩) ?_
      refine W.eq (g2 := F0 m 86 ls [.int (f_Mo_kindOf kn j), .int (nI j), .ref a]) rfl ?_
      refine lv_topi (fun z9 e_z9 => ?_)
      obtain rfl : z9 = 3 := by rw [e_z9]; exact (by rw [show f_Mo_kindOf kn j = kn j - 1 from rfl, hk]; decide)
      refine lv_ldc (v := 1000000000) hx hb hown (hg _ tw_780) d_Md_firstChange_86 ?_
      refine ep_callH (W.runV (As := [.int (nI j), .int 3, .int 1000000000]) (rest := []) ⟨hx, hb, hml, hown, hg⟩ (m_Mo_run_3 l D cI cJ cZ cO a ((f_Mo_lacksTwo kn j t u).2) kn ed ct ti nm xa xb (nI mc) it vs se sm rs wk ors owk n j 1000000000 (by omega) hct (by omega) _ rfl) (ep_cwV 3 hg tw_832 tw_834 ts_17 tw_12 tk_Md_run rfl rfl (by decide +kernel) ⟨(Nat.le_of_ble_eq_true rfl), (Nat.le_of_ble_eq_true rfl)⟩) ⟨ep_blind, va_recv (q0 := 0) (ci := 9) hK hP rfl rfl, ep_pre hKn (hP)⟩ rfl rfl hl.1 rfl (lv_room (Nat.le_of_ble_eq_true rfl)) d_Md_firstChange_88 ⟨Nat.zero_le _, Nat.zero_le _⟩) hS (fun q h => h) (fun H locs hsz9 hk1 hP1 hS => ?_)
      refine W.eq (g2 := F0 m 91 ls []) rfl ?_
      have hP : va_P D cls (wMo cI cJ cZ a ((f_Mo_lacksTwo kn j t u).2) kn ed ct ti nm xa xb (nI ((f_Mo_run_3 ti nm xa it vs se rs wk n j 1000000000).1)) ((f_Mo_run_3 ti nm xa it vs se rs wk n j 1000000000).2.1) ((f_Mo_run_3 ti nm xa it vs se rs wk n j 1000000000).2.2.1) ((f_Mo_run_3 ti nm xa it vs se rs wk n j 1000000000).2.2.2.1) ((f_Mo_run_3 ti nm xa it vs se rs wk n j 1000000000).2.2.2.2.1) ((f_Mo_run_3 ti nm xa it vs se rs wk n j 1000000000).2.2.2.2.2.1) ((f_Mo_run_3 ti nm xa it vs se rs wk n j 1000000000).2.2.2.2.2.2) ors owk) H := hP1
      have hD : va_D (blk a 15) (wMo cI cJ cZ a ((f_Mo_lacksTwo kn j t u).2) kn ed ct ti nm xa xb (nI ((f_Mo_run_3 ti nm xa it vs se rs wk n j 1000000000).1)) ((f_Mo_run_3 ti nm xa it vs se rs wk n j 1000000000).2.1) ((f_Mo_run_3 ti nm xa it vs se rs wk n j 1000000000).2.2.1) ((f_Mo_run_3 ti nm xa it vs se rs wk n j 1000000000).2.2.2.1) ((f_Mo_run_3 ti nm xa it vs se rs wk n j 1000000000).2.2.2.2.1) ((f_Mo_run_3 ti nm xa it vs se rs wk n j 1000000000).2.2.2.2.2.1) ((f_Mo_run_3 ti nm xa it vs se rs wk n j 1000000000).2.2.2.2.2.2) ors owk) := (blk_D (wMo_in))
      refine lv_iconst (v := 0) hx hb d_Md_firstChange_91 (by decide) ?_
      refine lv_istore (lv' := [(4, .int 0), (0, .ref a), (1, .int (nI j)), (2, .int t), (3, .int u)]) hx hb d_Md_firstChange_92 hl (by decide) rfl (fun ls hl => ?_)
      refine lv_iconst (v := 0) hx hb d_Md_firstChange_94 (by decide) ?_
      refine lv_istore (lv' := [(5, .int 0), (4, .int 0), (0, .ref a), (1, .int (nI j)), (2, .int t), (3, .int u)]) hx hb d_Md_firstChange_95 hl (by decide) rfl (fun ls hl => ?_)
      exact key_97 n 0 0 ((f_Mo_run_3 ti nm xa it vs se rs wk n j 1000000000).1) ((f_Mo_run_3 ti nm xa it vs se rs wk n j 1000000000).2.1) ((f_Mo_run_3 ti nm xa it vs se rs wk n j 1000000000).2.2.1) ((f_Mo_run_3 ti nm xa it vs se rs wk n j 1000000000).2.2.2.1) ((f_Mo_run_3 ti nm xa it vs se rs wk n j 1000000000).2.2.2.2.1) ((f_Mo_run_3 ti nm xa it vs se rs wk n j 1000000000).2.2.2.2.2.1) ((f_Mo_run_3 ti nm xa it vs se rs wk n j 1000000000).2.2.2.2.2.2) ors owk _ _ ls (by omega) hR hl hP hS
    | succ k ih =>
      intro i mc it vs se sm rs wk ors owk H locs ls hi hb9 hR hl hP hS
      have hR : (g_Mo_firstChange_3_38 kn ti nm xa n n2 j t u k (i + 1) mc it vs se sm rs wk (vp_updL ors i (rs i)) (upd owk i (wk i))) = R := hR
      have hD : va_D (blk a 15) (wMo cI cJ cZ a ((f_Mo_lacksTwo kn j t u).2) kn ed ct ti nm xa xb (nI mc) it vs se sm rs wk ors owk) := (blk_D (wMo_in))
      refine lv_iload hx hb d_Md_firstChange_38 (lv_at hl 0 rfl) ?_
      refine lv_bipush (v := 32) hx hb d_Md_firstChange_40 (by decide) ?_
      refine lv_icmp_ge (tgt := 79) hx hb d_Md_firstChange_42 (by decide) (fun hc => False.elim (by have hc := (nI_leI (a := 32) (b := i) (by omega) (by omega)).mp hc; omega)) (fun hc => ?_)
      refine lv_aload_n hx hb d_Md_firstChange_45 rfl (lv_at hl 1 rfl) ?_
      refine va_get (D := D) (ci := 9) (v := .ref (a + 13)) (C := R_Md) (T := F_Md) (N := 17) hx hb hg in_Md hown hK hP 0 rfl rfl 15 (Nat.le_of_ble_eq_true rfl) (hg _ tw_721) (fun _ h9 => h9) rfl d_Md_firstChange_46 ?_
      refine lv_iload hx hb d_Md_firstChange_49 (lv_at hl 0 rfl) ?_
      refine lv_aload_n hx hb d_Md_firstChange_51 rfl (lv_at hl 1 rfl) ?_
      refine va_get (D := D) (ci := 9) (v := .ref (a + 11)) (C := R_Md) (T := F_Md) (N := 17) hx hb hg in_Md hown hK hP 0 rfl rfl 13 (Nat.le_of_ble_eq_true rfl) (hg _ tw_719) (fun _ h9 => h9) rfl d_Md_firstChange_52 ?_
      refine lv_iload hx hb d_Md_firstChange_55 (lv_at hl 0 rfl) ?_
      refine ep_lald hx hb hK hP 11 1 rfl rfl (i := i) (by omega) (by decide) d_Md_firstChange_57 ?_
      refine ep_last hx hb hK hP hD hS 13 1 rfl rfl (i := i) (x := (rs i)) (by omega) (by decide) d_Md_firstChange_58 (fun H locs hP hD hS => ?_)
      have hP : va_P D cls (wMo cI cJ cZ a ((f_Mo_lacksTwo kn j t u).2) kn ed ct ti nm xa xb (nI mc) it vs se sm rs wk (vp_updL ors i (rs i)) owk) H := hP
      have hD : va_D (blk a 15) (wMo cI cJ cZ a ((f_Mo_lacksTwo kn j t u).2) kn ed ct ti nm xa xb (nI mc) it vs se sm rs wk (vp_updL ors i (rs i)) owk) := hD
      refine lv_aload_n hx hb d_Md_firstChange_59 rfl (lv_at hl 1 rfl) ?_
      refine va_get (D := D) (ci := 9) (v := .ref (a + 14)) (C := R_Md) (T := F_Md) (N := 17) hx hb hg in_Md hown hK hP 0 rfl rfl 16 (Nat.le_of_ble_eq_true rfl) (hg _ tw_722) (fun _ h9 => h9) rfl d_Md_firstChange_60 ?_
      refine lv_iload hx hb d_Md_firstChange_63 (lv_at hl 0 rfl) ?_
      refine lv_aload_n hx hb d_Md_firstChange_65 rfl (lv_at hl 1 rfl) ?_
      refine va_get (D := D) (ci := 9) (v := .ref (a + 12)) (C := R_Md) (T := F_Md) (N := 17) hx hb hg in_Md hown hK hP 0 rfl rfl 14 (Nat.le_of_ble_eq_true rfl) (hg _ tw_720) (fun _ h9 => h9) rfl d_Md_firstChange_66 ?_
      refine lv_iload hx hb d_Md_firstChange_69 (lv_at hl 0 rfl) ?_
      refine ep_zald hx hb hK hP 12 2 rfl rfl (i := i) (by omega) (by decide) d_Md_firstChange_71 ?_
      refine ep_zast hx hb hK hP hD hS 14 2 rfl rfl (i := i) (x := (wk i)) (bz_n hb9 _) (by omega) (by decide) d_Md_firstChange_72 (fun H locs hP hD hS => ?_)
      have hP : va_P D cls (wMo cI cJ cZ a ((f_Mo_lacksTwo kn j t u).2) kn ed ct ti nm xa xb (nI mc) it vs se sm rs wk (vp_updL ors i (rs i)) (upd owk i (wk i))) H := hP
      have hD : va_D (blk a 15) (wMo cI cJ cZ a ((f_Mo_lacksTwo kn j t u).2) kn ed ct ti nm xa xb (nI mc) it vs se sm rs wk (vp_updL ors i (rs i)) (upd owk i (wk i))) := hD
      refine lv_iinc (k := 0) (lv' := [(4, .int (nI (i + 1))), (0, .ref a), (1, .int (nI j)), (2, .int t), (3, .int u)]) hx hb d_Md_firstChange_73 hl rfl (inc1 _) (by decide) rfl (fun ls hl => ?_)
      refine lv_goto (tgt := 38) hx hb d_Md_firstChange_76 (by decide) ?_
      exact ih (i + 1) mc it vs se sm rs wk (vp_updL ors i (rs i)) (upd owk i (wk i)) _ _ ls (by omega) hb9 hR hl hP hS
  have hR : (g_Mo_firstChange_3_38 kn ti nm xa n n2 j t u 32 0 ((f_Mo_run_3 ti nm xa it vs se rs wk n2 (j + 4) 1000000000).1) ((f_Mo_run_3 ti nm xa it vs se rs wk n2 (j + 4) 1000000000).2.1) ((f_Mo_run_3 ti nm xa it vs se rs wk n2 (j + 4) 1000000000).2.2.1) ((f_Mo_run_3 ti nm xa it vs se rs wk n2 (j + 4) 1000000000).2.2.2.1) ((f_Mo_run_3 ti nm xa it vs se rs wk n2 (j + 4) 1000000000).2.2.2.2.1) ((f_Mo_run_3 ti nm xa it vs se rs wk n2 (j + 4) 1000000000).2.2.2.2.2.1) ((f_Mo_run_3 ti nm xa it vs se rs wk n2 (j + 4) 1000000000).2.2.2.2.2.2) ors owk) = R := hR
  refine lv_aload_n hx hb d_Md_firstChange_0 rfl (lv_at hl 0 rfl) ?_
  refine lv_iload_n hx hb d_Md_firstChange_1 rfl (lv_at hl 1 rfl) ?_
  refine lv_iload_n hx hb d_Md_firstChange_2 rfl (lv_at hl 2 rfl) ?_
  refine lv_iload_n hx hb d_Md_firstChange_3 rfl (lv_at hl 3 rfl) ?_
  refine ep_callH (W.runV (As := [.int (nI j), .int t, .int u]) (rest := []) ⟨hx, hb, hml, hown, hg⟩ (m_Mo_lacksTwo l D cI cJ cZ cO a code kn ed ct ti nm xa xb ma it vs se sm rs wk ors owk j t u (by omega) _ rfl) (ep_cwV 3 hg tw_896 tw_898 ts_25 tw_12 tk_Md_lacksTwo rfl rfl (by decide +kernel) ⟨(Nat.le_of_ble_eq_true rfl), (Nat.le_of_ble_eq_true rfl)⟩) ⟨ep_blind, va_recv (q0 := 0) (ci := 9) hK hP rfl rfl, ep_pre hKn (hP)⟩ rfl rfl hl.1 rfl (lv_room (Nat.le_of_ble_eq_true rfl)) d_Md_firstChange_4 ⟨Nat.zero_le _, Nat.zero_le _⟩) hS (fun q h => h) (fun H locs hsz9 hk1 hP1 hS => ?_)
  refine W.eq (g2 := F0 m 7 ls [.int ((f_Mo_lacksTwo kn j t u).1)]) rfl ?_
  have hP : va_P D cls (wMo cI cJ cZ a ((f_Mo_lacksTwo kn j t u).2) kn ed ct ti nm xa xb ma it vs se sm rs wk ors owk) H := hP1
  have hD : va_D (blk a 15) (wMo cI cJ cZ a ((f_Mo_lacksTwo kn j t u).2) kn ed ct ti nm xa xb ma it vs se sm rs wk ors owk) := (blk_D (wMo_in))
  refine lv_if_ne (tgt := 19) hx hb d_Md_firstChange_7 (by decide) (fun hc => absurd hlk hc) (fun hc => ?_)
  refine lv_aload_n hx hb d_Md_firstChange_10 rfl (lv_at hl 0 rfl) ?_
  refine va_get (D := D) (ci := 9) (v := .ref (a + 2)) (C := R_Md) (T := F_Md) (N := 17) hx hb hg in_Md hown hK hP 0 rfl rfl 2 (Nat.le_of_ble_eq_true rfl) (hg _ tw_708) (fun _ h9 => h9) rfl d_Md_firstChange_11 ?_
  refine lv_iload_n hx hb d_Md_firstChange_14 rfl (lv_at hl 1 rfl) ?_
  refine ep_zald hx hb hK hP 2 2 rfl rfl (i := j) (by omega) (by decide) d_Md_firstChange_15 ?_
  refine lv_if_ne (tgt := 21) hx hb d_Md_firstChange_16 (by decide) (fun hc => ?_) (fun hc => absurd hc hed)
  refine lv_aload_n hx hb d_Md_firstChange_21 rfl (lv_at hl 0 rfl) ?_
  refine lv_iload_n hx hb d_Md_firstChange_22 rfl (lv_at hl 1 rfl) ?_
  refine lv_iconst (v := 4) hx hb d_Md_firstChange_23 (by decide) ?_
  refine lv_iadd hx hb d_Md_firstChange_24 ?_
  refine lv_topi (fun z9 e_z9 => ?_)
  obtain rfl : z9 = nI (j + 4) := by rw [e_z9]; exact (nI_add j 4)
  refine lv_aload_n hx hb d_Md_firstChange_25 rfl (lv_at hl 0 rfl) ?_
  refine lv_iload_n hx hb d_Md_firstChange_26 rfl (lv_at hl 1 rfl) ?_
  refine ep_callP (W.runV (As := [.int (nI j)]) (rest := [.int (nI (j + 4)), .ref a]) ⟨hx, hb, hml, hown, hg⟩ (m_Mo_kindOf l D cI cJ cZ cO a ((f_Mo_lacksTwo kn j t u).2) kn ed ct ti nm xa xb ma it vs se sm rs wk ors owk j (by omega) _ rfl) (ep_cwV 1 hg tw_789 tw_791 ts_11 tw_12 tk_Md_kindOf rfl rfl (by decide +kernel) ⟨(Nat.le_of_ble_eq_true rfl), (Nat.le_of_ble_eq_true rfl)⟩) ⟨ep_blind, va_recv (q0 := 0) (ci := 9) hK hP rfl rfl, ep_pre hKn (hP)⟩ rfl rfl hl.1 rfl (lv_room (Nat.le_of_ble_eq_true rfl)) d_Md_firstChange_27 ⟨Nat.zero_le _, Nat.zero_le _⟩) ?_
  refine W.eq (g2 := F0 m 30 ls [.int (f_Mo_kindOf kn j), .int (nI (j + 4)), .ref a]) rfl ?_
  refine lv_topi (fun z9 e_z9 => ?_)
  obtain rfl : z9 = 3 := by rw [e_z9]; exact (by rw [show f_Mo_kindOf kn j = kn j - 1 from rfl, hk]; decide)
  refine lv_ldc (v := 1000000000) hx hb hown (hg _ tw_780) d_Md_firstChange_30 ?_
  refine ep_callH (W.runV (As := [.int (nI (j + 4)), .int 3, .int 1000000000]) (rest := []) ⟨hx, hb, hml, hown, hg⟩ (m_Mo_run_3 l D cI cJ cZ cO a ((f_Mo_lacksTwo kn j t u).2) kn ed ct ti nm xa xb ma it vs se sm rs wk ors owk n2 (j + 4) 1000000000 (by omega) hct2 (by omega) _ rfl) (ep_cwV 3 hg tw_832 tw_834 ts_17 tw_12 tk_Md_run rfl rfl (by decide +kernel) ⟨(Nat.le_of_ble_eq_true rfl), (Nat.le_of_ble_eq_true rfl)⟩) ⟨ep_blind, va_recv (q0 := 0) (ci := 9) hK hP rfl rfl, ep_pre hKn (hP)⟩ rfl rfl hl.1 rfl (lv_room (Nat.le_of_ble_eq_true rfl)) d_Md_firstChange_32 ⟨Nat.zero_le _, Nat.zero_le _⟩) hS (fun q h => h) (fun H locs hsz9 hk1 hP1 hS => ?_)
  refine W.eq (g2 := F0 m 35 ls []) rfl ?_
  have hP : va_P D cls (wMo cI cJ cZ a ((f_Mo_lacksTwo kn j t u).2) kn ed ct ti nm xa xb (nI ((f_Mo_run_3 ti nm xa it vs se rs wk n2 (j + 4) 1000000000).1)) ((f_Mo_run_3 ti nm xa it vs se rs wk n2 (j + 4) 1000000000).2.1) ((f_Mo_run_3 ti nm xa it vs se rs wk n2 (j + 4) 1000000000).2.2.1) ((f_Mo_run_3 ti nm xa it vs se rs wk n2 (j + 4) 1000000000).2.2.2.1) ((f_Mo_run_3 ti nm xa it vs se rs wk n2 (j + 4) 1000000000).2.2.2.2.1) ((f_Mo_run_3 ti nm xa it vs se rs wk n2 (j + 4) 1000000000).2.2.2.2.2.1) ((f_Mo_run_3 ti nm xa it vs se rs wk n2 (j + 4) 1000000000).2.2.2.2.2.2) ors owk) H := hP1
  have hD : va_D (blk a 15) (wMo cI cJ cZ a ((f_Mo_lacksTwo kn j t u).2) kn ed ct ti nm xa xb (nI ((f_Mo_run_3 ti nm xa it vs se rs wk n2 (j + 4) 1000000000).1)) ((f_Mo_run_3 ti nm xa it vs se rs wk n2 (j + 4) 1000000000).2.1) ((f_Mo_run_3 ti nm xa it vs se rs wk n2 (j + 4) 1000000000).2.2.1) ((f_Mo_run_3 ti nm xa it vs se rs wk n2 (j + 4) 1000000000).2.2.2.1) ((f_Mo_run_3 ti nm xa it vs se rs wk n2 (j + 4) 1000000000).2.2.2.2.1) ((f_Mo_run_3 ti nm xa it vs se rs wk n2 (j + 4) 1000000000).2.2.2.2.2.1) ((f_Mo_run_3 ti nm xa it vs se rs wk n2 (j + 4) 1000000000).2.2.2.2.2.2) ors owk) := (blk_D (wMo_in))
  refine lv_iconst (v := 0) hx hb d_Md_firstChange_35 (by decide) ?_
  refine lv_istore (lv' := [(4, .int 0), (0, .ref a), (1, .int (nI j)), (2, .int t), (3, .int u)]) hx hb d_Md_firstChange_36 hl (by decide) rfl (fun ls hl => ?_)
  exact key_38 32 0 ((f_Mo_run_3 ti nm xa it vs se rs wk n2 (j + 4) 1000000000).1) ((f_Mo_run_3 ti nm xa it vs se rs wk n2 (j + 4) 1000000000).2.1) ((f_Mo_run_3 ti nm xa it vs se rs wk n2 (j + 4) 1000000000).2.2.1) ((f_Mo_run_3 ti nm xa it vs se rs wk n2 (j + 4) 1000000000).2.2.2.1) ((f_Mo_run_3 ti nm xa it vs se rs wk n2 (j + 4) 1000000000).2.2.2.2.1) ((f_Mo_run_3 ti nm xa it vs se rs wk n2 (j + 4) 1000000000).2.2.2.2.2.1) ((f_Mo_run_3 ti nm xa it vs se rs wk n2 (j + 4) 1000000000).2.2.2.2.2.2) ors owk _ _ ls (by omega) (run_bz_3 _ _ _ _ _ _ _ _ _ _ _ hbz) hR hl hP hS

def g_Mo_effective_4_29 (kn : Nat → Int32) (ti : Nat → Int32) (j : Nat) (t : Int32) (u : Int32) : Nat → Nat → Nat → Int32 → (Nat → Int32) → (Nat → Int32) → (Nat → Int32) → Int64 → (Nat → Int64) → (Nat → Int32) → Nat × Int32 × Int32 × (Nat → Int32) × (Nat → Int32) × (Nat → Int32) × Int64 × (Nat → Int64) × (Nat → Int32)
  | 0, i, c9, mc, it, vs, se, sm, rs, wk => (c9, (f_Mo_lacksTwo kn j t u).2, mc, it, vs, se, sm, rs, wk)
  | k + 1, i, c9, mc, it, vs, se, sm, rs, wk => if (ti (32 * j + i)) < t then (g_Mo_effective_4_29 kn ti j t u k (i + 1) (c9 + 0) mc it vs se sm rs wk) else (if u < (ti (32 * j + i)) then (g_Mo_effective_4_29 kn ti j t u k (i + 1) (c9 + 0) mc it vs se sm rs wk) else (if (wk i) = 0 then (g_Mo_effective_4_29 kn ti j t u k (i + 1) (c9 + 0) mc it vs se sm rs wk) else (g_Mo_effective_4_29 kn ti j t u k (i + 1) (c9 + 1) mc it vs se sm rs wk)))

def f_Mo_effective_4 (kn : Nat → Int32) (ti : Nat → Int32) (xa : Nat → Int32) (it : Nat → Int32) (vs : Nat → Int32) (se : Nat → Int32) (rs : Nat → Int64) (wk : Nat → Int32) (n : Nat) (j : Nat) (t : Int32) (u : Int32) : Nat × Int32 × Int32 × (Nat → Int32) × (Nat → Int32) × (Nat → Int32) × Int64 × (Nat → Int64) × (Nat → Int32) := g_Mo_effective_4_29 kn ti j t u n 0 0 ((f_Mo_run_4 ti xa it vs se rs wk n j u).1) ((f_Mo_run_4 ti xa it vs se rs wk n j u).2.1) ((f_Mo_run_4 ti xa it vs se rs wk n j u).2.2.1) ((f_Mo_run_4 ti xa it vs se rs wk n j u).2.2.2.1) ((f_Mo_run_4 ti xa it vs se rs wk n j u).2.2.2.2.1) ((f_Mo_run_4 ti xa it vs se rs wk n j u).2.2.2.2.2.1) ((f_Mo_run_4 ti xa it vs se rs wk n j u).2.2.2.2.2.2)
set_option maxHeartbeats 4000000 in
set_option maxRecDepth 100000 in
theorem m_Mo_effective_4 (l : Launch) (D : va_G) (cI cJ cZ cO : ClassId) (a : Nat) (code : Int32) (kn : Nat → Int32) (ed : Nat → Int32) (ct : Nat → Int32) (ti : Nat → Int32) (nm : Nat → Int32) (xa : Nat → Int32) (xb : Nat → Int32) (ma : Int32) (it : Nat → Int32) (vs : Nat → Int32) (se : Nat → Int32) (sm : Int64) (rs : Nat → Int64) (wk : Nat → Int32) (ors : Nat → Int64) (owk : Nat → Int32) (n : Nat) (j : Nat) (t : Int32) (u : Int32) (hj : j < 4) (hlk : (f_Mo_lacksTwo kn j t u).1 = 0) (hk : kn j = 5) (hct : ct j = nI n) (hn : n ≤ 32) (R : Nat × Int32 × Int32 × (Nat → Int32) × (Nat → Int32) × (Nat → Int32) × Int64 × (Nat → Int64) × (Nat → Int32)) (hR : f_Mo_effective_4 kn ti xa it vs se rs wk n j t u = R) : Met l y_Md_effective (k_Md_effective :: gt) rm_Md_effective (Pc0 D cI cJ cZ cO [.ref a, .int (nI j), .int t, .int u] (fun H => va_P D cls (wMo cI cJ cZ a code kn ed ct ti nm xa xb ma it vs se sm rs wk ors owk) H)) (Qd (blk a 15) (some (.int (nI R.1))) (fun H => va_P D cls (wMo cI cJ cZ a R.2.1 kn ed ct ti nm xa xb R.2.2.1 R.2.2.2.1 R.2.2.2.2.1 R.2.2.2.2.2.1 R.2.2.2.2.2.2.1 R.2.2.2.2.2.2.2.1 R.2.2.2.2.2.2.2.2 ors owk) H)) 0 0 (blk a 15) := by
  refine Met.ofW (cc := c_Md_effective) (maxL := 7) (ret := (Option.some FieldType.int)) (by decide) rfl ?_
  intro p e s m args below meth c s₁ B hml hv
  obtain ⟨rfl, hKn, hP⟩ := hv
  have hx := B.exec
  have hb := B.bytes
  have hr := B.returns
  have hts := atoms_spec (ws := k_Md_effective :: gt) B.pre
  have hg : ∀ w ∈ gt, w.before _ s = true := fun w h => hts w (List.mem_cons_of_mem _ h)
  have hown : s.vm.findClass R_Md = some m.cls := findClass_of_methodNamed B.named
  have hlocks := B.notSynchronized
  have hK := hKn.1
  have hl := lv_entry ([.ref a, .int (nI j), .int t, .int u]) (n := 7) (Nat.le_of_ble_eq_true rfl)
  rw [lg_entry_eq]
  generalize (lg_sl ([.ref a, .int (nI j), .int t, .int u]) ++ List.replicate (7 - (lg_sl ([.ref a, .int (nI j), .int t, .int u])).length) Slot.unset).toArray = ls at hl ⊢
  have hl : lv_has ls 7 [(0, .ref a), (1, .int (nI j)), (2, .int t), (3, .int u)] := hl
  have hS : va_S (blk a 15) s.heap s.heap [] := va_S.rf
  have hD : va_D (blk a 15) (wMo cI cJ cZ a code kn ed ct ti nm xa xb ma it vs se sm rs wk ors owk) := (blk_D (wMo_in))
  have key_29 : ∀ (k : Nat) (i : Nat) (c9 : Nat) (mc : Int32) (it : Nat → Int32) (vs : Nat → Int32) (se : Nat → Int32) (sm : Int64) (rs : Nat → Int64) (wk : Nat → Int32) (H : Heap) (locs : List Loc) (ls : Array Slot), i + k = n → g_Mo_effective_4_29 kn ti j t u k i c9 mc it vs se sm rs wk = R → lv_has ls 7 [(5, .int (nI i)), (4, .int (nI c9)), (0, .ref a), (1, .int (nI j)), (2, .int t), (3, .int u)] → va_P D cls (wMo cI cJ cZ a ((f_Mo_lacksTwo kn j t u).2) kn ed ct ti nm xa xb mc it vs se sm rs wk ors owk) H → va_S (blk a 15) s.heap H locs → W p l e (headSpec (k_Md_effective :: gt) rm_Md_effective).room s m ([.ref a, .int (nI j), .int t, .int u] : List Value).toArray below meth c H locs 0 0 (MQ below (Qd (blk a 15) (some (.int (nI R.1))) (fun H => va_P D cls (wMo cI cJ cZ a R.2.1 kn ed ct ti nm xa xb R.2.2.1 R.2.2.2.1 R.2.2.2.2.1 R.2.2.2.2.2.1 R.2.2.2.2.2.2.1 R.2.2.2.2.2.2.2.1 R.2.2.2.2.2.2.2.2 ors owk) H)) ([.ref a, .int (nI j), .int t, .int u] : List Value).toArray s 0 0 (blk a 15)) (F0 m 29 ls []) := by
    intro k
    induction k with
    | zero =>
      intro i c9 mc it vs se sm rs wk H locs ls hi hR hl hP hS
      have hR : ((c9, (f_Mo_lacksTwo kn j t u).2, mc, it, vs, se, sm, rs, wk)) = R := hR
      have hD : va_D (blk a 15) (wMo cI cJ cZ a ((f_Mo_lacksTwo kn j t u).2) kn ed ct ti nm xa xb mc it vs se sm rs wk ors owk) := (blk_D (wMo_in))
      refine lv_iload hx hb d_Md_effective_29 (lv_at hl 0 rfl) ?_
      refine lv_aload_n hx hb d_Md_effective_31 rfl (lv_at hl 2 rfl) ?_
      refine va_get (D := D) (ci := 9) (v := .ref (a + 3)) (C := R_Md) (T := F_Md) (N := 17) hx hb hg in_Md hown hK hP 0 rfl rfl 3 (Nat.le_of_ble_eq_true rfl) (hg _ tw_709) (fun _ h9 => h9) rfl d_Md_effective_32 ?_
      refine lv_iload_n hx hb d_Md_effective_35 rfl (lv_at hl 3 rfl) ?_
      refine ep_iald hx hb hK hP 3 0 rfl rfl (i := j) (by omega) (by decide) d_Md_effective_36 ?_
      refine lv_topi (fun z9 e_z9 => ?_)
      obtain rfl : z9 = nI n := by rw [e_z9]; exact hct
      refine lv_icmp_ge (tgt := 92) hx hb d_Md_effective_37 (by decide) (fun hc => ?_) (fun hc => False.elim (by have hc : ¬ (n ≤ i) := fun h => hc (by exact (nI_leI (a := n) (b := i) (by omega) (by omega)).mpr h); omega))
      refine lv_iload hx hb d_Md_effective_92 (lv_at hl 1 rfl) ?_
      subst hR
      exact W.iret (v := (nI c9)) hx hb hr (fun t9 ht hW => ⟨rfl, hS.F ht, by rw [ht]; exact hP⟩) hS.2.2 d_Md_effective_94
    | succ k ih =>
      intro i c9 mc it vs se sm rs wk H locs ls hi hR hl hP hS
      have hR : (if (ti (32 * j + i)) < t then (g_Mo_effective_4_29 kn ti j t u k (i + 1) (c9 + 0) mc it vs se sm rs wk) else (if u < (ti (32 * j + i)) then (g_Mo_effective_4_29 kn ti j t u k (i + 1) (c9 + 0) mc it vs se sm rs wk) else (if (wk i) = 0 then (g_Mo_effective_4_29 kn ti j t u k (i + 1) (c9 + 0) mc it vs se sm rs wk) else (g_Mo_effective_4_29 kn ti j t u k (i + 1) (c9 + 1) mc it vs se sm rs wk)))) = R := hR
      have hD : va_D (blk a 15) (wMo cI cJ cZ a ((f_Mo_lacksTwo kn j t u).2) kn ed ct ti nm xa xb mc it vs se sm rs wk ors owk) := (blk_D (wMo_in))
      refine lv_iload hx hb d_Md_effective_29 (lv_at hl 0 rfl) ?_
      refine lv_aload_n hx hb d_Md_effective_31 rfl (lv_at hl 2 rfl) ?_
      refine va_get (D := D) (ci := 9) (v := .ref (a + 3)) (C := R_Md) (T := F_Md) (N := 17) hx hb hg in_Md hown hK hP 0 rfl rfl 3 (Nat.le_of_ble_eq_true rfl) (hg _ tw_709) (fun _ h9 => h9) rfl d_Md_effective_32 ?_
      refine lv_iload_n hx hb d_Md_effective_35 rfl (lv_at hl 3 rfl) ?_
      refine ep_iald hx hb hK hP 3 0 rfl rfl (i := j) (by omega) (by decide) d_Md_effective_36 ?_
      refine lv_topi (fun z9 e_z9 => ?_)
      obtain rfl : z9 = nI n := by rw [e_z9]; exact hct
      refine lv_icmp_ge (tgt := 92) hx hb d_Md_effective_37 (by decide) (fun hc => False.elim (by have hc := (nI_leI (a := n) (b := i) (by omega) (by omega)).mp hc; omega)) (fun hc => ?_)
      refine lv_aload_n hx hb d_Md_effective_40 rfl (lv_at hl 2 rfl) ?_
      refine va_get (D := D) (ci := 9) (v := .ref (a + 4)) (C := R_Md) (T := F_Md) (N := 17) hx hb hg in_Md hown hK hP 0 rfl rfl 4 (Nat.le_of_ble_eq_true rfl) (hg _ tw_710) (fun _ h9 => h9) rfl d_Md_effective_41 ?_
      refine lv_bipush (v := 32) hx hb d_Md_effective_44 (by decide) ?_
      refine lv_iload_n hx hb d_Md_effective_46 rfl (lv_at hl 3 rfl) ?_
      refine lv_imul hx hb d_Md_effective_47 ?_
      refine lv_topi (fun z9 e_z9 => ?_)
      obtain rfl : z9 = nI (32 * j) := by rw [e_z9]; exact (nI_mul 32 j)
      refine lv_iload hx hb d_Md_effective_48 (lv_at hl 0 rfl) ?_
      refine lv_iadd hx hb d_Md_effective_50 ?_
      refine lv_topi (fun z9 e_z9 => ?_)
      obtain rfl : z9 = nI (32 * j + i) := by rw [e_z9]; exact (nI_add (32 * j) i)
      refine ep_iald hx hb hK hP 4 0 rfl rfl (i := (32 * j + i)) (by omega) (by decide) d_Md_effective_51 ?_
      refine lv_istore (lv' := [(6, .int (ti (32 * j + i))), (5, .int (nI i)), (4, .int (nI c9)), (0, .ref a), (1, .int (nI j)), (2, .int t), (3, .int u)]) hx hb d_Md_effective_52 hl (by decide) rfl (fun ls hl => ?_)
      refine lv_iload hx hb d_Md_effective_54 (lv_at hl 2 rfl) ?_
      refine lv_iload hx hb d_Md_effective_56 (lv_at hl 0 rfl) ?_
      refine lv_iload_n hx hb d_Md_effective_58 rfl (lv_at hl 5 rfl) ?_
      refine lv_icmp_lt (tgt := 82) hx hb d_Md_effective_59 (by decide) (fun hc1 => ?_) (fun hc1 => ?_)
      · have hc1 : (ti (32 * j + i)) < t := hc1
        refine lv_iconst (v := 0) hx hb d_Md_effective_82 (by decide) ?_
        refine lv_iadd hx hb d_Md_effective_83 ?_
        refine lv_topi (fun z9 e_z9 => ?_)
        obtain rfl : z9 = nI (c9 + 0) := by rw [e_z9]; exact (nI_add c9 0)
        refine lv_istore (lv' := [(4, .int (nI (c9 + 0))), (6, .int (ti (32 * j + i))), (5, .int (nI i)), (0, .ref a), (1, .int (nI j)), (2, .int t), (3, .int u)]) hx hb d_Md_effective_84 hl (by decide) rfl (fun ls hl => ?_)
        refine lv_iinc (k := 2) (lv' := [(5, .int (nI (i + 1))), (4, .int (nI (c9 + 0))), (6, .int (ti (32 * j + i))), (0, .ref a), (1, .int (nI j)), (2, .int t), (3, .int u)]) hx hb d_Md_effective_86 hl rfl (inc1 _) (by decide) rfl (fun ls hl => ?_)
        refine lv_goto (tgt := 29) hx hb d_Md_effective_89 (by decide) ?_
        rw [if_pos hc1] at hR
        exact ih (i + 1) (c9 + 0) mc it vs se sm rs wk _ _ ls (by omega) hR (lv_sub hl [0, 1, 3, 4, 5, 6] rfl) hP hS
      · have hc1 : ¬ ((ti (32 * j + i)) < t) := hc1
        refine lv_iload hx hb d_Md_effective_62 (lv_at hl 0 rfl) ?_
        refine lv_iload_n hx hb d_Md_effective_64 rfl (lv_at hl 6 rfl) ?_
        refine lv_icmp_gt (tgt := 82) hx hb d_Md_effective_65 (by decide) (fun hc2 => ?_) (fun hc2 => ?_)
        · have hc2 : u < (ti (32 * j + i)) := hc2
          refine lv_iconst (v := 0) hx hb d_Md_effective_82 (by decide) ?_
          refine lv_iadd hx hb d_Md_effective_83 ?_
          refine lv_topi (fun z9 e_z9 => ?_)
          obtain rfl : z9 = nI (c9 + 0) := by rw [e_z9]; exact (nI_add c9 0)
          refine lv_istore (lv' := [(4, .int (nI (c9 + 0))), (6, .int (ti (32 * j + i))), (5, .int (nI i)), (0, .ref a), (1, .int (nI j)), (2, .int t), (3, .int u)]) hx hb d_Md_effective_84 hl (by decide) rfl (fun ls hl => ?_)
          refine lv_iinc (k := 2) (lv' := [(5, .int (nI (i + 1))), (4, .int (nI (c9 + 0))), (6, .int (ti (32 * j + i))), (0, .ref a), (1, .int (nI j)), (2, .int t), (3, .int u)]) hx hb d_Md_effective_86 hl rfl (inc1 _) (by decide) rfl (fun ls hl => ?_)
          refine lv_goto (tgt := 29) hx hb d_Md_effective_89 (by decide) ?_
          rw [if_neg hc1, if_pos hc2] at hR
          exact ih (i + 1) (c9 + 0) mc it vs se sm rs wk _ _ ls (by omega) hR (lv_sub hl [0, 1, 3, 4, 5, 6] rfl) hP hS
        · have hc2 : ¬ (u < (ti (32 * j + i))) := hc2
          refine lv_aload_n hx hb d_Md_effective_68 rfl (lv_at hl 3 rfl) ?_
          refine va_get (D := D) (ci := 9) (v := .ref (a + 12)) (C := R_Md) (T := F_Md) (N := 17) hx hb hg in_Md hown hK hP 0 rfl rfl 14 (Nat.le_of_ble_eq_true rfl) (hg _ tw_720) (fun _ h9 => h9) rfl d_Md_effective_69 ?_
          refine lv_iload hx hb d_Md_effective_72 (lv_at hl 1 rfl) ?_
          refine ep_zald hx hb hK hP 12 2 rfl rfl (i := i) (by omega) (by decide) d_Md_effective_74 ?_
          refine lv_if_eq (tgt := 82) hx hb d_Md_effective_75 (by decide) (fun hc3 => ?_) (fun hc3 => ?_)
          · have hc3 : (wk i) = 0 := hc3
            refine lv_iconst (v := 0) hx hb d_Md_effective_82 (by decide) ?_
            refine lv_iadd hx hb d_Md_effective_83 ?_
            refine lv_topi (fun z9 e_z9 => ?_)
            obtain rfl : z9 = nI (c9 + 0) := by rw [e_z9]; exact (nI_add c9 0)
            refine lv_istore (lv' := [(4, .int (nI (c9 + 0))), (6, .int (ti (32 * j + i))), (5, .int (nI i)), (0, .ref a), (1, .int (nI j)), (2, .int t), (3, .int u)]) hx hb d_Md_effective_84 hl (by decide) rfl (fun ls hl => ?_)
            refine lv_iinc (k := 2) (lv' := [(5, .int (nI (i + 1))), (4, .int (nI (c9 + 0))), (6, .int (ti (32 * j + i))), (0, .ref a), (1, .int (nI j)), (2, .int t), (3, .int u)]) hx hb d_Md_effective_86 hl rfl (inc1 _) (by decide) rfl (fun ls hl => ?_)
            refine lv_goto (tgt := 29) hx hb d_Md_effective_89 (by decide) ?_
            rw [if_neg hc1, if_neg hc2, if_pos hc3] at hR
            exact ih (i + 1) (c9 + 0) mc it vs se sm rs wk _ _ ls (by omega) hR (lv_sub hl [0, 1, 3, 4, 5, 6] rfl) hP hS
          · have hc3 : ¬ ((wk i) = 0) := hc3
            refine lv_iconst (v := 1) hx hb d_Md_effective_78 (by decide) ?_
            refine lv_goto (tgt := 83) hx hb d_Md_effective_79 (by decide) ?_
            refine lv_iadd hx hb d_Md_effective_83 ?_
            refine lv_topi (fun z9 e_z9 => ?_)
            obtain rfl : z9 = nI (c9 + 1) := by rw [e_z9]; exact (nI_add c9 1)
            refine lv_istore (lv' := [(4, .int (nI (c9 + 1))), (6, .int (ti (32 * j + i))), (5, .int (nI i)), (0, .ref a), (1, .int (nI j)), (2, .int t), (3, .int u)]) hx hb d_Md_effective_84 hl (by decide) rfl (fun ls hl => ?_)
            refine lv_iinc (k := 2) (lv' := [(5, .int (nI (i + 1))), (4, .int (nI (c9 + 1))), (6, .int (ti (32 * j + i))), (0, .ref a), (1, .int (nI j)), (2, .int t), (3, .int u)]) hx hb d_Md_effective_86 hl rfl (inc1 _) (by decide) rfl (fun ls hl => ?_)
            refine lv_goto (tgt := 29) hx hb d_Md_effective_89 (by decide) ?_
            rw [if_neg hc1, if_neg hc2, if_neg hc3] at hR
            exact ih (i + 1) (c9 + 1) mc it vs se sm rs wk _ _ ls (by omega) hR (lv_sub hl [0, 1, 3, 4, 5, 6] rfl) hP hS
  have hR : (g_Mo_effective_4_29 kn ti j t u n 0 0 ((f_Mo_run_4 ti xa it vs se rs wk n j u).1) ((f_Mo_run_4 ti xa it vs se rs wk n j u).2.1) ((f_Mo_run_4 ti xa it vs se rs wk n j u).2.2.1) ((f_Mo_run_4 ti xa it vs se rs wk n j u).2.2.2.1) ((f_Mo_run_4 ti xa it vs se rs wk n j u).2.2.2.2.1) ((f_Mo_run_4 ti xa it vs se rs wk n j u).2.2.2.2.2.1) ((f_Mo_run_4 ti xa it vs se rs wk n j u).2.2.2.2.2.2)) = R := hR
  refine lv_aload_n hx hb d_Md_effective_0 rfl (lv_at hl 0 rfl) ?_
  refine lv_iload_n hx hb d_Md_effective_1 rfl (lv_at hl 1 rfl) ?_
  refine lv_iload_n hx hb d_Md_effective_2 rfl (lv_at hl 2 rfl) ?_
  refine lv_iload_n hx hb d_Md_effective_3 rfl (lv_at hl 3 rfl) ?_
  refine ep_callH (W.runV (As := [.int (nI j), .int t, .int u]) (rest := []) ⟨hx, hb, hml, hown, hg⟩ (m_Mo_lacksTwo l D cI cJ cZ cO a code kn ed ct ti nm xa xb ma it vs se sm rs wk ors owk j t u (by omega) _ rfl) (ep_cwV 3 hg tw_896 tw_898 ts_25 tw_12 tk_Md_lacksTwo rfl rfl (by decide +kernel) ⟨(Nat.le_of_ble_eq_true rfl), (Nat.le_of_ble_eq_true rfl)⟩) ⟨ep_blind, va_recv (q0 := 0) (ci := 9) hK hP rfl rfl, ep_pre hKn (hP)⟩ rfl rfl hl.1 rfl (lv_room (Nat.le_of_ble_eq_true rfl)) d_Md_effective_4 ⟨Nat.zero_le _, Nat.zero_le _⟩) hS (fun q h => h) (fun H locs hsz9 hk1 hP1 hS => ?_)
  refine W.eq (g2 := F0 m 7 ls [.int ((f_Mo_lacksTwo kn j t u).1)]) rfl ?_
  have hP : va_P D cls (wMo cI cJ cZ a ((f_Mo_lacksTwo kn j t u).2) kn ed ct ti nm xa xb ma it vs se sm rs wk ors owk) H := hP1
  have hD : va_D (blk a 15) (wMo cI cJ cZ a ((f_Mo_lacksTwo kn j t u).2) kn ed ct ti nm xa xb ma it vs se sm rs wk ors owk) := (blk_D (wMo_in))
  refine lv_if_eq (tgt := 12) hx hb d_Md_effective_7 (by decide) (fun hc => ?_) (fun hc => absurd hlk hc)
  refine lv_aload_n hx hb d_Md_effective_12 rfl (lv_at hl 0 rfl) ?_
  refine lv_iload_n hx hb d_Md_effective_13 rfl (lv_at hl 1 rfl) ?_
  refine lv_aload_n hx hb d_Md_effective_14 rfl (lv_at hl 0 rfl) ?_
  refine lv_iload_n hx hb d_Md_effective_15 rfl (lv_at hl 1 rfl) ?_
  refine ep_callP (W.runV (As := [.int (nI j)]) (rest := [.int (nI j), .ref a]) ⟨hx, hb, hml, hown, hg⟩ (m_Mo_kindOf l D cI cJ cZ cO a ((f_Mo_lacksTwo kn j t u).2) kn ed ct ti nm xa xb ma it vs se sm rs wk ors owk j (by omega) _ rfl) (ep_cwV 1 hg tw_789 tw_791 ts_11 tw_12 tk_Md_kindOf rfl rfl (by decide +kernel) ⟨(Nat.le_of_ble_eq_true rfl), (Nat.le_of_ble_eq_true rfl)⟩) ⟨ep_blind, va_recv (q0 := 0) (ci := 9) hK hP rfl rfl, ep_pre hKn (hP)⟩ rfl rfl hl.1 rfl (lv_room (Nat.le_of_ble_eq_true rfl)) d_Md_effective_16 ⟨Nat.zero_le _, Nat.zero_le _⟩) ?_
  refine W.eq (g2 := F0 m 19 ls [.int (f_Mo_kindOf kn j), .int (nI j), .ref a]) rfl ?_
  refine lv_topi (fun z9 e_z9 => ?_)
  obtain rfl : z9 = 4 := by rw [e_z9]; exact (by rw [show f_Mo_kindOf kn j = kn j - 1 from rfl, hk]; decide)
  refine lv_iload_n hx hb d_Md_effective_19 rfl (lv_at hl 3 rfl) ?_
  refine ep_callH (W.runV (As := [.int (nI j), .int 4, .int u]) (rest := []) ⟨hx, hb, hml, hown, hg⟩ (m_Mo_run_4 l D cI cJ cZ cO a ((f_Mo_lacksTwo kn j t u).2) kn ed ct ti nm xa xb ma it vs se sm rs wk ors owk n j u (by omega) hct (by omega) _ rfl) (ep_cwV 3 hg tw_832 tw_834 ts_17 tw_12 tk_Md_run rfl rfl (by decide +kernel) ⟨(Nat.le_of_ble_eq_true rfl), (Nat.le_of_ble_eq_true rfl)⟩) ⟨ep_blind, va_recv (q0 := 0) (ci := 9) hK hP rfl rfl, ep_pre hKn (hP)⟩ rfl rfl hl.1 rfl (lv_room (Nat.le_of_ble_eq_true rfl)) d_Md_effective_20 ⟨Nat.zero_le _, Nat.zero_le _⟩) hS (fun q h => h) (fun H locs hsz9 hk1 hP1 hS => ?_)
  refine W.eq (g2 := F0 m 23 ls []) rfl ?_
  have hP : va_P D cls (wMo cI cJ cZ a ((f_Mo_lacksTwo kn j t u).2) kn ed ct ti nm xa xb ((f_Mo_run_4 ti xa it vs se rs wk n j u).1) ((f_Mo_run_4 ti xa it vs se rs wk n j u).2.1) ((f_Mo_run_4 ti xa it vs se rs wk n j u).2.2.1) ((f_Mo_run_4 ti xa it vs se rs wk n j u).2.2.2.1) ((f_Mo_run_4 ti xa it vs se rs wk n j u).2.2.2.2.1) ((f_Mo_run_4 ti xa it vs se rs wk n j u).2.2.2.2.2.1) ((f_Mo_run_4 ti xa it vs se rs wk n j u).2.2.2.2.2.2) ors owk) H := hP1
  have hD : va_D (blk a 15) (wMo cI cJ cZ a ((f_Mo_lacksTwo kn j t u).2) kn ed ct ti nm xa xb ((f_Mo_run_4 ti xa it vs se rs wk n j u).1) ((f_Mo_run_4 ti xa it vs se rs wk n j u).2.1) ((f_Mo_run_4 ti xa it vs se rs wk n j u).2.2.1) ((f_Mo_run_4 ti xa it vs se rs wk n j u).2.2.2.1) ((f_Mo_run_4 ti xa it vs se rs wk n j u).2.2.2.2.1) ((f_Mo_run_4 ti xa it vs se rs wk n j u).2.2.2.2.2.1) ((f_Mo_run_4 ti xa it vs se rs wk n j u).2.2.2.2.2.2) ors owk) := (blk_D (wMo_in))
  refine lv_iconst (v := 0) hx hb d_Md_effective_23 (by decide) ?_
  refine lv_istore (lv' := [(4, .int 0), (0, .ref a), (1, .int (nI j)), (2, .int t), (3, .int u)]) hx hb d_Md_effective_24 hl (by decide) rfl (fun ls hl => ?_)
  refine lv_iconst (v := 0) hx hb d_Md_effective_26 (by decide) ?_
  refine lv_istore (lv' := [(5, .int 0), (4, .int 0), (0, .ref a), (1, .int (nI j)), (2, .int t), (3, .int u)]) hx hb d_Md_effective_27 hl (by decide) rfl (fun ls hl => ?_)
  exact key_29 n 0 0 ((f_Mo_run_4 ti xa it vs se rs wk n j u).1) ((f_Mo_run_4 ti xa it vs se rs wk n j u).2.1) ((f_Mo_run_4 ti xa it vs se rs wk n j u).2.2.1) ((f_Mo_run_4 ti xa it vs se rs wk n j u).2.2.2.1) ((f_Mo_run_4 ti xa it vs se rs wk n j u).2.2.2.2.1) ((f_Mo_run_4 ti xa it vs se rs wk n j u).2.2.2.2.2.1) ((f_Mo_run_4 ti xa it vs se rs wk n j u).2.2.2.2.2.2) _ _ ls (by omega) hR hl hP hS

def g_Mo_firstChange_4_227 (kn : Nat → Int32) (ti : Nat → Int32) (n : Nat) (j : Nat) (t : Int32) (u : Int32) : Nat → Nat → Int32 → Int32 → (Nat → Int32) → (Nat → Int32) → (Nat → Int32) → Int64 → (Nat → Int64) → (Nat → Int32) → (Nat → Int64) → (Nat → Int32) → Int32 × Int32 × Int32 × (Nat → Int32) × (Nat → Int32) × (Nat → Int32) × Int64 × (Nat → Int64) × (Nat → Int32) × (Nat → Int64) × (Nat → Int32)
  | 0, i, be, mc, it, vs, se, sm, rs, wk, ors, owk => (be, (f_Mo_lacksTwo kn j t u).2, mc, it, vs, se, sm, rs, wk, ors, owk)
  | k + 1, i, be, mc, it, vs, se, sm, rs, wk, ors, owk => if ¬ (f_Mo_find ti n j (ti (32 * (j + 4) + i))) = -1 then (g_Mo_firstChange_4_227 kn ti n j t u k (i + 1) be mc it vs se sm rs wk ors owk) else (if (ti (32 * (j + 4) + i)) < t then (g_Mo_firstChange_4_227 kn ti n j t u k (i + 1) be mc it vs se sm rs wk ors owk) else (if u < (ti (32 * (j + 4) + i)) then (g_Mo_firstChange_4_227 kn ti n j t u k (i + 1) be mc it vs se sm rs wk ors owk) else (if be = 0 then (g_Mo_firstChange_4_227 kn ti n j t u k (i + 1) (ti (32 * (j + 4) + i)) mc it vs se sm rs wk ors owk) else (if be ≤ (ti (32 * (j + 4) + i)) then (g_Mo_firstChange_4_227 kn ti n j t u k (i + 1) be mc it vs se sm rs wk ors owk) else (g_Mo_firstChange_4_227 kn ti n j t u k (i + 1) (ti (32 * (j + 4) + i)) mc it vs se sm rs wk ors owk)))))

def g_Mo_firstChange_4_97 (kn : Nat → Int32) (ti : Nat → Int32) (n : Nat) (n2 : Nat) (j : Nat) (t : Int32) (u : Int32) : Nat → Nat → Int32 → Int32 → (Nat → Int32) → (Nat → Int32) → (Nat → Int32) → Int64 → (Nat → Int64) → (Nat → Int32) → (Nat → Int64) → (Nat → Int32) → Int32 × Int32 × Int32 × (Nat → Int32) × (Nat → Int32) × (Nat → Int32) × Int64 × (Nat → Int64) × (Nat → Int32) × (Nat → Int64) × (Nat → Int32)
  | 0, i, be, mc, it, vs, se, sm, rs, wk, ors, owk => g_Mo_firstChange_4_227 kn ti n j t u n2 0 be mc it vs se sm rs wk ors owk
  | k + 1, i, be, mc, it, vs, se, sm, rs, wk, ors, owk => if ¬ (f_Mo_find ti n2 (j + 4) (ti (32 * j + i))) = -1 then (if (lg_cmp (ors ((f_Mo_find ti n2 (j + 4) (ti (32 * j + i))).toNatClampNeg)) (rs i)) = 0 then (if (owk ((f_Mo_find ti n2 (j + 4) (ti (32 * j + i))).toNatClampNeg)) = (wk i) then (g_Mo_firstChange_4_97 kn ti n n2 j t u k (i + 1) be mc it vs se sm rs wk ors owk) else (if (ti (32 * j + i)) < t then (g_Mo_firstChange_4_97 kn ti n n2 j t u k (i + 1) be mc it vs se sm rs wk ors owk) else (if u < (ti (32 * j + i)) then (g_Mo_firstChange_4_97 kn ti n n2 j t u k (i + 1) be mc it vs se sm rs wk ors owk) else (if be = 0 then (g_Mo_firstChange_4_97 kn ti n n2 j t u k (i + 1) (ti (32 * j + i)) mc it vs se sm rs wk ors owk) else (if be ≤ (ti (32 * j + i)) then (g_Mo_firstChange_4_97 kn ti n n2 j t u k (i + 1) be mc it vs se sm rs wk ors owk) else (g_Mo_firstChange_4_97 kn ti n n2 j t u k (i + 1) (ti (32 * j + i)) mc it vs se sm rs wk ors owk)))))) else (if (ti (32 * j + i)) < t then (g_Mo_firstChange_4_97 kn ti n n2 j t u k (i + 1) be mc it vs se sm rs wk ors owk) else (if u < (ti (32 * j + i)) then (g_Mo_firstChange_4_97 kn ti n n2 j t u k (i + 1) be mc it vs se sm rs wk ors owk) else (if be = 0 then (g_Mo_firstChange_4_97 kn ti n n2 j t u k (i + 1) (ti (32 * j + i)) mc it vs se sm rs wk ors owk) else (if be ≤ (ti (32 * j + i)) then (g_Mo_firstChange_4_97 kn ti n n2 j t u k (i + 1) be mc it vs se sm rs wk ors owk) else (g_Mo_firstChange_4_97 kn ti n n2 j t u k (i + 1) (ti (32 * j + i)) mc it vs se sm rs wk ors owk)))))) else (if (ti (32 * j + i)) < t then (g_Mo_firstChange_4_97 kn ti n n2 j t u k (i + 1) be mc it vs se sm rs wk ors owk) else (if u < (ti (32 * j + i)) then (g_Mo_firstChange_4_97 kn ti n n2 j t u k (i + 1) be mc it vs se sm rs wk ors owk) else (if be = 0 then (g_Mo_firstChange_4_97 kn ti n n2 j t u k (i + 1) (ti (32 * j + i)) mc it vs se sm rs wk ors owk) else (if be ≤ (ti (32 * j + i)) then (g_Mo_firstChange_4_97 kn ti n n2 j t u k (i + 1) be mc it vs se sm rs wk ors owk) else (g_Mo_firstChange_4_97 kn ti n n2 j t u k (i + 1) (ti (32 * j + i)) mc it vs se sm rs wk ors owk)))))

def g_Mo_firstChange_4_38 (kn : Nat → Int32) (ti : Nat → Int32) (xa : Nat → Int32) (n : Nat) (n2 : Nat) (j : Nat) (t : Int32) (u : Int32) : Nat → Nat → Int32 → (Nat → Int32) → (Nat → Int32) → (Nat → Int32) → Int64 → (Nat → Int64) → (Nat → Int32) → (Nat → Int64) → (Nat → Int32) → Int32 × Int32 × Int32 × (Nat → Int32) × (Nat → Int32) × (Nat → Int32) × Int64 × (Nat → Int64) × (Nat → Int32) × (Nat → Int64) × (Nat → Int32)
  | 0, i, mc, it, vs, se, sm, rs, wk, ors, owk => g_Mo_firstChange_4_97 kn ti n n2 j t u n 0 0 ((f_Mo_run_4 ti xa it vs se rs wk n j 1000000000).1) ((f_Mo_run_4 ti xa it vs se rs wk n j 1000000000).2.1) ((f_Mo_run_4 ti xa it vs se rs wk n j 1000000000).2.2.1) ((f_Mo_run_4 ti xa it vs se rs wk n j 1000000000).2.2.2.1) ((f_Mo_run_4 ti xa it vs se rs wk n j 1000000000).2.2.2.2.1) ((f_Mo_run_4 ti xa it vs se rs wk n j 1000000000).2.2.2.2.2.1) ((f_Mo_run_4 ti xa it vs se rs wk n j 1000000000).2.2.2.2.2.2) ors owk
  | k + 1, i, mc, it, vs, se, sm, rs, wk, ors, owk => g_Mo_firstChange_4_38 kn ti xa n n2 j t u k (i + 1) mc it vs se sm rs wk (vp_updL ors i (rs i)) (upd owk i (wk i))

def f_Mo_firstChange_4 (kn : Nat → Int32) (ti : Nat → Int32) (xa : Nat → Int32) (it : Nat → Int32) (vs : Nat → Int32) (se : Nat → Int32) (rs : Nat → Int64) (wk : Nat → Int32) (ors : Nat → Int64) (owk : Nat → Int32) (n : Nat) (n2 : Nat) (j : Nat) (t : Int32) (u : Int32) : Int32 × Int32 × Int32 × (Nat → Int32) × (Nat → Int32) × (Nat → Int32) × Int64 × (Nat → Int64) × (Nat → Int32) × (Nat → Int64) × (Nat → Int32) := g_Mo_firstChange_4_38 kn ti xa n n2 j t u 32 0 ((f_Mo_run_4 ti xa it vs se rs wk n2 (j + 4) 1000000000).1) ((f_Mo_run_4 ti xa it vs se rs wk n2 (j + 4) 1000000000).2.1) ((f_Mo_run_4 ti xa it vs se rs wk n2 (j + 4) 1000000000).2.2.1) ((f_Mo_run_4 ti xa it vs se rs wk n2 (j + 4) 1000000000).2.2.2.1) ((f_Mo_run_4 ti xa it vs se rs wk n2 (j + 4) 1000000000).2.2.2.2.1) ((f_Mo_run_4 ti xa it vs se rs wk n2 (j + 4) 1000000000).2.2.2.2.2.1) ((f_Mo_run_4 ti xa it vs se rs wk n2 (j + 4) 1000000000).2.2.2.2.2.2) ors owk
set_option maxHeartbeats 4000000 in
set_option maxRecDepth 100000 in
theorem m_Mo_firstChange_4 (l : Launch) (D : va_G) (cI cJ cZ cO : ClassId) (a : Nat) (code : Int32) (kn : Nat → Int32) (ed : Nat → Int32) (ct : Nat → Int32) (ti : Nat → Int32) (nm : Nat → Int32) (xa : Nat → Int32) (xb : Nat → Int32) (ma : Int32) (it : Nat → Int32) (vs : Nat → Int32) (se : Nat → Int32) (sm : Int64) (rs : Nat → Int64) (wk : Nat → Int32) (ors : Nat → Int64) (owk : Nat → Int32) (n : Nat) (n2 : Nat) (j : Nat) (t : Int32) (u : Int32) (hj : j < 4) (hlk : (f_Mo_lacksTwo kn j t u).1 = 0) (hk : kn j = 5) (hct : ct j = nI n) (hn : n ≤ 32) (hct2 : ct (j + 4) = nI n2) (hn2 : n2 ≤ 32) (hbz : bz wk) (hed : ¬ ed j = 0) (R : Int32 × Int32 × Int32 × (Nat → Int32) × (Nat → Int32) × (Nat → Int32) × Int64 × (Nat → Int64) × (Nat → Int32) × (Nat → Int64) × (Nat → Int32)) (hR : f_Mo_firstChange_4 kn ti xa it vs se rs wk ors owk n n2 j t u = R) : Met l y_Md_firstChange (k_Md_firstChange :: gt) rm_Md_firstChange (Pc0 D cI cJ cZ cO [.ref a, .int (nI j), .int t, .int u] (fun H => va_P D cls (wMo cI cJ cZ a code kn ed ct ti nm xa xb ma it vs se sm rs wk ors owk) H)) (Qd (blk a 15) (some (.int R.1)) (fun H => va_P D cls (wMo cI cJ cZ a R.2.1 kn ed ct ti nm xa xb R.2.2.1 R.2.2.2.1 R.2.2.2.2.1 R.2.2.2.2.2.1 R.2.2.2.2.2.2.1 R.2.2.2.2.2.2.2.1 R.2.2.2.2.2.2.2.2.1 R.2.2.2.2.2.2.2.2.2.1 R.2.2.2.2.2.2.2.2.2.2) H)) 0 0 (blk a 15) := by
  refine Met.ofW (cc := c_Md_firstChange) (maxL := 9) (ret := (Option.some FieldType.int)) (by decide) rfl ?_
  intro p e s m args below meth c s₁ B hml hv
  obtain ⟨rfl, hKn, hP⟩ := hv
  have hx := B.exec
  have hb := B.bytes
  have hr := B.returns
  have hts := atoms_spec (ws := k_Md_firstChange :: gt) B.pre
  have hg : ∀ w ∈ gt, w.before _ s = true := fun w h => hts w (List.mem_cons_of_mem _ h)
  have hown : s.vm.findClass R_Md = some m.cls := findClass_of_methodNamed B.named
  have hlocks := B.notSynchronized
  have hK := hKn.1
  have hl := lv_entry ([.ref a, .int (nI j), .int t, .int u]) (n := 9) (Nat.le_of_ble_eq_true rfl)
  rw [lg_entry_eq]
  generalize (lg_sl ([.ref a, .int (nI j), .int t, .int u]) ++ List.replicate (9 - (lg_sl ([.ref a, .int (nI j), .int t, .int u])).length) Slot.unset).toArray = ls at hl ⊢
  have hl : lv_has ls 9 [(0, .ref a), (1, .int (nI j)), (2, .int t), (3, .int u)] := hl
  have hS : va_S (blk a 15) s.heap s.heap [] := va_S.rf
  have hD : va_D (blk a 15) (wMo cI cJ cZ a code kn ed ct ti nm xa xb ma it vs se sm rs wk ors owk) := (blk_D (wMo_in))
  have key_227 : ∀ (k : Nat) (i : Nat) (be : Int32) (mc : Int32) (it : Nat → Int32) (vs : Nat → Int32) (se : Nat → Int32) (sm : Int64) (rs : Nat → Int64) (wk : Nat → Int32) (ors : Nat → Int64) (owk : Nat → Int32) (H : Heap) (locs : List Loc) (ls : Array Slot), i + k = n2 → g_Mo_firstChange_4_227 kn ti n j t u k i be mc it vs se sm rs wk ors owk = R → lv_has ls 9 [(5, .int (nI i)), (4, .int be), (0, .ref a), (1, .int (nI j)), (2, .int t), (3, .int u)] → va_P D cls (wMo cI cJ cZ a ((f_Mo_lacksTwo kn j t u).2) kn ed ct ti nm xa xb mc it vs se sm rs wk ors owk) H → va_S (blk a 15) s.heap H locs → W p l e (headSpec (k_Md_firstChange :: gt) rm_Md_firstChange).room s m ([.ref a, .int (nI j), .int t, .int u] : List Value).toArray below meth c H locs 0 0 (MQ below (Qd (blk a 15) (some (.int R.1)) (fun H => va_P D cls (wMo cI cJ cZ a R.2.1 kn ed ct ti nm xa xb R.2.2.1 R.2.2.2.1 R.2.2.2.2.1 R.2.2.2.2.2.1 R.2.2.2.2.2.2.1 R.2.2.2.2.2.2.2.1 R.2.2.2.2.2.2.2.2.1 R.2.2.2.2.2.2.2.2.2.1 R.2.2.2.2.2.2.2.2.2.2) H)) ([.ref a, .int (nI j), .int t, .int u] : List Value).toArray s 0 0 (blk a 15)) (F0 m 227 ls []) := by
    intro k
    induction k with
    | zero =>
      intro i be mc it vs se sm rs wk ors owk H locs ls hi hR hl hP hS
      have hR : ((be, (f_Mo_lacksTwo kn j t u).2, mc, it, vs, se, sm, rs, wk, ors, owk)) = R := hR
      have hD : va_D (blk a 15) (wMo cI cJ cZ a ((f_Mo_lacksTwo kn j t u).2) kn ed ct ti nm xa xb mc it vs se sm rs wk ors owk) := (blk_D (wMo_in))
      refine lv_iload hx hb d_Md_firstChange_227 (lv_at hl 0 rfl) ?_
      refine lv_aload_n hx hb d_Md_firstChange_229 rfl (lv_at hl 2 rfl) ?_
      refine va_get (D := D) (ci := 9) (v := .ref (a + 3)) (C := R_Md) (T := F_Md) (N := 17) hx hb hg in_Md hown hK hP 0 rfl rfl 3 (Nat.le_of_ble_eq_true rfl) (hg _ tw_709) (fun _ h9 => h9) rfl d_Md_firstChange_230 ?_
      refine lv_iload_n hx hb d_Md_firstChange_233 rfl (lv_at hl 3 rfl) ?_
      refine lv_iconst (v := 4) hx hb d_Md_firstChange_234 (by decide) ?_
      refine lv_iadd hx hb d_Md_firstChange_235 ?_
      refine lv_topi (fun z9 e_z9 => ?_)
      obtain rfl : z9 = nI (j + 4) := by rw [e_z9]; exact (nI_add j 4)
      refine ep_iald hx hb hK hP 3 0 rfl rfl (i := (j + 4)) (by omega) (by decide) d_Md_firstChange_236 ?_
      refine lv_topi (fun z9 e_z9 => ?_)
      obtain rfl : z9 = nI n2 := by rw [e_z9]; exact hct2
      refine lv_icmp_ge (tgt := 305) hx hb d_Md_firstChange_237 (by decide) (fun hc => ?_) (fun hc => False.elim (by have hc : ¬ (n2 ≤ i) := fun h => hc (by exact (nI_leI (a := n2) (b := i) (by omega) (by omega)).mpr h); omega))
      refine lv_iload hx hb d_Md_firstChange_305 (lv_at hl 1 rfl) ?_
      subst hR
      exact W.iret (v := be) hx hb hr (fun t9 ht hW => ⟨rfl, hS.F ht, by rw [ht]; exact hP⟩) hS.2.2 d_Md_firstChange_307
    | succ k ih =>
      intro i be mc it vs se sm rs wk ors owk H locs ls hi hR hl hP hS
      have hR : (if ¬ (f_Mo_find ti n j (ti (32 * (j + 4) + i))) = -1 then (g_Mo_firstChange_4_227 kn ti n j t u k (i + 1) be mc it vs se sm rs wk ors owk) else (if (ti (32 * (j + 4) + i)) < t then (g_Mo_firstChange_4_227 kn ti n j t u k (i + 1) be mc it vs se sm rs wk ors owk) else (if u < (ti (32 * (j + 4) + i)) then (g_Mo_firstChange_4_227 kn ti n j t u k (i + 1) be mc it vs se sm rs wk ors owk) else (if be = 0 then (g_Mo_firstChange_4_227 kn ti n j t u k (i + 1) (ti (32 * (j + 4) + i)) mc it vs se sm rs wk ors owk) else (if be ≤ (ti (32 * (j + 4) + i)) then (g_Mo_firstChange_4_227 kn ti n j t u k (i + 1) be mc it vs se sm rs wk ors owk) else (g_Mo_firstChange_4_227 kn ti n j t u k (i + 1) (ti (32 * (j + 4) + i)) mc it vs se sm rs wk ors owk)))))) = R := hR
      have hD : va_D (blk a 15) (wMo cI cJ cZ a ((f_Mo_lacksTwo kn j t u).2) kn ed ct ti nm xa xb mc it vs se sm rs wk ors owk) := (blk_D (wMo_in))
      refine lv_iload hx hb d_Md_firstChange_227 (lv_at hl 0 rfl) ?_
      refine lv_aload_n hx hb d_Md_firstChange_229 rfl (lv_at hl 2 rfl) ?_
      refine va_get (D := D) (ci := 9) (v := .ref (a + 3)) (C := R_Md) (T := F_Md) (N := 17) hx hb hg in_Md hown hK hP 0 rfl rfl 3 (Nat.le_of_ble_eq_true rfl) (hg _ tw_709) (fun _ h9 => h9) rfl d_Md_firstChange_230 ?_
      refine lv_iload_n hx hb d_Md_firstChange_233 rfl (lv_at hl 3 rfl) ?_
      refine lv_iconst (v := 4) hx hb d_Md_firstChange_234 (by decide) ?_
      refine lv_iadd hx hb d_Md_firstChange_235 ?_
      refine lv_topi (fun z9 e_z9 => ?_)
      obtain rfl : z9 = nI (j + 4) := by rw [e_z9]; exact (nI_add j 4)
      refine ep_iald hx hb hK hP 3 0 rfl rfl (i := (j + 4)) (by omega) (by decide) d_Md_firstChange_236 ?_
      refine lv_topi (fun z9 e_z9 => ?_)
      obtain rfl : z9 = nI n2 := by rw [e_z9]; exact hct2
      refine lv_icmp_ge (tgt := 305) hx hb d_Md_firstChange_237 (by decide) (fun hc => False.elim (by have hc := (nI_leI (a := n2) (b := i) (by omega) (by omega)).mp hc; omega)) (fun hc => ?_)
      refine lv_aload_n hx hb d_Md_firstChange_240 rfl (lv_at hl 2 rfl) ?_
      refine va_get (D := D) (ci := 9) (v := .ref (a + 4)) (C := R_Md) (T := F_Md) (N := 17) hx hb hg in_Md hown hK hP 0 rfl rfl 4 (Nat.le_of_ble_eq_true rfl) (hg _ tw_710) (fun _ h9 => h9) rfl d_Md_firstChange_241 ?_
      refine lv_bipush (v := 32) hx hb d_Md_firstChange_244 (by decide) ?_
      refine lv_iload_n hx hb d_Md_firstChange_246 rfl (lv_at hl 3 rfl) ?_
      refine lv_iconst (v := 4) hx hb d_Md_firstChange_247 (by decide) ?_
      refine lv_iadd hx hb d_Md_firstChange_248 ?_
      refine lv_topi (fun z9 e_z9 => ?_)
      obtain rfl : z9 = nI (j + 4) := by rw [e_z9]; exact (nI_add j 4)
      refine lv_imul hx hb d_Md_firstChange_249 ?_
      refine lv_topi (fun z9 e_z9 => ?_)
      obtain rfl : z9 = nI (32 * (j + 4)) := by rw [e_z9]; exact (nI_mul 32 (j + 4))
      refine lv_iload hx hb d_Md_firstChange_250 (lv_at hl 0 rfl) ?_
      refine lv_iadd hx hb d_Md_firstChange_252 ?_
      refine lv_topi (fun z9 e_z9 => ?_)
      obtain rfl : z9 = nI (32 * (j + 4) + i) := by rw [e_z9]; exact (nI_add (32 * (j + 4)) i)
      refine ep_iald hx hb hK hP 4 0 rfl rfl (i := (32 * (j + 4) + i)) (by omega) (by decide) d_Md_firstChange_253 ?_
      refine lv_istore (lv' := [(6, .int (ti (32 * (j + 4) + i))), (5, .int (nI i)), (4, .int be), (0, .ref a), (1, .int (nI j)), (2, .int t), (3, .int u)]) hx hb d_Md_firstChange_254 hl (by decide) rfl (fun ls hl => ?_)
      refine lv_aload_n hx hb d_Md_firstChange_256 rfl (lv_at hl 3 rfl) ?_
      refine lv_iload_n hx hb d_Md_firstChange_257 rfl (lv_at hl 4 rfl) ?_
      refine lv_iload hx hb d_Md_firstChange_258 (lv_at hl 0 rfl) ?_
      refine ep_callP (W.runV (As := [.int (nI j), .int (ti (32 * (j + 4) + i))]) (rest := []) ⟨hx, hb, hml, hown, hg⟩ (m_Mo_find l D cI cJ cZ cO a ((f_Mo_lacksTwo kn j t u).2) kn ed ct ti nm xa xb mc it vs se sm rs wk ors owk n j (ti (32 * (j + 4) + i)) (by omega) hct (by omega) _ rfl) (ep_cwV 2 hg tw_785 tw_787 ts_10 tw_12 tk_Md_find rfl rfl (by decide +kernel) ⟨(Nat.le_of_ble_eq_true rfl), (Nat.le_of_ble_eq_true rfl)⟩) ⟨ep_blind, va_recv (q0 := 0) (ci := 9) hK hP rfl rfl, ep_pre hKn (hP)⟩ rfl rfl hl.1 rfl (lv_room (Nat.le_of_ble_eq_true rfl)) d_Md_firstChange_260 ⟨Nat.zero_le _, Nat.zero_le _⟩) ?_
      refine W.eq (g2 := F0 m 263 ls [.int (f_Mo_find ti n j (ti (32 * (j + 4) + i)))]) rfl ?_
      refine lv_topi (fun z8 e_z8 => ?_)
      obtain rfl : z8 = oI (¬ (f_Mo_find ti n j (ti (32 * (j + 4) + i))) = -1) ((f_Mo_find ti n j (ti (32 * (j + 4) + i))).toNatClampNeg) := by rw [e_z8]; exact (oI_of (fi_at _ _ _ _ (by omega)))
      by_cases hc1 : ¬ (f_Mo_find ti n j (ti (32 * (j + 4) + i))) = -1
      · rw [show oI (¬ (f_Mo_find ti n j (ti (32 * (j + 4) + i))) = -1) ((f_Mo_find ti n j (ti (32 * (j + 4) + i))).toNatClampNeg) = nI ((f_Mo_find ti n j (ti (32 * (j + 4) + i))).toNatClampNeg) from if_pos hc1]
        have hp9 : (f_Mo_find ti n j (ti (32 * (j + 4) + i))).toNatClampNeg < n := fi_lt _ _ _ _ (by omega) hc1
        refine lv_if_ge (tgt := 295) hx hb d_Md_firstChange_263 (by decide) (fun hc => ?_) (fun hc => False.elim (by have hc : ¬ (0 ≤ (f_Mo_find ti n j (ti (32 * (j + 4) + i))).toNatClampNeg) := fun h => hc (by exact (nI_leI (a := 0) (b := (f_Mo_find ti n j (ti (32 * (j + 4) + i))).toNatClampNeg) (by omega) (by omega)).mpr h); omega))
        refine lv_iload hx hb d_Md_firstChange_295 (lv_at hl 2 rfl) ?_
        refine lv_istore (lv' := [(4, .int be), (6, .int (ti (32 * (j + 4) + i))), (5, .int (nI i)), (0, .ref a), (1, .int (nI j)), (2, .int t), (3, .int u)]) hx hb d_Md_firstChange_297 hl (by decide) rfl (fun ls hl => ?_)
        refine lv_iinc (k := 2) (lv' := [(5, .int (nI (i + 1))), (4, .int be), (6, .int (ti (32 * (j + 4) + i))), (0, .ref a), (1, .int (nI j)), (2, .int t), (3, .int u)]) hx hb d_Md_firstChange_299 hl rfl (inc1 _) (by decide) rfl (fun ls hl => ?_)
        refine lv_goto (tgt := 227) hx hb d_Md_firstChange_302 (by decide) ?_
        rw [if_pos hc1] at hR
        exact ih (i + 1) be mc it vs se sm rs wk ors owk _ _ ls (by omega) hR (lv_sub hl [0, 1, 3, 4, 5, 6] rfl) hP hS
      · rw [show oI (¬ (f_Mo_find ti n j (ti (32 * (j + 4) + i))) = -1) ((f_Mo_find ti n j (ti (32 * (j + 4) + i))).toNatClampNeg) = -1 from if_neg hc1]
        refine lv_if_ge (tgt := 295) hx hb d_Md_firstChange_263 (by decide) (fun hc => False.elim (by revert hc; decide)) (fun hc => ?_)
        refine lv_iload hx hb d_Md_firstChange_266 (lv_at hl 0 rfl) ?_
        refine lv_iload_n hx hb d_Md_firstChange_268 rfl (lv_at hl 5 rfl) ?_
        refine lv_icmp_lt (tgt := 295) hx hb d_Md_firstChange_269 (by decide) (fun hc2 => ?_) (fun hc2 => ?_)
        · have hc2 : (ti (32 * (j + 4) + i)) < t := hc2
          refine lv_iload hx hb d_Md_firstChange_295 (lv_at hl 2 rfl) ?_
          refine lv_istore (lv' := [(4, .int be), (6, .int (ti (32 * (j + 4) + i))), (5, .int (nI i)), (0, .ref a), (1, .int (nI j)), (2, .int t), (3, .int u)]) hx hb d_Md_firstChange_297 hl (by decide) rfl (fun ls hl => ?_)
          refine lv_iinc (k := 2) (lv' := [(5, .int (nI (i + 1))), (4, .int be), (6, .int (ti (32 * (j + 4) + i))), (0, .ref a), (1, .int (nI j)), (2, .int t), (3, .int u)]) hx hb d_Md_firstChange_299 hl rfl (inc1 _) (by decide) rfl (fun ls hl => ?_)
          refine lv_goto (tgt := 227) hx hb d_Md_firstChange_302 (by decide) ?_
          rw [if_neg hc1, if_pos hc2] at hR
          exact ih (i + 1) be mc it vs se sm rs wk ors owk _ _ ls (by omega) hR (lv_sub hl [0, 1, 3, 4, 5, 6] rfl) hP hS
        · have hc2 : ¬ ((ti (32 * (j + 4) + i)) < t) := hc2
          refine lv_iload hx hb d_Md_firstChange_272 (lv_at hl 0 rfl) ?_
          refine lv_iload_n hx hb d_Md_firstChange_274 rfl (lv_at hl 6 rfl) ?_
          refine lv_icmp_gt (tgt := 295) hx hb d_Md_firstChange_275 (by decide) (fun hc3 => ?_) (fun hc3 => ?_)
          · have hc3 : u < (ti (32 * (j + 4) + i)) := hc3
            refine lv_iload hx hb d_Md_firstChange_295 (lv_at hl 2 rfl) ?_
            refine lv_istore (lv' := [(4, .int be), (6, .int (ti (32 * (j + 4) + i))), (5, .int (nI i)), (0, .ref a), (1, .int (nI j)), (2, .int t), (3, .int u)]) hx hb d_Md_firstChange_297 hl (by decide) rfl (fun ls hl => ?_)
            refine lv_iinc (k := 2) (lv' := [(5, .int (nI (i + 1))), (4, .int be), (6, .int (ti (32 * (j + 4) + i))), (0, .ref a), (1, .int (nI j)), (2, .int t), (3, .int u)]) hx hb d_Md_firstChange_299 hl rfl (inc1 _) (by decide) rfl (fun ls hl => ?_)
            refine lv_goto (tgt := 227) hx hb d_Md_firstChange_302 (by decide) ?_
            rw [if_neg hc1, if_neg hc2, if_pos hc3] at hR
            exact ih (i + 1) be mc it vs se sm rs wk ors owk _ _ ls (by omega) hR (lv_sub hl [0, 1, 3, 4, 5, 6] rfl) hP hS
          · have hc3 : ¬ (u < (ti (32 * (j + 4) + i))) := hc3
            refine lv_iload hx hb d_Md_firstChange_278 (lv_at hl 2 rfl) ?_
            refine lv_if_eq (tgt := 290) hx hb d_Md_firstChange_280 (by decide) (fun hc4 => ?_) (fun hc4 => ?_)
            · have hc4 : be = 0 := hc4
              refine lv_iload hx hb d_Md_firstChange_290 (lv_at hl 0 rfl) ?_
              refine lv_goto (tgt := 297) hx hb d_Md_firstChange_292 (by decide) ?_
              refine lv_istore (lv' := [(4, .int (ti (32 * (j + 4) + i))), (6, .int (ti (32 * (j + 4) + i))), (5, .int (nI i)), (0, .ref a), (1, .int (nI j)), (2, .int t), (3, .int u)]) hx hb d_Md_firstChange_297 hl (by decide) rfl (fun ls hl => ?_)
              refine lv_iinc (k := 2) (lv' := [(5, .int (nI (i + 1))), (4, .int (ti (32 * (j + 4) + i))), (6, .int (ti (32 * (j + 4) + i))), (0, .ref a), (1, .int (nI j)), (2, .int t), (3, .int u)]) hx hb d_Md_firstChange_299 hl rfl (inc1 _) (by decide) rfl (fun ls hl => ?_)
              refine lv_goto (tgt := 227) hx hb d_Md_firstChange_302 (by decide) ?_
              rw [if_neg hc1, if_neg hc2, if_neg hc3, if_pos hc4] at hR
              exact ih (i + 1) (ti (32 * (j + 4) + i)) mc it vs se sm rs wk ors owk _ _ ls (by omega) hR (lv_sub hl [0, 1, 3, 4, 5, 6] rfl) hP hS
            · have hc4 : ¬ (be = 0) := hc4
              refine lv_iload hx hb d_Md_firstChange_283 (lv_at hl 0 rfl) ?_
              refine lv_iload hx hb d_Md_firstChange_285 (lv_at hl 2 rfl) ?_
              refine lv_icmp_ge (tgt := 295) hx hb d_Md_firstChange_287 (by decide) (fun hc5 => ?_) (fun hc5 => ?_)
              · have hc5 : be ≤ (ti (32 * (j + 4) + i)) := hc5
                refine lv_iload hx hb d_Md_firstChange_295 (lv_at hl 2 rfl) ?_
                refine lv_istore (lv' := [(4, .int be), (6, .int (ti (32 * (j + 4) + i))), (5, .int (nI i)), (0, .ref a), (1, .int (nI j)), (2, .int t), (3, .int u)]) hx hb d_Md_firstChange_297 hl (by decide) rfl (fun ls hl => ?_)
                refine lv_iinc (k := 2) (lv' := [(5, .int (nI (i + 1))), (4, .int be), (6, .int (ti (32 * (j + 4) + i))), (0, .ref a), (1, .int (nI j)), (2, .int t), (3, .int u)]) hx hb d_Md_firstChange_299 hl rfl (inc1 _) (by decide) rfl (fun ls hl => ?_)
                refine lv_goto (tgt := 227) hx hb d_Md_firstChange_302 (by decide) ?_
                rw [if_neg hc1, if_neg hc2, if_neg hc3, if_neg hc4, if_pos hc5] at hR
                exact ih (i + 1) be mc it vs se sm rs wk ors owk _ _ ls (by omega) hR (lv_sub hl [0, 1, 3, 4, 5, 6] rfl) hP hS
              · have hc5 : ¬ (be ≤ (ti (32 * (j + 4) + i))) := hc5
                refine lv_iload hx hb d_Md_firstChange_290 (lv_at hl 0 rfl) ?_
                refine lv_goto (tgt := 297) hx hb d_Md_firstChange_292 (by decide) ?_
                refine lv_istore (lv' := [(4, .int (ti (32 * (j + 4) + i))), (6, .int (ti (32 * (j + 4) + i))), (5, .int (nI i)), (0, .ref a), (1, .int (nI j)), (2, .int t), (3, .int u)]) hx hb d_Md_firstChange_297 hl (by decide) rfl (fun ls hl => ?_)
                refine lv_iinc (k := 2) (lv' := [(5, .int (nI (i + 1))), (4, .int (ti (32 * (j + 4) + i))), (6, .int (ti (32 * (j + 4) + i))), (0, .ref a), (1, .int (nI j)), (2, .int t), (3, .int u)]) hx hb d_Md_firstChange_299 hl rfl (inc1 _) (by decide) rfl (fun ls hl => ?_)
                refine lv_goto (tgt := 227) hx hb d_Md_firstChange_302 (by decide) ?_
                rw [if_neg hc1, if_neg hc2, if_neg hc3, if_neg hc4, if_neg hc5] at hR
                exact ih (i + 1) (ti (32 * (j + 4) + i)) mc it vs se sm rs wk ors owk _ _ ls (by omega) hR (lv_sub hl [0, 1, 3, 4, 5, 6] rfl) hP hS
  have key_97 : ∀ (k : Nat) (i : Nat) (be : Int32) (mc : Int32) (it : Nat → Int32) (vs : Nat → Int32) (se : Nat → Int32) (sm : Int64) (rs : Nat → Int64) (wk : Nat → Int32) (ors : Nat → Int64) (owk : Nat → Int32) (H : Heap) (locs : List Loc) (ls : Array Slot), i + k = n → g_Mo_firstChange_4_97 kn ti n n2 j t u k i be mc it vs se sm rs wk ors owk = R → lv_has ls 9 [(5, .int (nI i)), (4, .int be), (0, .ref a), (1, .int (nI j)), (2, .int t), (3, .int u)] → va_P D cls (wMo cI cJ cZ a ((f_Mo_lacksTwo kn j t u).2) kn ed ct ti nm xa xb mc it vs se sm rs wk ors owk) H → va_S (blk a 15) s.heap H locs → W p l e (headSpec (k_Md_firstChange :: gt) rm_Md_firstChange).room s m ([.ref a, .int (nI j), .int t, .int u] : List Value).toArray below meth c H locs 0 0 (MQ below (Qd (blk a 15) (some (.int R.1)) (fun H => va_P D cls (wMo cI cJ cZ a R.2.1 kn ed ct ti nm xa xb R.2.2.1 R.2.2.2.1 R.2.2.2.2.1 R.2.2.2.2.2.1 R.2.2.2.2.2.2.1 R.2.2.2.2.2.2.2.1 R.2.2.2.2.2.2.2.2.1 R.2.2.2.2.2.2.2.2.2.1 R.2.2.2.2.2.2.2.2.2.2) H)) ([.ref a, .int (nI j), .int t, .int u] : List Value).toArray s 0 0 (blk a 15)) (F0 m 97 ls []) := by
    intro k
    induction k with
    | zero =>
      intro i be mc it vs se sm rs wk ors owk H locs ls hi hR hl hP hS
      have hR : (g_Mo_firstChange_4_227 kn ti n j t u n2 0 be mc it vs se sm rs wk ors owk) = R := hR
      have hD : va_D (blk a 15) (wMo cI cJ cZ a ((f_Mo_lacksTwo kn j t u).2) kn ed ct ti nm xa xb mc it vs se sm rs wk ors owk) := (blk_D (wMo_in))
      refine lv_iload hx hb d_Md_firstChange_97 (lv_at hl 0 rfl) ?_
      refine lv_aload_n hx hb d_Md_firstChange_99 rfl (lv_at hl 2 rfl) ?_
      refine va_get (D := D) (ci := 9) (v := .ref (a + 3)) (C := R_Md) (T := F_Md) (N := 17) hx hb hg in_Md hown hK hP 0 rfl rfl 3 (Nat.le_of_ble_eq_true rfl) (hg _ tw_709) (fun _ h9 => h9) rfl d_Md_firstChange_100 ?_
      refine lv_iload_n hx hb d_Md_firstChange_103 rfl (lv_at hl 3 rfl) ?_
      refine ep_iald hx hb hK hP 3 0 rfl rfl (i := j) (by omega) (by decide) d_Md_firstChange_104 ?_
      refine lv_topi (fun z9 e_z9 => ?_)
      obtain rfl : z9 = nI n := by rw [e_z9]; exact hct
      refine lv_icmp_ge (tgt := 224) hx hb d_Md_firstChange_105 (by decide) (fun hc => ?_) (fun hc => False.elim (by have hc : ¬ (n ≤ i) := fun h => hc (by exact (nI_leI (a := n) (b := i) (by omega) (by omega)).mpr h); omega))
      refine lv_iconst (v := 0) hx hb d_Md_firstChange_224 (by decide) ?_
      refine lv_istore (lv' := [(5, .int 0), (4, .int be), (0, .ref a), (1, .int (nI j)), (2, .int t), (3, .int u)]) hx hb d_Md_firstChange_225 hl (by decide) rfl (fun ls hl => ?_)
      exact key_227 n2 0 be mc it vs se sm rs wk ors owk _ _ ls (by omega) hR hl hP hS
    | succ k ih =>
      intro i be mc it vs se sm rs wk ors owk H locs ls hi hR hl hP hS
      have hR : (if ¬ (f_Mo_find ti n2 (j + 4) (ti (32 * j + i))) = -1 then (if (lg_cmp (ors ((f_Mo_find ti n2 (j + 4) (ti (32 * j + i))).toNatClampNeg)) (rs i)) = 0 then (if (owk ((f_Mo_find ti n2 (j + 4) (ti (32 * j + i))).toNatClampNeg)) = (wk i) then (g_Mo_firstChange_4_97 kn ti n n2 j t u k (i + 1) be mc it vs se sm rs wk ors owk) else (if (ti (32 * j + i)) < t then (g_Mo_firstChange_4_97 kn ti n n2 j t u k (i + 1) be mc it vs se sm rs wk ors owk) else (if u < (ti (32 * j + i)) then (g_Mo_firstChange_4_97 kn ti n n2 j t u k (i + 1) be mc it vs se sm rs wk ors owk) else (if be = 0 then (g_Mo_firstChange_4_97 kn ti n n2 j t u k (i + 1) (ti (32 * j + i)) mc it vs se sm rs wk ors owk) else (if be ≤ (ti (32 * j + i)) then (g_Mo_firstChange_4_97 kn ti n n2 j t u k (i + 1) be mc it vs se sm rs wk ors owk) else (g_Mo_firstChange_4_97 kn ti n n2 j t u k (i + 1) (ti (32 * j + i)) mc it vs se sm rs wk ors owk)))))) else (if (ti (32 * j + i)) < t then (g_Mo_firstChange_4_97 kn ti n n2 j t u k (i + 1) be mc it vs se sm rs wk ors owk) else (if u < (ti (32 * j + i)) then (g_Mo_firstChange_4_97 kn ti n n2 j t u k (i + 1) be mc it vs se sm rs wk ors owk) else (if be = 0 then (g_Mo_firstChange_4_97 kn ti n n2 j t u k (i + 1) (ti (32 * j + i)) mc it vs se sm rs wk ors owk) else (if be ≤ (ti (32 * j + i)) then (g_Mo_firstChange_4_97 kn ti n n2 j t u k (i + 1) be mc it vs se sm rs wk ors owk) else (g_Mo_firstChange_4_97 kn ti n n2 j t u k (i + 1) (ti (32 * j + i)) mc it vs se sm rs wk ors owk)))))) else (if (ti (32 * j + i)) < t then (g_Mo_firstChange_4_97 kn ti n n2 j t u k (i + 1) be mc it vs se sm rs wk ors owk) else (if u < (ti (32 * j + i)) then (g_Mo_firstChange_4_97 kn ti n n2 j t u k (i + 1) be mc it vs se sm rs wk ors owk) else (if be = 0 then (g_Mo_firstChange_4_97 kn ti n n2 j t u k (i + 1) (ti (32 * j + i)) mc it vs se sm rs wk ors owk) else (if be ≤ (ti (32 * j + i)) then (g_Mo_firstChange_4_97 kn ti n n2 j t u k (i + 1) be mc it vs se sm rs wk ors owk) else (g_Mo_firstChange_4_97 kn ti n n2 j t u k (i + 1) (ti (32 * j + i)) mc it vs se sm rs wk ors owk)))))) = R := hR
      have hD : va_D (blk a 15) (wMo cI cJ cZ a ((f_Mo_lacksTwo kn j t u).2) kn ed ct ti nm xa xb mc it vs se sm rs wk ors owk) := (blk_D (wMo_in))
      refine lv_iload hx hb d_Md_firstChange_97 (lv_at hl 0 rfl) ?_
      refine lv_aload_n hx hb d_Md_firstChange_99 rfl (lv_at hl 2 rfl) ?_
      refine va_get (D := D) (ci := 9) (v := .ref (a + 3)) (C := R_Md) (T := F_Md) (N := 17) hx hb hg in_Md hown hK hP 0 rfl rfl 3 (Nat.le_of_ble_eq_true rfl) (hg _ tw_709) (fun _ h9 => h9) rfl d_Md_firstChange_100 ?_
      refine lv_iload_n hx hb d_Md_firstChange_103 rfl (lv_at hl 3 rfl) ?_
      refine ep_iald hx hb hK hP 3 0 rfl rfl (i := j) (by omega) (by decide) d_Md_firstChange_104 ?_
      refine lv_topi (fun z9 e_z9 => ?_)
      obtain rfl : z9 = nI n := by rw [e_z9]; exact hct
      refine lv_icmp_ge (tgt := 224) hx hb d_Md_firstChange_105 (by decide) (fun hc => False.elim (by have hc := (nI_leI (a := n) (b := i) (by omega) (by omega)).mp hc; omega)) (fun hc => ?_)
      refine lv_aload_n hx hb d_Md_firstChange_108 rfl (lv_at hl 2 rfl) ?_
      refine va_get (D := D) (ci := 9) (v := .ref (a + 4)) (C := R_Md) (T := F_Md) (N := 17) hx hb hg in_Md hown hK hP 0 rfl rfl 4 (Nat.le_of_ble_eq_true rfl) (hg _ tw_710) (fun _ h9 => h9) rfl d_Md_firstChange_109 ?_
      refine lv_bipush (v := 32) hx hb d_Md_firstChange_112 (by decide) ?_
      refine lv_iload_n hx hb d_Md_firstChange_114 rfl (lv_at hl 3 rfl) ?_
      refine lv_imul hx hb d_Md_firstChange_115 ?_
      refine lv_topi (fun z9 e_z9 => ?_)
      obtain rfl : z9 = nI (32 * j) := by rw [e_z9]; exact (nI_mul 32 j)
      refine lv_iload hx hb d_Md_firstChange_116 (lv_at hl 0 rfl) ?_
      refine lv_iadd hx hb d_Md_firstChange_118 ?_
      refine lv_topi (fun z9 e_z9 => ?_)
      obtain rfl : z9 = nI (32 * j + i) := by rw [e_z9]; exact (nI_add (32 * j) i)
      refine ep_iald hx hb hK hP 4 0 rfl rfl (i := (32 * j + i)) (by omega) (by decide) d_Md_firstChange_119 ?_
      refine lv_istore (lv' := [(6, .int (ti (32 * j + i))), (5, .int (nI i)), (4, .int be), (0, .ref a), (1, .int (nI j)), (2, .int t), (3, .int u)]) hx hb d_Md_firstChange_120 hl (by decide) rfl (fun ls hl => ?_)
      refine lv_aload_n hx hb d_Md_firstChange_122 rfl (lv_at hl 3 rfl) ?_
      refine lv_iload_n hx hb d_Md_firstChange_123 rfl (lv_at hl 4 rfl) ?_
      refine lv_iconst (v := 4) hx hb d_Md_firstChange_124 (by decide) ?_
      refine lv_iadd hx hb d_Md_firstChange_125 ?_
      refine lv_topi (fun z9 e_z9 => ?_)
      obtain rfl : z9 = nI (j + 4) := by rw [e_z9]; exact (nI_add j 4)
      refine lv_iload hx hb d_Md_firstChange_126 (lv_at hl 0 rfl) ?_
      refine ep_callP (W.runV (As := [.int (nI (j + 4)), .int (ti (32 * j + i))]) (rest := []) ⟨hx, hb, hml, hown, hg⟩ (m_Mo_find l D cI cJ cZ cO a ((f_Mo_lacksTwo kn j t u).2) kn ed ct ti nm xa xb mc it vs se sm rs wk ors owk n2 (j + 4) (ti (32 * j + i)) (by omega) hct2 (by omega) _ rfl) (ep_cwV 2 hg tw_785 tw_787 ts_10 tw_12 tk_Md_find rfl rfl (by decide +kernel) ⟨(Nat.le_of_ble_eq_true rfl), (Nat.le_of_ble_eq_true rfl)⟩) ⟨ep_blind, va_recv (q0 := 0) (ci := 9) hK hP rfl rfl, ep_pre hKn (hP)⟩ rfl rfl hl.1 rfl (lv_room (Nat.le_of_ble_eq_true rfl)) d_Md_firstChange_128 ⟨Nat.zero_le _, Nat.zero_le _⟩) ?_
      refine W.eq (g2 := F0 m 131 ls [.int (f_Mo_find ti n2 (j + 4) (ti (32 * j + i)))]) rfl ?_
      refine lv_topi (fun z8 e_z8 => ?_)
      obtain rfl : z8 = oI (¬ (f_Mo_find ti n2 (j + 4) (ti (32 * j + i))) = -1) ((f_Mo_find ti n2 (j + 4) (ti (32 * j + i))).toNatClampNeg) := by rw [e_z8]; exact (oI_of (fi_at _ _ _ _ (by omega)))
      by_cases hc6 : ¬ (f_Mo_find ti n2 (j + 4) (ti (32 * j + i))) = -1
      · rw [show oI (¬ (f_Mo_find ti n2 (j + 4) (ti (32 * j + i))) = -1) ((f_Mo_find ti n2 (j + 4) (ti (32 * j + i))).toNatClampNeg) = nI ((f_Mo_find ti n2 (j + 4) (ti (32 * j + i))).toNatClampNeg) from if_pos hc6]
        have hp9 : (f_Mo_find ti n2 (j + 4) (ti (32 * j + i))).toNatClampNeg < n2 := fi_lt _ _ _ _ (by omega) hc6
        refine lv_istore (lv' := [(7, .int (nI ((f_Mo_find ti n2 (j + 4) (ti (32 * j + i))).toNatClampNeg))), (6, .int (ti (32 * j + i))), (5, .int (nI i)), (4, .int be), (0, .ref a), (1, .int (nI j)), (2, .int t), (3, .int u)]) hx hb d_Md_firstChange_131 hl (by decide) rfl (fun ls hl => ?_)
        refine lv_iload hx hb d_Md_firstChange_133 (lv_at hl 0 rfl) ?_
        refine lv_if_lt (tgt := 173) hx hb d_Md_firstChange_135 (by decide) (fun hc => False.elim (by have hc := (nI_ltI (a := (f_Mo_find ti n2 (j + 4) (ti (32 * j + i))).toNatClampNeg) (b := 0) (by omega) (by omega)).mp hc; omega)) (fun hc => ?_)
        refine lv_aload_n hx hb d_Md_firstChange_138 rfl (lv_at hl 4 rfl) ?_
        refine va_get (D := D) (ci := 9) (v := .ref (a + 13)) (C := R_Md) (T := F_Md) (N := 17) hx hb hg in_Md hown hK hP 0 rfl rfl 15 (Nat.le_of_ble_eq_true rfl) (hg _ tw_721) (fun _ h9 => h9) rfl d_Md_firstChange_139 ?_
        refine lv_iload hx hb d_Md_firstChange_142 (lv_at hl 0 rfl) ?_
        refine ep_lald hx hb hK hP 13 1 rfl rfl (i := ((f_Mo_find ti n2 (j + 4) (ti (32 * j + i))).toNatClampNeg)) (by omega) (by decide) d_Md_firstChange_144 ?_
        refine lv_aload_n hx hb d_Md_firstChange_145 rfl (lv_at hl 4 rfl) ?_
        refine va_get (D := D) (ci := 9) (v := .ref (a + 11)) (C := R_Md) (T := F_Md) (N := 17) hx hb hg in_Md hown hK hP 0 rfl rfl 13 (Nat.le_of_ble_eq_true rfl) (hg _ tw_719) (fun _ h9 => h9) rfl d_Md_firstChange_146 ?_
        refine lv_iload hx hb d_Md_firstChange_149 (lv_at hl 2 rfl) ?_
        refine ep_lald hx hb hK hP 11 1 rfl rfl (i := i) (by omega) (by decide) d_Md_firstChange_151 ?_
        refine W.lcmp hx hb d_Md_firstChange_152 ?_
        refine lv_if_ne (tgt := 173) hx hb d_Md_firstChange_153 (by decide) (fun hc7 => ?_) (fun hc7 => ?_)
        · have hc7 : ¬ ((lg_cmp (ors ((f_Mo_find ti n2 (j + 4) (ti (32 * j + i))).toNatClampNeg)) (rs i)) = 0) := hc7
          refine lv_iconst (v := 1) hx hb d_Md_firstChange_173 (by decide) ?_
          refine lv_goto (tgt := 178) hx hb d_Md_firstChange_174 (by decide) ?_
          refine lv_istore (lv' := [(8, .int 1), (7, .int (nI ((f_Mo_find ti n2 (j + 4) (ti (32 * j + i))).toNatClampNeg))), (6, .int (ti (32 * j + i))), (5, .int (nI i)), (4, .int be), (0, .ref a), (1, .int (nI j)), (2, .int t), (3, .int u)]) hx hb d_Md_firstChange_178 hl (by decide) rfl (fun ls hl => ?_)
          refine lv_iload hx hb d_Md_firstChange_180 (lv_at hl 0 rfl) ?_
          refine lv_if_eq (tgt := 214) hx hb d_Md_firstChange_182 (by decide) (fun hc => False.elim (by revert hc; decide)) (fun hc => ?_)
          refine lv_iload hx hb d_Md_firstChange_185 (lv_at hl 2 rfl) ?_
          refine lv_iload_n hx hb d_Md_firstChange_187 rfl (lv_at hl 7 rfl) ?_
          refine lv_icmp_lt (tgt := 214) hx hb d_Md_firstChange_188 (by decide) (fun hc8 => ?_) (fun hc8 => ?_)
          · have hc8 : (ti (32 * j + i)) < t := hc8
            refine lv_iload hx hb d_Md_firstChange_214 (lv_at hl 4 rfl) ?_
            refine lv_istore (lv' := [(4, .int be), (8, .int 1), (7, .int (nI ((f_Mo_find ti n2 (j + 4) (ti (32 * j + i))).toNatClampNeg))), (6, .int (ti (32 * j + i))), (5, .int (nI i)), (0, .ref a), (1, .int (nI j)), (2, .int t), (3, .int u)]) hx hb d_Md_firstChange_216 hl (by decide) rfl (fun ls hl => ?_)
            refine lv_iinc (k := 4) (lv' := [(5, .int (nI (i + 1))), (4, .int be), (8, .int 1), (7, .int (nI ((f_Mo_find ti n2 (j + 4) (ti (32 * j + i))).toNatClampNeg))), (6, .int (ti (32 * j + i))), (0, .ref a), (1, .int (nI j)), (2, .int t), (3, .int u)]) hx hb d_Md_firstChange_218 hl rfl (inc1 _) (by decide) rfl (fun ls hl => ?_)
            refine lv_goto (tgt := 97) hx hb d_Md_firstChange_221 (by decide) ?_
            rw [if_pos hc6, if_neg hc7, if_pos hc8] at hR
            exact ih (i + 1) be mc it vs se sm rs wk ors owk _ _ ls (by omega) hR (lv_sub hl [0, 1, 5, 6, 7, 8] rfl) hP hS
          · have hc8 : ¬ ((ti (32 * j + i)) < t) := hc8
            refine lv_iload hx hb d_Md_firstChange_191 (lv_at hl 2 rfl) ?_
            refine lv_iload_n hx hb d_Md_firstChange_193 rfl (lv_at hl 8 rfl) ?_
            refine lv_icmp_gt (tgt := 214) hx hb d_Md_firstChange_194 (by decide) (fun hc9 => ?_) (fun hc9 => ?_)
            · have hc9 : u < (ti (32 * j + i)) := hc9
              refine lv_iload hx hb d_Md_firstChange_214 (lv_at hl 4 rfl) ?_
              refine lv_istore (lv' := [(4, .int be), (8, .int 1), (7, .int (nI ((f_Mo_find ti n2 (j + 4) (ti (32 * j + i))).toNatClampNeg))), (6, .int (ti (32 * j + i))), (5, .int (nI i)), (0, .ref a), (1, .int (nI j)), (2, .int t), (3, .int u)]) hx hb d_Md_firstChange_216 hl (by decide) rfl (fun ls hl => ?_)
              refine lv_iinc (k := 4) (lv' := [(5, .int (nI (i + 1))), (4, .int be), (8, .int 1), (7, .int (nI ((f_Mo_find ti n2 (j + 4) (ti (32 * j + i))).toNatClampNeg))), (6, .int (ti (32 * j + i))), (0, .ref a), (1, .int (nI j)), (2, .int t), (3, .int u)]) hx hb d_Md_firstChange_218 hl rfl (inc1 _) (by decide) rfl (fun ls hl => ?_)
              refine lv_goto (tgt := 97) hx hb d_Md_firstChange_221 (by decide) ?_
              rw [if_pos hc6, if_neg hc7, if_neg hc8, if_pos hc9] at hR
              exact ih (i + 1) be mc it vs se sm rs wk ors owk _ _ ls (by omega) hR (lv_sub hl [0, 1, 5, 6, 7, 8] rfl) hP hS
            · have hc9 : ¬ (u < (ti (32 * j + i))) := hc9
              refine lv_iload hx hb d_Md_firstChange_197 (lv_at hl 4 rfl) ?_
              refine lv_if_eq (tgt := 209) hx hb d_Md_firstChange_199 (by decide) (fun hc10 => ?_) (fun hc10 => ?_)
              · have hc10 : be = 0 := hc10
                refine lv_iload hx hb d_Md_firstChange_209 (lv_at hl 2 rfl) ?_
                refine lv_goto (tgt := 216) hx hb d_Md_firstChange_211 (by decide) ?_
                refine lv_istore (lv' := [(4, .int (ti (32 * j + i))), (8, .int 1), (7, .int (nI ((f_Mo_find ti n2 (j + 4) (ti (32 * j + i))).toNatClampNeg))), (6, .int (ti (32 * j + i))), (5, .int (nI i)), (0, .ref a), (1, .int (nI j)), (2, .int t), (3, .int u)]) hx hb d_Md_firstChange_216 hl (by decide) rfl (fun ls hl => ?_)
                refine lv_iinc (k := 4) (lv' := [(5, .int (nI (i + 1))), (4, .int (ti (32 * j + i))), (8, .int 1), (7, .int (nI ((f_Mo_find ti n2 (j + 4) (ti (32 * j + i))).toNatClampNeg))), (6, .int (ti (32 * j + i))), (0, .ref a), (1, .int (nI j)), (2, .int t), (3, .int u)]) hx hb d_Md_firstChange_218 hl rfl (inc1 _) (by decide) rfl (fun ls hl => ?_)
                refine lv_goto (tgt := 97) hx hb d_Md_firstChange_221 (by decide) ?_
                rw [if_pos hc6, if_neg hc7, if_neg hc8, if_neg hc9, if_pos hc10] at hR
                exact ih (i + 1) (ti (32 * j + i)) mc it vs se sm rs wk ors owk _ _ ls (by omega) hR (lv_sub hl [0, 1, 5, 6, 7, 8] rfl) hP hS
              · have hc10 : ¬ (be = 0) := hc10
                refine lv_iload hx hb d_Md_firstChange_202 (lv_at hl 2 rfl) ?_
                refine lv_iload hx hb d_Md_firstChange_204 (lv_at hl 4 rfl) ?_
                refine lv_icmp_ge (tgt := 214) hx hb d_Md_firstChange_206 (by decide) (fun hc11 => ?_) (fun hc11 => ?_)
                · have hc11 : be ≤ (ti (32 * j + i)) := hc11
                  refine lv_iload hx hb d_Md_firstChange_214 (lv_at hl 4 rfl) ?_
                  refine lv_istore (lv' := [(4, .int be), (8, .int 1), (7, .int (nI ((f_Mo_find ti n2 (j + 4) (ti (32 * j + i))).toNatClampNeg))), (6, .int (ti (32 * j + i))), (5, .int (nI i)), (0, .ref a), (1, .int (nI j)), (2, .int t), (3, .int u)]) hx hb d_Md_firstChange_216 hl (by decide) rfl (fun ls hl => ?_)
                  refine lv_iinc (k := 4) (lv' := [(5, .int (nI (i + 1))), (4, .int be), (8, .int 1), (7, .int (nI ((f_Mo_find ti n2 (j + 4) (ti (32 * j + i))).toNatClampNeg))), (6, .int (ti (32 * j + i))), (0, .ref a), (1, .int (nI j)), (2, .int t), (3, .int u)]) hx hb d_Md_firstChange_218 hl rfl (inc1 _) (by decide) rfl (fun ls hl => ?_)
                  refine lv_goto (tgt := 97) hx hb d_Md_firstChange_221 (by decide) ?_
                  rw [if_pos hc6, if_neg hc7, if_neg hc8, if_neg hc9, if_neg hc10, if_pos hc11] at hR
                  exact ih (i + 1) be mc it vs se sm rs wk ors owk _ _ ls (by omega) hR (lv_sub hl [0, 1, 5, 6, 7, 8] rfl) hP hS
                · have hc11 : ¬ (be ≤ (ti (32 * j + i))) := hc11
                  refine lv_iload hx hb d_Md_firstChange_209 (lv_at hl 2 rfl) ?_
                  refine lv_goto (tgt := 216) hx hb d_Md_firstChange_211 (by decide) ?_
                  refine lv_istore (lv' := [(4, .int (ti (32 * j + i))), (8, .int 1), (7, .int (nI ((f_Mo_find ti n2 (j + 4) (ti (32 * j + i))).toNatClampNeg))), (6, .int (ti (32 * j + i))), (5, .int (nI i)), (0, .ref a), (1, .int (nI j)), (2, .int t), (3, .int u)]) hx hb d_Md_firstChange_216 hl (by decide) rfl (fun ls hl => ?_)
                  refine lv_iinc (k := 4) (lv' := [(5, .int (nI (i + 1))), (4, .int (ti (32 * j + i))), (8, .int 1), (7, .int (nI ((f_Mo_find ti n2 (j + 4) (ti (32 * j + i))).toNatClampNeg))), (6, .int (ti (32 * j + i))), (0, .ref a), (1, .int (nI j)), (2, .int t), (3, .int u)]) hx hb d_Md_firstChange_218 hl rfl (inc1 _) (by decide) rfl (fun ls hl => ?_)
                  refine lv_goto (tgt := 97) hx hb d_Md_firstChange_221 (by decide) ?_
                  rw [if_pos hc6, if_neg hc7, if_neg hc8, if_neg hc9, if_neg hc10, if_neg hc11] at hR
                  exact ih (i + 1) (ti (32 * j + i)) mc it vs se sm rs wk ors owk _ _ ls (by omega) hR (lv_sub hl [0, 1, 5, 6, 7, 8] rfl) hP hS
        · have hc7 : (lg_cmp (ors ((f_Mo_find ti n2 (j + 4) (ti (32 * j + i))).toNatClampNeg)) (rs i)) = 0 := hc7
          refine lv_aload_n hx hb d_Md_firstChange_156 rfl (lv_at hl 4 rfl) ?_
          refine va_get (D := D) (ci := 9) (v := .ref (a + 14)) (C := R_Md) (T := F_Md) (N := 17) hx hb hg in_Md hown hK hP 0 rfl rfl 16 (Nat.le_of_ble_eq_true rfl) (hg _ tw_722) (fun _ h9 => h9) rfl d_Md_firstChange_157 ?_
          refine lv_iload hx hb d_Md_firstChange_160 (lv_at hl 0 rfl) ?_
          refine ep_zald hx hb hK hP 14 2 rfl rfl (i := ((f_Mo_find ti n2 (j + 4) (ti (32 * j + i))).toNatClampNeg)) (by omega) (by decide) d_Md_firstChange_162 ?_
          refine lv_aload_n hx hb d_Md_firstChange_163 rfl (lv_at hl 4 rfl) ?_
          refine va_get (D := D) (ci := 9) (v := .ref (a + 12)) (C := R_Md) (T := F_Md) (N := 17) hx hb hg in_Md hown hK hP 0 rfl rfl 14 (Nat.le_of_ble_eq_true rfl) (hg _ tw_720) (fun _ h9 => h9) rfl d_Md_firstChange_164 ?_
          refine lv_iload hx hb d_Md_firstChange_167 (lv_at hl 2 rfl) ?_
          refine ep_zald hx hb hK hP 12 2 rfl rfl (i := i) (by omega) (by decide) d_Md_firstChange_169 ?_
          refine lv_icmp_eq (tgt := 177) hx hb d_Md_firstChange_170 (by decide) (fun hc12 => ?_) (fun hc12 => ?_)
          · have hc12 : (owk ((f_Mo_find ti n2 (j + 4) (ti (32 * j + i))).toNatClampNeg)) = (wk i) := hc12
            refine lv_iconst (v := 0) hx hb d_Md_firstChange_177 (by decide) ?_
            refine lv_istore (lv' := [(8, .int 0), (7, .int (nI ((f_Mo_find ti n2 (j + 4) (ti (32 * j + i))).toNatClampNeg))), (6, .int (ti (32 * j + i))), (5, .int (nI i)), (4, .int be), (0, .ref a), (1, .int (nI j)), (2, .int t), (3, .int u)]) hx hb d_Md_firstChange_178 hl (by decide) rfl (fun ls hl => ?_)
            refine lv_iload hx hb d_Md_firstChange_180 (lv_at hl 0 rfl) ?_
            refine lv_if_eq (tgt := 214) hx hb d_Md_firstChange_182 (by decide) (fun hc => ?_) (fun hc => False.elim (by revert hc; decide))
            refine lv_iload hx hb d_Md_firstChange_214 (lv_at hl 4 rfl) ?_
            refine lv_istore (lv' := [(4, .int be), (8, .int 0), (7, .int (nI ((f_Mo_find ti n2 (j + 4) (ti (32 * j + i))).toNatClampNeg))), (6, .int (ti (32 * j + i))), (5, .int (nI i)), (0, .ref a), (1, .int (nI j)), (2, .int t), (3, .int u)]) hx hb d_Md_firstChange_216 hl (by decide) rfl (fun ls hl => ?_)
            refine lv_iinc (k := 4) (lv' := [(5, .int (nI (i + 1))), (4, .int be), (8, .int 0), (7, .int (nI ((f_Mo_find ti n2 (j + 4) (ti (32 * j + i))).toNatClampNeg))), (6, .int (ti (32 * j + i))), (0, .ref a), (1, .int (nI j)), (2, .int t), (3, .int u)]) hx hb d_Md_firstChange_218 hl rfl (inc1 _) (by decide) rfl (fun ls hl => ?_)
            refine lv_goto (tgt := 97) hx hb d_Md_firstChange_221 (by decide) ?_
            rw [if_pos hc6, if_pos hc7, if_pos hc12] at hR
            exact ih (i + 1) be mc it vs se sm rs wk ors owk _ _ ls (by omega) hR (lv_sub hl [0, 1, 5, 6, 7, 8] rfl) hP hS
          · have hc12 : ¬ ((owk ((f_Mo_find ti n2 (j + 4) (ti (32 * j + i))).toNatClampNeg)) = (wk i)) := hc12
            refine lv_iconst (v := 1) hx hb d_Md_firstChange_173 (by decide) ?_
            refine lv_goto (tgt := 178) hx hb d_Md_firstChange_174 (by decide) ?_
            refine lv_istore (lv' := [(8, .int 1), (7, .int (nI ((f_Mo_find ti n2 (j + 4) (ti (32 * j + i))).toNatClampNeg))), (6, .int (ti (32 * j + i))), (5, .int (nI i)), (4, .int be), (0, .ref a), (1, .int (nI j)), (2, .int t), (3, .int u)]) hx hb d_Md_firstChange_178 hl (by decide) rfl (fun ls hl => ?_)
            refine lv_iload hx hb d_Md_firstChange_180 (lv_at hl 0 rfl) ?_
            refine lv_if_eq (tgt := 214) hx hb d_Md_firstChange_182 (by decide) (fun hc => False.elim (by revert hc; decide)) (fun hc => ?_)
            refine lv_iload hx hb d_Md_firstChange_185 (lv_at hl 2 rfl) ?_
            refine lv_iload_n hx hb d_Md_firstChange_187 rfl (lv_at hl 7 rfl) ?_
            refine lv_icmp_lt (tgt := 214) hx hb d_Md_firstChange_188 (by decide) (fun hc13 => ?_) (fun hc13 => ?_)
            · have hc13 : (ti (32 * j + i)) < t := hc13
              refine lv_iload hx hb d_Md_firstChange_214 (lv_at hl 4 rfl) ?_
              refine lv_istore (lv' := [(4, .int be), (8, .int 1), (7, .int (nI ((f_Mo_find ti n2 (j + 4) (ti (32 * j + i))).toNatClampNeg))), (6, .int (ti (32 * j + i))), (5, .int (nI i)), (0, .ref a), (1, .int (nI j)), (2, .int t), (3, .int u)]) hx hb d_Md_firstChange_216 hl (by decide) rfl (fun ls hl => ?_)
              refine lv_iinc (k := 4) (lv' := [(5, .int (nI (i + 1))), (4, .int be), (8, .int 1), (7, .int (nI ((f_Mo_find ti n2 (j + 4) (ti (32 * j + i))).toNatClampNeg))), (6, .int (ti (32 * j + i))), (0, .ref a), (1, .int (nI j)), (2, .int t), (3, .int u)]) hx hb d_Md_firstChange_218 hl rfl (inc1 _) (by decide) rfl (fun ls hl => ?_)
              refine lv_goto (tgt := 97) hx hb d_Md_firstChange_221 (by decide) ?_
              rw [if_pos hc6, if_pos hc7, if_neg hc12, if_pos hc13] at hR
              exact ih (i + 1) be mc it vs se sm rs wk ors owk _ _ ls (by omega) hR (lv_sub hl [0, 1, 5, 6, 7, 8] rfl) hP hS
            · have hc13 : ¬ ((ti (32 * j + i)) < t) := hc13
              refine lv_iload hx hb d_Md_firstChange_191 (lv_at hl 2 rfl) ?_
              refine lv_iload_n hx hb d_Md_firstChange_193 rfl (lv_at hl 8 rfl) ?_
              refine lv_icmp_gt (tgt := 214) hx hb d_Md_firstChange_194 (by decide) (fun hc14 => ?_) (fun hc14 => ?_)
              · have hc14 : u < (ti (32 * j + i)) := hc14
                refine lv_iload hx hb d_Md_firstChange_214 (lv_at hl 4 rfl) ?_
                refine lv_istore (lv' := [(4, .int be), (8, .int 1), (7, .int (nI ((f_Mo_find ti n2 (j + 4) (ti (32 * j + i))).toNatClampNeg))), (6, .int (ti (32 * j + i))), (5, .int (nI i)), (0, .ref a), (1, .int (nI j)), (2, .int t), (3, .int u)]) hx hb d_Md_firstChange_216 hl (by decide) rfl (fun ls hl => ?_)
                refine lv_iinc (k := 4) (lv' := [(5, .int (nI (i + 1))), (4, .int be), (8, .int 1), (7, .int (nI ((f_Mo_find ti n2 (j + 4) (ti (32 * j + i))).toNatClampNeg))), (6, .int (ti (32 * j + i))), (0, .ref a), (1, .int (nI j)), (2, .int t), (3, .int u)]) hx hb d_Md_firstChange_218 hl rfl (inc1 _) (by decide) rfl (fun ls hl => ?_)
                refine lv_goto (tgt := 97) hx hb d_Md_firstChange_221 (by decide) ?_
                rw [if_pos hc6, if_pos hc7, if_neg hc12, if_neg hc13, if_pos hc14] at hR
                exact ih (i + 1) be mc it vs se sm rs wk ors owk _ _ ls (by omega) hR (lv_sub hl [0, 1, 5, 6, 7, 8] rfl) hP hS
              · have hc14 : ¬ (u < (ti (32 * j + i))) := hc14
                refine lv_iload hx hb d_Md_firstChange_197 (lv_at hl 4 rfl) ?_
                refine lv_if_eq (tgt := 209) hx hb d_Md_firstChange_199 (by decide) (fun hc15 => ?_) (fun hc15 => ?_)
                · have hc15 : be = 0 := hc15
                  refine lv_iload hx hb d_Md_firstChange_209 (lv_at hl 2 rfl) ?_
                  refine lv_goto (tgt := 216) hx hb d_Md_firstChange_211 (by decide) ?_
                  refine lv_istore (lv' := [(4, .int (ti (32 * j + i))), (8, .int 1), (7, .int (nI ((f_Mo_find ti n2 (j + 4) (ti (32 * j + i))).toNatClampNeg))), (6, .int (ti (32 * j + i))), (5, .int (nI i)), (0, .ref a), (1, .int (nI j)), (2, .int t), (3, .int u)]) hx hb d_Md_firstChange_216 hl (by decide) rfl (fun ls hl => ?_)
                  refine lv_iinc (k := 4) (lv' := [(5, .int (nI (i + 1))), (4, .int (ti (32 * j + i))), (8, .int 1), (7, .int (nI ((f_Mo_find ti n2 (j + 4) (ti (32 * j + i))).toNatClampNeg))), (6, .int (ti (32 * j + i))), (0, .ref a), (1, .int (nI j)), (2, .int t), (3, .int u)]) hx hb d_Md_firstChange_218 hl rfl (inc1 _) (by decide) rfl (fun ls hl => ?_)
                  refine lv_goto (tgt := 97) hx hb d_Md_firstChange_221 (by decide) ?_
                  rw [if_pos hc6, if_pos hc7, if_neg hc12, if_neg hc13, if_neg hc14, if_pos hc15] at hR
                  exact ih (i + 1) (ti (32 * j + i)) mc it vs se sm rs wk ors owk _ _ ls (by omega) hR (lv_sub hl [0, 1, 5, 6, 7, 8] rfl) hP hS
                · have hc15 : ¬ (be = 0) := hc15
                  refine lv_iload hx hb d_Md_firstChange_202 (lv_at hl 2 rfl) ?_
                  refine lv_iload hx hb d_Md_firstChange_204 (lv_at hl 4 rfl) ?_
                  refine lv_icmp_ge (tgt := 214) hx hb d_Md_firstChange_206 (by decide) (fun hc16 => ?_) (fun hc16 => ?_)
                  · have hc16 : be ≤ (ti (32 * j + i)) := hc16
                    refine lv_iload hx hb d_Md_firstChange_214 (lv_at hl 4 rfl) ?_
                    refine lv_istore (lv' := [(4, .int be), (8, .int 1), (7, .int (nI ((f_Mo_find ti n2 (j + 4) (ti (32 * j + i))).toNatClampNeg))), (6, .int (ti (32 * j + i))), (5, .int (nI i)), (0, .ref a), (1, .int (nI j)), (2, .int t), (3, .int u)]) hx hb d_Md_firstChange_216 hl (by decide) rfl (fun ls hl => ?_)
                    refine lv_iinc (k := 4) (lv' := [(5, .int (nI (i + 1))), (4, .int be), (8, .int 1), (7, .int (nI ((f_Mo_find ti n2 (j + 4) (ti (32 * j + i))).toNatClampNeg))), (6, .int (ti (32 * j + i))), (0, .ref a), (1, .int (nI j)), (2, .int t), (3, .int u)]) hx hb d_Md_firstChange_218 hl rfl (inc1 _) (by decide) rfl (fun ls hl => ?_)
                    refine lv_goto (tgt := 97) hx hb d_Md_firstChange_221 (by decide) ?_
                    rw [if_pos hc6, if_pos hc7, if_neg hc12, if_neg hc13, if_neg hc14, if_neg hc15, if_pos hc16] at hR
                    exact ih (i + 1) be mc it vs se sm rs wk ors owk _ _ ls (by omega) hR (lv_sub hl [0, 1, 5, 6, 7, 8] rfl) hP hS
                  · have hc16 : ¬ (be ≤ (ti (32 * j + i))) := hc16
                    refine lv_iload hx hb d_Md_firstChange_209 (lv_at hl 2 rfl) ?_
                    refine lv_goto (tgt := 216) hx hb d_Md_firstChange_211 (by decide) ?_
                    refine lv_istore (lv' := [(4, .int (ti (32 * j + i))), (8, .int 1), (7, .int (nI ((f_Mo_find ti n2 (j + 4) (ti (32 * j + i))).toNatClampNeg))), (6, .int (ti (32 * j + i))), (5, .int (nI i)), (0, .ref a), (1, .int (nI j)), (2, .int t), (3, .int u)]) hx hb d_Md_firstChange_216 hl (by decide) rfl (fun ls hl => ?_)
                    refine lv_iinc (k := 4) (lv' := [(5, .int (nI (i + 1))), (4, .int (ti (32 * j + i))), (8, .int 1), (7, .int (nI ((f_Mo_find ti n2 (j + 4) (ti (32 * j + i))).toNatClampNeg))), (6, .int (ti (32 * j + i))), (0, .ref a), (1, .int (nI j)), (2, .int t), (3, .int u)]) hx hb d_Md_firstChange_218 hl rfl (inc1 _) (by decide) rfl (fun ls hl => ?_)
                    refine lv_goto (tgt := 97) hx hb d_Md_firstChange_221 (by decide) ?_
                    rw [if_pos hc6, if_pos hc7, if_neg hc12, if_neg hc13, if_neg hc14, if_neg hc15, if_neg hc16] at hR
                    exact ih (i + 1) (ti (32 * j + i)) mc it vs se sm rs wk ors owk _ _ ls (by omega) hR (lv_sub hl [0, 1, 5, 6, 7, 8] rfl) hP hS
      · rw [show oI (¬ (f_Mo_find ti n2 (j + 4) (ti (32 * j + i))) = -1) ((f_Mo_find ti n2 (j + 4) (ti (32 * j + i))).toNatClampNeg) = -1 from if_neg hc6]
        refine lv_istore (lv' := [(7, .int (-1)), (6, .int (ti (32 * j + i))), (5, .int (nI i)), (4, .int be), (0, .ref a), (1, .int (nI j)), (2, .int t), (3, .int u)]) hx hb d_Md_firstChange_131 hl (by decide) rfl (fun ls hl => ?_)
        refine lv_iload hx hb d_Md_firstChange_133 (lv_at hl 0 rfl) ?_
        refine lv_if_lt (tgt := 173) hx hb d_Md_firstChange_135 (by decide) (fun hc => ?_) (fun hc => False.elim (by revert hc; decide))
        refine lv_iconst (v := 1) hx hb d_Md_firstChange_173 (by decide) ?_
        refine lv_goto (tgt := 178) hx hb d_Md_firstChange_174 (by decide) ?_
        refine lv_istore (lv' := [(8, .int 1), (7, .int (-1)), (6, .int (ti (32 * j + i))), (5, .int (nI i)), (4, .int be), (0, .ref a), (1, .int (nI j)), (2, .int t), (3, .int u)]) hx hb d_Md_firstChange_178 hl (by decide) rfl (fun ls hl => ?_)
        refine lv_iload hx hb d_Md_firstChange_180 (lv_at hl 0 rfl) ?_
        refine lv_if_eq (tgt := 214) hx hb d_Md_firstChange_182 (by decide) (fun hc => False.elim (by revert hc; decide)) (fun hc => ?_)
        refine lv_iload hx hb d_Md_firstChange_185 (lv_at hl 2 rfl) ?_
        refine lv_iload_n hx hb d_Md_firstChange_187 rfl (lv_at hl 7 rfl) ?_
        refine lv_icmp_lt (tgt := 214) hx hb d_Md_firstChange_188 (by decide) (fun hc17 => ?_) (fun hc17 => ?_)
        · have hc17 : (ti (32 * j + i)) < t := hc17
          refine lv_iload hx hb d_Md_firstChange_214 (lv_at hl 4 rfl) ?_
          refine lv_istore (lv' := [(4, .int be), (8, .int 1), (7, .int (-1)), (6, .int (ti (32 * j + i))), (5, .int (nI i)), (0, .ref a), (1, .int (nI j)), (2, .int t), (3, .int u)]) hx hb d_Md_firstChange_216 hl (by decide) rfl (fun ls hl => ?_)
          refine lv_iinc (k := 4) (lv' := [(5, .int (nI (i + 1))), (4, .int be), (8, .int 1), (7, .int (-1)), (6, .int (ti (32 * j + i))), (0, .ref a), (1, .int (nI j)), (2, .int t), (3, .int u)]) hx hb d_Md_firstChange_218 hl rfl (inc1 _) (by decide) rfl (fun ls hl => ?_)
          refine lv_goto (tgt := 97) hx hb d_Md_firstChange_221 (by decide) ?_
          rw [if_neg hc6, if_pos hc17] at hR
          exact ih (i + 1) be mc it vs se sm rs wk ors owk _ _ ls (by omega) hR (lv_sub hl [0, 1, 5, 6, 7, 8] rfl) hP hS
        · have hc17 : ¬ ((ti (32 * j + i)) < t) := hc17
          refine lv_iload hx hb d_Md_firstChange_191 (lv_at hl 2 rfl) ?_
          refine lv_iload_n hx hb d_Md_firstChange_193 rfl (lv_at hl 8 rfl) ?_
          refine lv_icmp_gt (tgt := 214) hx hb d_Md_firstChange_194 (by decide) (fun hc18 => ?_) (fun hc18 => ?_)
          · have hc18 : u < (ti (32 * j + i)) := hc18
            refine lv_iload hx hb d_Md_firstChange_214 (lv_at hl 4 rfl) ?_
            refine lv_istore (lv' := [(4, .int be), (8, .int 1), (7, .int (-1)), (6, .int (ti (32 * j + i))), (5, .int (nI i)), (0, .ref a), (1, .int (nI j)), (2, .int t), (3, .int u)]) hx hb d_Md_firstChange_216 hl (by decide) rfl (fun ls hl => ?_)
            refine lv_iinc (k := 4) (lv' := [(5, .int (nI (i + 1))), (4, .int be), (8, .int 1), (7, .int (-1)), (6, .int (ti (32 * j + i))), (0, .ref a), (1, .int (nI j)), (2, .int t), (3, .int u)]) hx hb d_Md_firstChange_218 hl rfl (inc1 _) (by decide) rfl (fun ls hl => ?_)
            refine lv_goto (tgt := 97) hx hb d_Md_firstChange_221 (by decide) ?_
            rw [if_neg hc6, if_neg hc17, if_pos hc18] at hR
            exact ih (i + 1) be mc it vs se sm rs wk ors owk _ _ ls (by omega) hR (lv_sub hl [0, 1, 5, 6, 7, 8] rfl) hP hS
          · have hc18 : ¬ (u < (ti (32 * j + i))) := hc18
            refine lv_iload hx hb d_Md_firstChange_197 (lv_at hl 4 rfl) ?_
            refine lv_if_eq (tgt := 209) hx hb d_Md_firstChange_199 (by decide) (fun hc19 => ?_) (fun hc19 => ?_)
            · have hc19 : be = 0 := hc19
              refine lv_iload hx hb d_Md_firstChange_209 (lv_at hl 2 rfl) ?_
              refine lv_goto (tgt := 216) hx hb d_Md_firstChange_211 (by decide) ?_
              refine lv_istore (lv' := [(4, .int (ti (32 * j + i))), (8, .int 1), (7, .int (-1)), (6, .int (ti (32 * j + i))), (5, .int (nI i)), (0, .ref a), (1, .int (nI j)), (2, .int t), (3, .int u)]) hx hb d_Md_firstChange_216 hl (by decide) rfl (fun ls hl => ?_)
              refine lv_iinc (k := 4) (lv' := [(5, .int (nI (i + 1))), (4, .int (ti (32 * j + i))), (8, .int 1), (7, .int (-1)), (6, .int (ti (32 * j + i))), (0, .ref a), (1, .int (nI j)), (2, .int t), (3, .int u)]) hx hb d_Md_firstChange_218 hl rfl (inc1 _) (by decide) rfl (fun ls hl => ?_)
              refine lv_goto (tgt := 97) hx hb d_Md_firstChange_221 (by decide) ?_
              rw [if_neg hc6, if_neg hc17, if_neg hc18, if_pos hc19] at hR
              exact ih (i + 1) (ti (32 * j + i)) mc it vs se sm rs wk ors owk _ _ ls (by omega) hR (lv_sub hl [0, 1, 5, 6, 7, 8] rfl) hP hS
            · have hc19 : ¬ (be = 0) := hc19
              refine lv_iload hx hb d_Md_firstChange_202 (lv_at hl 2 rfl) ?_
              refine lv_iload hx hb d_Md_firstChange_204 (lv_at hl 4 rfl) ?_
              refine lv_icmp_ge (tgt := 214) hx hb d_Md_firstChange_206 (by decide) (fun hc20 => ?_) (fun hc20 => ?_)
              · have hc20 : be ≤ (ti (32 * j + i)) := hc20
                refine lv_iload hx hb d_Md_firstChange_214 (lv_at hl 4 rfl) ?_
                refine lv_istore (lv' := [(4, .int be), (8, .int 1), (7, .int (-1)), (6, .int (ti (32 * j + i))), (5, .int (nI i)), (0, .ref a), (1, .int (nI j)), (2, .int t), (3, .int u)]) hx hb d_Md_firstChange_216 hl (by decide) rfl (fun ls hl => ?_)
                refine lv_iinc (k := 4) (lv' := [(5, .int (nI (i + 1))), (4, .int be), (8, .int 1), (7, .int (-1)), (6, .int (ti (32 * j + i))), (0, .ref a), (1, .int (nI j)), (2, .int t), (3, .int u)]) hx hb d_Md_firstChange_218 hl rfl (inc1 _) (by decide) rfl (fun ls hl => ?_)
                refine lv_goto (tgt := 97) hx hb d_Md_firstChange_221 (by decide) ?_
                rw [if_neg hc6, if_neg hc17, if_neg hc18, if_neg hc19, if_pos hc20] at hR
                exact ih (i + 1) be mc it vs se sm rs wk ors owk _ _ ls (by omega) hR (lv_sub hl [0, 1, 5, 6, 7, 8] rfl) hP hS
              · have hc20 : ¬ (be ≤ (ti (32 * j + i))) := hc20
                refine lv_iload hx hb d_Md_firstChange_209 (lv_at hl 2 rfl) ?_
                refine lv_goto (tgt := 216) hx hb d_Md_firstChange_211 (by decide) ?_
                refine lv_istore (lv' := [(4, .int (ti (32 * j + i))), (8, .int 1), (7, .int (-1)), (6, .int (ti (32 * j + i))), (5, .int (nI i)), (0, .ref a), (1, .int (nI j)), (2, .int t), (3, .int u)]) hx hb d_Md_firstChange_216 hl (by decide) rfl (fun ls hl => ?_)
                refine lv_iinc (k := 4) (lv' := [(5, .int (nI (i + 1))), (4, .int (ti (32 * j + i))), (8, .int 1), (7, .int (-1)), (6, .int (ti (32 * j + i))), (0, .ref a), (1, .int (nI j)), (2, .int t), (3, .int u)]) hx hb d_Md_firstChange_218 hl rfl (inc1 _) (by decide) rfl (fun ls hl => ?_)
                refine lv_goto (tgt := 97) hx hb d_Md_firstChange_221 (by decide) ?_
                rw [if_neg hc6, if_neg hc17, if_neg hc18, if_neg hc19, if_neg hc20] at hR
                exact ih (i + 1) (ti (32 * j + i)) mc it vs se sm rs wk ors owk _ _ ls (by omega) hR (lv_sub hl [0, 1, 5, 6, 7, 8] rfl) hP hS
  have key_38 : ∀ (k : Nat) (i : Nat) (mc : Int32) (it : Nat → Int32) (vs : Nat → Int32) (se : Nat → Int32) (sm : Int64) (rs : Nat → Int64) (wk : Nat → Int32) (ors : Nat → Int64) (owk : Nat → Int32) (H : Heap) (locs : List Loc) (ls : Array Slot), i + k = 32 → bz wk → g_Mo_firstChange_4_38 kn ti xa n n2 j t u k i mc it vs se sm rs wk ors owk = R → lv_has ls 9 [(4, .int (nI i)), (0, .ref a), (1, .int (nI j)), (2, .int t), (3, .int u)] → va_P D cls (wMo cI cJ cZ a ((f_Mo_lacksTwo kn j t u).2) kn ed ct ti nm xa xb mc it vs se sm rs wk ors owk) H → va_S (blk a 15) s.heap H locs → W p l e (headSpec (k_Md_firstChange :: gt) rm_Md_firstChange).room s m ([.ref a, .int (nI j), .int t, .int u] : List Value).toArray below meth c H locs 0 0 (MQ below (Qd (blk a 15) (some (.int R.1)) (fun H => va_P D cls (wMo cI cJ cZ a R.2.1 kn ed ct ti nm xa xb R.2.2.1 R.2.2.2.1 R.2.2.2.2.1 R.2.2.2.2.2.1 R.2.2.2.2.2.2.1 R.2.2.2.2.2.2.2.1 R.2.2.2.2.2.2.2.2.1 R.2.2.2.2.2.2.2.2.2.1 R.2.2.2.2.2.2.2.2.2.2) H)) ([.ref a, .int (nI j), .int t, .int u] : List Value).toArray s 0 0 (blk a 15)) (F0 m 38 ls []) := by
    intro k
    induction k with
    | zero =>
      intro i mc it vs se sm rs wk ors owk H locs ls hi hb9 hR hl hP hS
      have hR : (g_Mo_firstChange_4_97 kn ti n n2 j t u n 0 0 ((f_Mo_run_4 ti xa it vs se rs wk n j 1000000000).1) ((f_Mo_run_4 ti xa it vs se rs wk n j 1000000000).2.1) ((f_Mo_run_4 ti xa it vs se rs wk n j 1000000000).2.2.1) ((f_Mo_run_4 ti xa it vs se rs wk n j 1000000000).2.2.2.1) ((f_Mo_run_4 ti xa it vs se rs wk n j 1000000000).2.2.2.2.1) ((f_Mo_run_4 ti xa it vs se rs wk n j 1000000000).2.2.2.2.2.1) ((f_Mo_run_4 ti xa it vs se rs wk n j 1000000000).2.2.2.2.2.2) ors owk) = R := hR
      have hD : va_D (blk a 15) (wMo cI cJ cZ a ((f_Mo_lacksTwo kn j t u).2) kn ed ct ti nm xa xb mc it vs se sm rs wk ors owk) := (blk_D (wMo_in))
      refine lv_iload hx hb d_Md_firstChange_38 (lv_at hl 0 rfl) ?_
      refine lv_bipush (v := 32) hx hb d_Md_firstChange_40 (by decide) ?_
      refine lv_icmp_ge (tgt := 79) hx hb d_Md_firstChange_42 (by decide) (fun hc => ?_) (fun hc => False.elim (by have hc : ¬ (32 ≤ i) := fun h => hc (by exact (nI_leI (a := 32) (b := i) (by omega) (by omega)).mpr h); omega))
      refine lv_aload_n hx hb d_Md_firstChange_79 rfl (lv_at hl 1 rfl) ?_
      refine lv_iload_n hx hb d_Md_firstChange_80 rfl (lv_at hl 2 rfl) ?_
      refine lv_aload_n hx hb d_Md_firstChange_81 rfl (lv_at hl 1 rfl) ?_
      refine lv_iload_n hx hb d_Md_firstChange_82 rfl (lv_at hl 2 rfl) ?_
      refine ep_callP (W.runV (As := [.int (nI j)]) (rest := [.int (nI j), .ref a]) ⟨hx, hb, hml, hown, hg⟩ (m_Mo_kindOf l D cI cJ cZ cO a ((f_Mo_lacksTwo kn j t u).2) kn ed ct ti nm xa xb mc it vs se sm rs wk ors owk j (by omega) _ rfl) (ep_cwV 1 hg tw_789 tw_791 ts_11 tw_12 tk_Md_kindOf rfl rfl (by decide +kernel) ⟨(Nat.le_of_ble_eq_true rfl), (Nat.le_of_ble_eq_true rfl)⟩) ⟨ep_blind, va_recv (q0 := 0) (ci := 9) hK hP rfl rfl, ep_pre hKn (hP)⟩ rfl rfl hl.1 rfl (lv_room (Nat.le_of_ble_eq_true rfl)) d_Md_firstChange_83 ⟨Nat.zero_le _, Nat.zero_le _⟩) ?_
      refine W.eq (g2 := F0 m 86 ls [.int (f_Mo_kindOf kn j), .int (nI j), .ref a]) rfl ?_
      refine lv_topi (fun z9 e_z9 => ?_)
      obtain rfl : z9 = 4 := by rw [e_z9]; exact (by rw [show f_Mo_kindOf kn j = kn j - 1 from rfl, hk]; decide)
      refine lv_ldc (v := 1000000000) hx hb hown (hg _ tw_780) d_Md_firstChange_86 ?_
      refine ep_callH (W.runV (As := [.int (nI j), .int 4, .int 1000000000]) (rest := []) ⟨hx, hb, hml, hown, hg⟩ (m_Mo_run_4 l D cI cJ cZ cO a ((f_Mo_lacksTwo kn j t u).2) kn ed ct ti nm xa xb mc it vs se sm rs wk ors owk n j 1000000000 (by omega) hct (by omega) _ rfl) (ep_cwV 3 hg tw_832 tw_834 ts_17 tw_12 tk_Md_run rfl rfl (by decide +kernel) ⟨(Nat.le_of_ble_eq_true rfl), (Nat.le_of_ble_eq_true rfl)⟩) ⟨ep_blind, va_recv (q0 := 0) (ci := 9) hK hP rfl rfl, ep_pre hKn (hP)⟩ rfl rfl hl.1 rfl (lv_room (Nat.le_of_ble_eq_true rfl)) d_Md_firstChange_88 ⟨Nat.zero_le _, Nat.zero_le _⟩) hS (fun q h => h) (fun H locs hsz9 hk1 hP1 hS => ?_)
      refine W.eq (g2 := F0 m 91 ls []) rfl ?_
      have hP : va_P D cls (wMo cI cJ cZ a ((f_Mo_lacksTwo kn j t u).2) kn ed ct ti nm xa xb ((f_Mo_run_4 ti xa it vs se rs wk n j 1000000000).1) ((f_Mo_run_4 ti xa it vs se rs wk n j 1000000000).2.1) ((f_Mo_run_4 ti xa it vs se rs wk n j 1000000000).2.2.1) ((f_Mo_run_4 ti xa it vs se rs wk n j 1000000000).2.2.2.1) ((f_Mo_run_4 ti xa it vs se rs wk n j 1000000000).2.2.2.2.1) ((f_Mo_run_4 ti xa it vs se rs wk n j 1000000000).2.2.2.2.2.1) ((f_Mo_run_4 ti xa it vs se rs wk n j 1000000000).2.2.2.2.2.2) ors owk) H := hP1
      have hD : va_D (blk a 15) (wMo cI cJ cZ a ((f_Mo_lacksTwo kn j t u).2) kn ed ct ti nm xa xb ((f_Mo_run_4 ti xa it vs se rs wk n j 1000000000).1) ((f_Mo_run_4 ti xa it vs se rs wk n j 1000000000).2.1) ((f_Mo_run_4 ti xa it vs se rs wk n j 1000000000).2.2.1) ((f_Mo_run_4 ti xa it vs se rs wk n j 1000000000).2.2.2.1) ((f_Mo_run_4 ti xa it vs se rs wk n j 1000000000).2.2.2.2.1) ((f_Mo_run_4 ti xa it vs se rs wk n j 1000000000).2.2.2.2.2.1) ((f_Mo_run_4 ti xa it vs se rs wk n j 1000000000).2.2.2.2.2.2) ors owk) := (blk_D (wMo_in))
      refine lv_iconst (v := 0) hx hb d_Md_firstChange_91 (by decide) ?_
      refine lv_istore (lv' := [(4, .int 0), (0, .ref a), (1, .int (nI j)), (2, .int t), (3, .int u)]) hx hb d_Md_firstChange_92 hl (by decide) rfl (fun ls hl => ?_)
      refine lv_iconst (v := 0) hx hb d_Md_firstChange_94 (by decide) ?_
      refine lv_istore (lv' := [(5, .int 0), (4, .int 0), (0, .ref a), (1, .int (nI j)), (2, .int t), (3, .int u)]) hx hb d_Md_firstChange_95 hl (by decide) rfl (fun ls hl => ?_)
      exact key_97 n 0 0 ((f_Mo_run_4 ti xa it vs se rs wk n j 1000000000).1) ((f_Mo_run_4 ti xa it vs se rs wk n j 1000000000).2.1) ((f_Mo_run_4 ti xa it vs se rs wk n j 1000000000).2.2.1) ((f_Mo_run_4 ti xa it vs se rs wk n j 1000000000).2.2.2.1) ((f_Mo_run_4 ti xa it vs se rs wk n j 1000000000).2.2.2.2.1) ((f_Mo_run_4 ti xa it vs se rs wk n j 1000000000).2.2.2.2.2.1) ((f_Mo_run_4 ti xa it vs se rs wk n j 1000000000).2.2.2.2.2.2) ors owk _ _ ls (by omega) hR hl hP hS
    | succ k ih =>
      intro i mc it vs se sm rs wk ors owk H locs ls hi hb9 hR hl hP hS
      have hR : (g_Mo_firstChange_4_38 kn ti xa n n2 j t u k (i + 1) mc it vs se sm rs wk (vp_updL ors i (rs i)) (upd owk i (wk i))) = R := hR
      have hD : va_D (blk a 15) (wMo cI cJ cZ a ((f_Mo_lacksTwo kn j t u).2) kn ed ct ti nm xa xb mc it vs se sm rs wk ors owk) := (blk_D (wMo_in))
      refine lv_iload hx hb d_Md_firstChange_38 (lv_at hl 0 rfl) ?_
      refine lv_bipush (v := 32) hx hb d_Md_firstChange_40 (by decide) ?_
      refine lv_icmp_ge (tgt := 79) hx hb d_Md_firstChange_42 (by decide) (fun hc => False.elim (by have hc := (nI_leI (a := 32) (b := i) (by omega) (by omega)).mp hc; omega)) (fun hc => ?_)
      refine lv_aload_n hx hb d_Md_firstChange_45 rfl (lv_at hl 1 rfl) ?_
      refine va_get (D := D) (ci := 9) (v := .ref (a + 13)) (C := R_Md) (T := F_Md) (N := 17) hx hb hg in_Md hown hK hP 0 rfl rfl 15 (Nat.le_of_ble_eq_true rfl) (hg _ tw_721) (fun _ h9 => h9) rfl d_Md_firstChange_46 ?_
      refine lv_iload hx hb d_Md_firstChange_49 (lv_at hl 0 rfl) ?_
      refine lv_aload_n hx hb d_Md_firstChange_51 rfl (lv_at hl 1 rfl) ?_
      refine va_get (D := D) (ci := 9) (v := .ref (a + 11)) (C := R_Md) (T := F_Md) (N := 17) hx hb hg in_Md hown hK hP 0 rfl rfl 13 (Nat.le_of_ble_eq_true rfl) (hg _ tw_719) (fun _ h9 => h9) rfl d_Md_firstChange_52 ?_
      refine lv_iload hx hb d_Md_firstChange_55 (lv_at hl 0 rfl) ?_
      refine ep_lald hx hb hK hP 11 1 rfl rfl (i := i) (by omega) (by decide) d_Md_firstChange_57 ?_
      refine ep_last hx hb hK hP hD hS 13 1 rfl rfl (i := i) (x := (rs i)) (by omega) (by decide) d_Md_firstChange_58 (fun H locs hP hD hS => ?_)
      have hP : va_P D cls (wMo cI cJ cZ a ((f_Mo_lacksTwo kn j t u).2) kn ed ct ti nm xa xb mc it vs se sm rs wk (vp_updL ors i (rs i)) owk) H := hP
      have hD : va_D (blk a 15) (wMo cI cJ cZ a ((f_Mo_lacksTwo kn j t u).2) kn ed ct ti nm xa xb mc it vs se sm rs wk (vp_updL ors i (rs i)) owk) := hD
      refine lv_aload_n hx hb d_Md_firstChange_59 rfl (lv_at hl 1 rfl) ?_
      refine va_get (D := D) (ci := 9) (v := .ref (a + 14)) (C := R_Md) (T := F_Md) (N := 17) hx hb hg in_Md hown hK hP 0 rfl rfl 16 (Nat.le_of_ble_eq_true rfl) (hg _ tw_722) (fun _ h9 => h9) rfl d_Md_firstChange_60 ?_
      refine lv_iload hx hb d_Md_firstChange_63 (lv_at hl 0 rfl) ?_
      refine lv_aload_n hx hb d_Md_firstChange_65 rfl (lv_at hl 1 rfl) ?_
      refine va_get (D := D) (ci := 9) (v := .ref (a + 12)) (C := R_Md) (T := F_Md) (N := 17) hx hb hg in_Md hown hK hP 0 rfl rfl 14 (Nat.le_of_ble_eq_true rfl) (hg _ tw_720) (fun _ h9 => h9) rfl d_Md_firstChange_66 ?_
      refine lv_iload hx hb d_Md_firstChange_69 (lv_at hl 0 rfl) ?_
      refine ep_zald hx hb hK hP 12 2 rfl rfl (i := i) (by omega) (by decide) d_Md_firstChange_71 ?_
      refine ep_zast hx hb hK hP hD hS 14 2 rfl rfl (i := i) (x := (wk i)) (bz_n hb9 _) (by omega) (by decide) d_Md_firstChange_72 (fun H locs hP hD hS => ?_)
      have hP : va_P D cls (wMo cI cJ cZ a ((f_Mo_lacksTwo kn j t u).2) kn ed ct ti nm xa xb mc it vs se sm rs wk (vp_updL ors i (rs i)) (upd owk i (wk i))) H := hP
      have hD : va_D (blk a 15) (wMo cI cJ cZ a ((f_Mo_lacksTwo kn j t u).2) kn ed ct ti nm xa xb mc it vs se sm rs wk (vp_updL ors i (rs i)) (upd owk i (wk i))) := hD
      refine lv_iinc (k := 0) (lv' := [(4, .int (nI (i + 1))), (0, .ref a), (1, .int (nI j)), (2, .int t), (3, .int u)]) hx hb d_Md_firstChange_73 hl rfl (inc1 _) (by decide) rfl (fun ls hl => ?_)
      refine lv_goto (tgt := 38) hx hb d_Md_firstChange_76 (by decide) ?_
      exact ih (i + 1) mc it vs se sm rs wk (vp_updL ors i (rs i)) (upd owk i (wk i)) _ _ ls (by omega) hb9 hR hl hP hS
  have hR : (g_Mo_firstChange_4_38 kn ti xa n n2 j t u 32 0 ((f_Mo_run_4 ti xa it vs se rs wk n2 (j + 4) 1000000000).1) ((f_Mo_run_4 ti xa it vs se rs wk n2 (j + 4) 1000000000).2.1) ((f_Mo_run_4 ti xa it vs se rs wk n2 (j + 4) 1000000000).2.2.1) ((f_Mo_run_4 ti xa it vs se rs wk n2 (j + 4) 1000000000).2.2.2.1) ((f_Mo_run_4 ti xa it vs se rs wk n2 (j + 4) 1000000000).2.2.2.2.1) ((f_Mo_run_4 ti xa it vs se rs wk n2 (j + 4) 1000000000).2.2.2.2.2.1) ((f_Mo_run_4 ti xa it vs se rs wk n2 (j + 4) 1000000000).2.2.2.2.2.2) ors owk) = R := hR
  refine lv_aload_n hx hb d_Md_firstChange_0 rfl (lv_at hl 0 rfl) ?_
  refine lv_iload_n hx hb d_Md_firstChange_1 rfl (lv_at hl 1 rfl) ?_
  refine lv_iload_n hx hb d_Md_firstChange_2 rfl (lv_at hl 2 rfl) ?_
  refine lv_iload_n hx hb d_Md_firstChange_3 rfl (lv_at hl 3 rfl) ?_
  refine ep_callH (W.runV (As := [.int (nI j), .int t, .int u]) (rest := []) ⟨hx, hb, hml, hown, hg⟩ (m_Mo_lacksTwo l D cI cJ cZ cO a code kn ed ct ti nm xa xb ma it vs se sm rs wk ors owk j t u (by omega) _ rfl) (ep_cwV 3 hg tw_896 tw_898 ts_25 tw_12 tk_Md_lacksTwo rfl rfl (by decide +kernel) ⟨(Nat.le_of_ble_eq_true rfl), (Nat.le_of_ble_eq_true rfl)⟩) ⟨ep_blind, va_recv (q0 := 0) (ci := 9) hK hP rfl rfl, ep_pre hKn (hP)⟩ rfl rfl hl.1 rfl (lv_room (Nat.le_of_ble_eq_true rfl)) d_Md_firstChange_4 ⟨Nat.zero_le _, Nat.zero_le _⟩) hS (fun q h => h) (fun H locs hsz9 hk1 hP1 hS => ?_)
  refine W.eq (g2 := F0 m 7 ls [.int ((f_Mo_lacksTwo kn j t u).1)]) rfl ?_
  have hP : va_P D cls (wMo cI cJ cZ a ((f_Mo_lacksTwo kn j t u).2) kn ed ct ti nm xa xb ma it vs se sm rs wk ors owk) H := hP1
  have hD : va_D (blk a 15) (wMo cI cJ cZ a ((f_Mo_lacksTwo kn j t u).2) kn ed ct ti nm xa xb ma it vs se sm rs wk ors owk) := (blk_D (wMo_in))
  refine lv_if_ne (tgt := 19) hx hb d_Md_firstChange_7 (by decide) (fun hc => absurd hlk hc) (fun hc => ?_)
  refine lv_aload_n hx hb d_Md_firstChange_10 rfl (lv_at hl 0 rfl) ?_
  refine va_get (D := D) (ci := 9) (v := .ref (a + 2)) (C := R_Md) (T := F_Md) (N := 17) hx hb hg in_Md hown hK hP 0 rfl rfl 2 (Nat.le_of_ble_eq_true rfl) (hg _ tw_708) (fun _ h9 => h9) rfl d_Md_firstChange_11 ?_
  refine lv_iload_n hx hb d_Md_firstChange_14 rfl (lv_at hl 1 rfl) ?_
  refine ep_zald hx hb hK hP 2 2 rfl rfl (i := j) (by omega) (by decide) d_Md_firstChange_15 ?_
  refine lv_if_ne (tgt := 21) hx hb d_Md_firstChange_16 (by decide) (fun hc => ?_) (fun hc => absurd hc hed)
  refine lv_aload_n hx hb d_Md_firstChange_21 rfl (lv_at hl 0 rfl) ?_
  refine lv_iload_n hx hb d_Md_firstChange_22 rfl (lv_at hl 1 rfl) ?_
  refine lv_iconst (v := 4) hx hb d_Md_firstChange_23 (by decide) ?_
  refine lv_iadd hx hb d_Md_firstChange_24 ?_
  refine lv_topi (fun z9 e_z9 => ?_)
  obtain rfl : z9 = nI (j + 4) := by rw [e_z9]; exact (nI_add j 4)
  refine lv_aload_n hx hb d_Md_firstChange_25 rfl (lv_at hl 0 rfl) ?_
  refine lv_iload_n hx hb d_Md_firstChange_26 rfl (lv_at hl 1 rfl) ?_
  refine ep_callP (W.runV (As := [.int (nI j)]) (rest := [.int (nI (j + 4)), .ref a]) ⟨hx, hb, hml, hown, hg⟩ (m_Mo_kindOf l D cI cJ cZ cO a ((f_Mo_lacksTwo kn j t u).2) kn ed ct ti nm xa xb ma it vs se sm rs wk ors owk j (by omega) _ rfl) (ep_cwV 1 hg tw_789 tw_791 ts_11 tw_12 tk_Md_kindOf rfl rfl (by decide +kernel) ⟨(Nat.le_of_ble_eq_true rfl), (Nat.le_of_ble_eq_true rfl)⟩) ⟨ep_blind, va_recv (q0 := 0) (ci := 9) hK hP rfl rfl, ep_pre hKn (hP)⟩ rfl rfl hl.1 rfl (lv_room (Nat.le_of_ble_eq_true rfl)) d_Md_firstChange_27 ⟨Nat.zero_le _, Nat.zero_le _⟩) ?_
  refine W.eq (g2 := F0 m 30 ls [.int (f_Mo_kindOf kn j), .int (nI (j + 4)), .ref a]) rfl ?_
  refine lv_topi (fun z9 e_z9 => ?_)
  obtain rfl : z9 = 4 := by rw [e_z9]; exact (by rw [show f_Mo_kindOf kn j = kn j - 1 from rfl, hk]; decide)
  refine lv_ldc (v := 1000000000) hx hb hown (hg _ tw_780) d_Md_firstChange_30 ?_
  refine ep_callH (W.runV (As := [.int (nI (j + 4)), .int 4, .int 1000000000]) (rest := []) ⟨hx, hb, hml, hown, hg⟩ (m_Mo_run_4 l D cI cJ cZ cO a ((f_Mo_lacksTwo kn j t u).2) kn ed ct ti nm xa xb ma it vs se sm rs wk ors owk n2 (j + 4) 1000000000 (by omega) hct2 (by omega) _ rfl) (ep_cwV 3 hg tw_832 tw_834 ts_17 tw_12 tk_Md_run rfl rfl (by decide +kernel) ⟨(Nat.le_of_ble_eq_true rfl), (Nat.le_of_ble_eq_true rfl)⟩) ⟨ep_blind, va_recv (q0 := 0) (ci := 9) hK hP rfl rfl, ep_pre hKn (hP)⟩ rfl rfl hl.1 rfl (lv_room (Nat.le_of_ble_eq_true rfl)) d_Md_firstChange_32 ⟨Nat.zero_le _, Nat.zero_le _⟩) hS (fun q h => h) (fun H locs hsz9 hk1 hP1 hS => ?_)
  refine W.eq (g2 := F0 m 35 ls []) rfl ?_
  have hP : va_P D cls (wMo cI cJ cZ a ((f_Mo_lacksTwo kn j t u).2) kn ed ct ti nm xa xb ((f_Mo_run_4 ti xa it vs se rs wk n2 (j + 4) 1000000000).1) ((f_Mo_run_4 ti xa it vs se rs wk n2 (j + 4) 1000000000).2.1) ((f_Mo_run_4 ti xa it vs se rs wk n2 (j + 4) 1000000000).2.2.1) ((f_Mo_run_4 ti xa it vs se rs wk n2 (j + 4) 1000000000).2.2.2.1) ((f_Mo_run_4 ti xa it vs se rs wk n2 (j + 4) 1000000000).2.2.2.2.1) ((f_Mo_run_4 ti xa it vs se rs wk n2 (j + 4) 1000000000).2.2.2.2.2.1) ((f_Mo_run_4 ti xa it vs se rs wk n2 (j + 4) 1000000000).2.2.2.2.2.2) ors owk) H := hP1
  have hD : va_D (blk a 15) (wMo cI cJ cZ a ((f_Mo_lacksTwo kn j t u).2) kn ed ct ti nm xa xb ((f_Mo_run_4 ti xa it vs se rs wk n2 (j + 4) 1000000000).1) ((f_Mo_run_4 ti xa it vs se rs wk n2 (j + 4) 1000000000).2.1) ((f_Mo_run_4 ti xa it vs se rs wk n2 (j + 4) 1000000000).2.2.1) ((f_Mo_run_4 ti xa it vs se rs wk n2 (j + 4) 1000000000).2.2.2.1) ((f_Mo_run_4 ti xa it vs se rs wk n2 (j + 4) 1000000000).2.2.2.2.1) ((f_Mo_run_4 ti xa it vs se rs wk n2 (j + 4) 1000000000).2.2.2.2.2.1) ((f_Mo_run_4 ti xa it vs se rs wk n2 (j + 4) 1000000000).2.2.2.2.2.2) ors owk) := (blk_D (wMo_in))
  refine lv_iconst (v := 0) hx hb d_Md_firstChange_35 (by decide) ?_
  refine lv_istore (lv' := [(4, .int 0), (0, .ref a), (1, .int (nI j)), (2, .int t), (3, .int u)]) hx hb d_Md_firstChange_36 hl (by decide) rfl (fun ls hl => ?_)
  exact key_38 32 0 ((f_Mo_run_4 ti xa it vs se rs wk n2 (j + 4) 1000000000).1) ((f_Mo_run_4 ti xa it vs se rs wk n2 (j + 4) 1000000000).2.1) ((f_Mo_run_4 ti xa it vs se rs wk n2 (j + 4) 1000000000).2.2.1) ((f_Mo_run_4 ti xa it vs se rs wk n2 (j + 4) 1000000000).2.2.2.1) ((f_Mo_run_4 ti xa it vs se rs wk n2 (j + 4) 1000000000).2.2.2.2.1) ((f_Mo_run_4 ti xa it vs se rs wk n2 (j + 4) 1000000000).2.2.2.2.2.1) ((f_Mo_run_4 ti xa it vs se rs wk n2 (j + 4) 1000000000).2.2.2.2.2.2) ors owk _ _ ls (by omega) (run_bz_4 _ _ _ _ _ _ _ _ _ _ hbz) hR hl hP hS

def g_Mo_effective_5_29 (kn : Nat → Int32) (ti : Nat → Int32) (j : Nat) (t : Int32) (u : Int32) : Nat → Nat → Nat → Int32 → (Nat → Int32) → (Nat → Int32) → (Nat → Int32) → Int64 → (Nat → Int64) → (Nat → Int32) → Nat × Int32 × Int32 × (Nat → Int32) × (Nat → Int32) × (Nat → Int32) × Int64 × (Nat → Int64) × (Nat → Int32)
  | 0, i, c9, mc, it, vs, se, sm, rs, wk => (c9, (f_Mo_lacksTwo kn j t u).2, mc, it, vs, se, sm, rs, wk)
  | k + 1, i, c9, mc, it, vs, se, sm, rs, wk => if (ti (32 * j + i)) < t then (g_Mo_effective_5_29 kn ti j t u k (i + 1) (c9 + 0) mc it vs se sm rs wk) else (if u < (ti (32 * j + i)) then (g_Mo_effective_5_29 kn ti j t u k (i + 1) (c9 + 0) mc it vs se sm rs wk) else (if (wk i) = 0 then (g_Mo_effective_5_29 kn ti j t u k (i + 1) (c9 + 0) mc it vs se sm rs wk) else (g_Mo_effective_5_29 kn ti j t u k (i + 1) (c9 + 1) mc it vs se sm rs wk)))

def f_Mo_effective_5 (kn : Nat → Int32) (ti : Nat → Int32) (xa : Nat → Int32) (xb : Nat → Int32) (it : Nat → Int32) (vs : Nat → Int32) (se : Nat → Int32) (rs : Nat → Int64) (wk : Nat → Int32) (n : Nat) (j : Nat) (t : Int32) (u : Int32) : Nat × Int32 × Int32 × (Nat → Int32) × (Nat → Int32) × (Nat → Int32) × Int64 × (Nat → Int64) × (Nat → Int32) := g_Mo_effective_5_29 kn ti j t u n 0 0 ((f_Mo_run_5 ti xa xb it vs se rs wk n j u).1) ((f_Mo_run_5 ti xa xb it vs se rs wk n j u).2.1) ((f_Mo_run_5 ti xa xb it vs se rs wk n j u).2.2.1) ((f_Mo_run_5 ti xa xb it vs se rs wk n j u).2.2.2.1) ((f_Mo_run_5 ti xa xb it vs se rs wk n j u).2.2.2.2.1) ((f_Mo_run_5 ti xa xb it vs se rs wk n j u).2.2.2.2.2.1) ((f_Mo_run_5 ti xa xb it vs se rs wk n j u).2.2.2.2.2.2)
set_option maxHeartbeats 4000000 in
set_option maxRecDepth 100000 in
theorem m_Mo_effective_5 (l : Launch) (D : va_G) (cI cJ cZ cO : ClassId) (a : Nat) (code : Int32) (kn : Nat → Int32) (ed : Nat → Int32) (ct : Nat → Int32) (ti : Nat → Int32) (nm : Nat → Int32) (xa : Nat → Int32) (xb : Nat → Int32) (ma : Int32) (it : Nat → Int32) (vs : Nat → Int32) (se : Nat → Int32) (sm : Int64) (rs : Nat → Int64) (wk : Nat → Int32) (ors : Nat → Int64) (owk : Nat → Int32) (n : Nat) (j : Nat) (t : Int32) (u : Int32) (hj : j < 4) (hlk : (f_Mo_lacksTwo kn j t u).1 = 0) (hk : kn j = 6) (hct : ct j = nI n) (hn : n ≤ 32) (hop : ∀ i, i < n → (xa (32 * j + i) = nI (xa (32 * j + i)).toNatClampNeg ∧ (xa (32 * j + i)).toNatClampNeg < 16) ∧ (xb (32 * j + i) = nI (xb (32 * j + i)).toNatClampNeg ∧ (xb (32 * j + i)).toNatClampNeg < 16)) (R : Nat × Int32 × Int32 × (Nat → Int32) × (Nat → Int32) × (Nat → Int32) × Int64 × (Nat → Int64) × (Nat → Int32)) (hR : f_Mo_effective_5 kn ti xa xb it vs se rs wk n j t u = R) : Met l y_Md_effective (k_Md_effective :: gt) rm_Md_effective (Pc0 D cI cJ cZ cO [.ref a, .int (nI j), .int t, .int u] (fun H => va_P D cls (wMo cI cJ cZ a code kn ed ct ti nm xa xb ma it vs se sm rs wk ors owk) H)) (Qd (blk a 15) (some (.int (nI R.1))) (fun H => va_P D cls (wMo cI cJ cZ a R.2.1 kn ed ct ti nm xa xb R.2.2.1 R.2.2.2.1 R.2.2.2.2.1 R.2.2.2.2.2.1 R.2.2.2.2.2.2.1 R.2.2.2.2.2.2.2.1 R.2.2.2.2.2.2.2.2 ors owk) H)) 0 0 (blk a 15) := by
  refine Met.ofW (cc := c_Md_effective) (maxL := 7) (ret := (Option.some FieldType.int)) (by decide) rfl ?_
  intro p e s m args below meth c s₁ B hml hv
  obtain ⟨rfl, hKn, hP⟩ := hv
  have hx := B.exec
  have hb := B.bytes
  have hr := B.returns
  have hts := atoms_spec (ws := k_Md_effective :: gt) B.pre
  have hg : ∀ w ∈ gt, w.before _ s = true := fun w h => hts w (List.mem_cons_of_mem _ h)
  have hown : s.vm.findClass R_Md = some m.cls := findClass_of_methodNamed B.named
  have hlocks := B.notSynchronized
  have hK := hKn.1
  have hl := lv_entry ([.ref a, .int (nI j), .int t, .int u]) (n := 7) (Nat.le_of_ble_eq_true rfl)
  rw [lg_entry_eq]
  generalize (lg_sl ([.ref a, .int (nI j), .int t, .int u]) ++ List.replicate (7 - (lg_sl ([.ref a, .int (nI j), .int t, .int u])).length) Slot.unset).toArray = ls at hl ⊢
  have hl : lv_has ls 7 [(0, .ref a), (1, .int (nI j)), (2, .int t), (3, .int u)] := hl
  have hS : va_S (blk a 15) s.heap s.heap [] := va_S.rf
  have hD : va_D (blk a 15) (wMo cI cJ cZ a code kn ed ct ti nm xa xb ma it vs se sm rs wk ors owk) := (blk_D (wMo_in))
  have key_29 : ∀ (k : Nat) (i : Nat) (c9 : Nat) (mc : Int32) (it : Nat → Int32) (vs : Nat → Int32) (se : Nat → Int32) (sm : Int64) (rs : Nat → Int64) (wk : Nat → Int32) (H : Heap) (locs : List Loc) (ls : Array Slot), i + k = n → g_Mo_effective_5_29 kn ti j t u k i c9 mc it vs se sm rs wk = R → lv_has ls 7 [(5, .int (nI i)), (4, .int (nI c9)), (0, .ref a), (1, .int (nI j)), (2, .int t), (3, .int u)] → va_P D cls (wMo cI cJ cZ a ((f_Mo_lacksTwo kn j t u).2) kn ed ct ti nm xa xb mc it vs se sm rs wk ors owk) H → va_S (blk a 15) s.heap H locs → W p l e (headSpec (k_Md_effective :: gt) rm_Md_effective).room s m ([.ref a, .int (nI j), .int t, .int u] : List Value).toArray below meth c H locs 0 0 (MQ below (Qd (blk a 15) (some (.int (nI R.1))) (fun H => va_P D cls (wMo cI cJ cZ a R.2.1 kn ed ct ti nm xa xb R.2.2.1 R.2.2.2.1 R.2.2.2.2.1 R.2.2.2.2.2.1 R.2.2.2.2.2.2.1 R.2.2.2.2.2.2.2.1 R.2.2.2.2.2.2.2.2 ors owk) H)) ([.ref a, .int (nI j), .int t, .int u] : List Value).toArray s 0 0 (blk a 15)) (F0 m 29 ls []) := by
    intro k
    induction k with
    | zero =>
      intro i c9 mc it vs se sm rs wk H locs ls hi hR hl hP hS
      have hR : ((c9, (f_Mo_lacksTwo kn j t u).2, mc, it, vs, se, sm, rs, wk)) = R := hR
      have hD : va_D (blk a 15) (wMo cI cJ cZ a ((f_Mo_lacksTwo kn j t u).2) kn ed ct ti nm xa xb mc it vs se sm rs wk ors owk) := (blk_D (wMo_in))
      refine lv_iload hx hb d_Md_effective_29 (lv_at hl 0 rfl) ?_
      refine lv_aload_n hx hb d_Md_effective_31 rfl (lv_at hl 2 rfl) ?_
      refine va_get (D := D) (ci := 9) (v := .ref (a + 3)) (C := R_Md) (T := F_Md) (N := 17) hx hb hg in_Md hown hK hP 0 rfl rfl 3 (Nat.le_of_ble_eq_true rfl) (hg _ tw_709) (fun _ h9 => h9) rfl d_Md_effective_32 ?_
      refine lv_iload_n hx hb d_Md_effective_35 rfl (lv_at hl 3 rfl) ?_
      refine ep_iald hx hb hK hP 3 0 rfl rfl (i := j) (by omega) (by decide) d_Md_effective_36 ?_
      refine lv_topi (fun z9 e_z9 => ?_)
      obtain rfl : z9 = nI n := by rw [e_z9]; exact hct
      refine lv_icmp_ge (tgt := 92) hx hb d_Md_effective_37 (by decide) (fun hc => ?_) (fun hc => False.elim (by have hc : ¬ (n ≤ i) := fun h => hc (by exact (nI_leI (a := n) (b := i) (by omega) (by omega)).mpr h); omega))
      refine lv_iload hx hb d_Md_effective_92 (lv_at hl 1 rfl) ?_
      subst hR
      exact W.iret (v := (nI c9)) hx hb hr (fun t9 ht hW => ⟨rfl, hS.F ht, by rw [ht]; exact hP⟩) hS.2.2 d_Md_effective_94
    | succ k ih =>
      intro i c9 mc it vs se sm rs wk H locs ls hi hR hl hP hS
      have hR : (if (ti (32 * j + i)) < t then (g_Mo_effective_5_29 kn ti j t u k (i + 1) (c9 + 0) mc it vs se sm rs wk) else (if u < (ti (32 * j + i)) then (g_Mo_effective_5_29 kn ti j t u k (i + 1) (c9 + 0) mc it vs se sm rs wk) else (if (wk i) = 0 then (g_Mo_effective_5_29 kn ti j t u k (i + 1) (c9 + 0) mc it vs se sm rs wk) else (g_Mo_effective_5_29 kn ti j t u k (i + 1) (c9 + 1) mc it vs se sm rs wk)))) = R := hR
      have hD : va_D (blk a 15) (wMo cI cJ cZ a ((f_Mo_lacksTwo kn j t u).2) kn ed ct ti nm xa xb mc it vs se sm rs wk ors owk) := (blk_D (wMo_in))
      refine lv_iload hx hb d_Md_effective_29 (lv_at hl 0 rfl) ?_
      refine lv_aload_n hx hb d_Md_effective_31 rfl (lv_at hl 2 rfl) ?_
      refine va_get (D := D) (ci := 9) (v := .ref (a + 3)) (C := R_Md) (T := F_Md) (N := 17) hx hb hg in_Md hown hK hP 0 rfl rfl 3 (Nat.le_of_ble_eq_true rfl) (hg _ tw_709) (fun _ h9 => h9) rfl d_Md_effective_32 ?_
      refine lv_iload_n hx hb d_Md_effective_35 rfl (lv_at hl 3 rfl) ?_
      refine ep_iald hx hb hK hP 3 0 rfl rfl (i := j) (by omega) (by decide) d_Md_effective_36 ?_
      refine lv_topi (fun z9 e_z9 => ?_)
      obtain rfl : z9 = nI n := by rw [e_z9]; exact hct
      refine lv_icmp_ge (tgt := 92) hx hb d_Md_effective_37 (by decide) (fun hc => False.elim (by have hc := (nI_leI (a := n) (b := i) (by omega) (by omega)).mp hc; omega)) (fun hc => ?_)
      refine lv_aload_n hx hb d_Md_effective_40 rfl (lv_at hl 2 rfl) ?_
      refine va_get (D := D) (ci := 9) (v := .ref (a + 4)) (C := R_Md) (T := F_Md) (N := 17) hx hb hg in_Md hown hK hP 0 rfl rfl 4 (Nat.le_of_ble_eq_true rfl) (hg _ tw_710) (fun _ h9 => h9) rfl d_Md_effective_41 ?_
      refine lv_bipush (v := 32) hx hb d_Md_effective_44 (by decide) ?_
      refine lv_iload_n hx hb d_Md_effective_46 rfl (lv_at hl 3 rfl) ?_
      refine lv_imul hx hb d_Md_effective_47 ?_
      refine lv_topi (fun z9 e_z9 => ?_)
      obtain rfl : z9 = nI (32 * j) := by rw [e_z9]; exact (nI_mul 32 j)
      refine lv_iload hx hb d_Md_effective_48 (lv_at hl 0 rfl) ?_
      refine lv_iadd hx hb d_Md_effective_50 ?_
      refine lv_topi (fun z9 e_z9 => ?_)
      obtain rfl : z9 = nI (32 * j + i) := by rw [e_z9]; exact (nI_add (32 * j) i)
      refine ep_iald hx hb hK hP 4 0 rfl rfl (i := (32 * j + i)) (by omega) (by decide) d_Md_effective_51 ?_
      refine lv_istore (lv' := [(6, .int (ti (32 * j + i))), (5, .int (nI i)), (4, .int (nI c9)), (0, .ref a), (1, .int (nI j)), (2, .int t), (3, .int u)]) hx hb d_Md_effective_52 hl (by decide) rfl (fun ls hl => ?_)
      refine lv_iload hx hb d_Md_effective_54 (lv_at hl 2 rfl) ?_
      refine lv_iload hx hb d_Md_effective_56 (lv_at hl 0 rfl) ?_
      refine lv_iload_n hx hb d_Md_effective_58 rfl (lv_at hl 5 rfl) ?_
      refine lv_icmp_lt (tgt := 82) hx hb d_Md_effective_59 (by decide) (fun hc1 => ?_) (fun hc1 => ?_)
      · have hc1 : (ti (32 * j + i)) < t := hc1
        refine lv_iconst (v := 0) hx hb d_Md_effective_82 (by decide) ?_
        refine lv_iadd hx hb d_Md_effective_83 ?_
        refine lv_topi (fun z9 e_z9 => ?_)
        obtain rfl : z9 = nI (c9 + 0) := by rw [e_z9]; exact (nI_add c9 0)
        refine lv_istore (lv' := [(4, .int (nI (c9 + 0))), (6, .int (ti (32 * j + i))), (5, .int (nI i)), (0, .ref a), (1, .int (nI j)), (2, .int t), (3, .int u)]) hx hb d_Md_effective_84 hl (by decide) rfl (fun ls hl => ?_)
        refine lv_iinc (k := 2) (lv' := [(5, .int (nI (i + 1))), (4, .int (nI (c9 + 0))), (6, .int (ti (32 * j + i))), (0, .ref a), (1, .int (nI j)), (2, .int t), (3, .int u)]) hx hb d_Md_effective_86 hl rfl (inc1 _) (by decide) rfl (fun ls hl => ?_)
        refine lv_goto (tgt := 29) hx hb d_Md_effective_89 (by decide) ?_
        rw [if_pos hc1] at hR
        exact ih (i + 1) (c9 + 0) mc it vs se sm rs wk _ _ ls (by omega) hR (lv_sub hl [0, 1, 3, 4, 5, 6] rfl) hP hS
      · have hc1 : ¬ ((ti (32 * j + i)) < t) := hc1
        refine lv_iload hx hb d_Md_effective_62 (lv_at hl 0 rfl) ?_
        refine lv_iload_n hx hb d_Md_effective_64 rfl (lv_at hl 6 rfl) ?_
        refine lv_icmp_gt (tgt := 82) hx hb d_Md_effective_65 (by decide) (fun hc2 => ?_) (fun hc2 => ?_)
        · have hc2 : u < (ti (32 * j + i)) := hc2
          refine lv_iconst (v := 0) hx hb d_Md_effective_82 (by decide) ?_
          refine lv_iadd hx hb d_Md_effective_83 ?_
          refine lv_topi (fun z9 e_z9 => ?_)
          obtain rfl : z9 = nI (c9 + 0) := by rw [e_z9]; exact (nI_add c9 0)
          refine lv_istore (lv' := [(4, .int (nI (c9 + 0))), (6, .int (ti (32 * j + i))), (5, .int (nI i)), (0, .ref a), (1, .int (nI j)), (2, .int t), (3, .int u)]) hx hb d_Md_effective_84 hl (by decide) rfl (fun ls hl => ?_)
          refine lv_iinc (k := 2) (lv' := [(5, .int (nI (i + 1))), (4, .int (nI (c9 + 0))), (6, .int (ti (32 * j + i))), (0, .ref a), (1, .int (nI j)), (2, .int t), (3, .int u)]) hx hb d_Md_effective_86 hl rfl (inc1 _) (by decide) rfl (fun ls hl => ?_)
          refine lv_goto (tgt := 29) hx hb d_Md_effective_89 (by decide) ?_
          rw [if_neg hc1, if_pos hc2] at hR
          exact ih (i + 1) (c9 + 0) mc it vs se sm rs wk _ _ ls (by omega) hR (lv_sub hl [0, 1, 3, 4, 5, 6] rfl) hP hS
        · have hc2 : ¬ (u < (ti (32 * j + i))) := hc2
          refine lv_aload_n hx hb d_Md_effective_68 rfl (lv_at hl 3 rfl) ?_
          refine va_get (D := D) (ci := 9) (v := .ref (a + 12)) (C := R_Md) (T := F_Md) (N := 17) hx hb hg in_Md hown hK hP 0 rfl rfl 14 (Nat.le_of_ble_eq_true rfl) (hg _ tw_720) (fun _ h9 => h9) rfl d_Md_effective_69 ?_
          refine lv_iload hx hb d_Md_effective_72 (lv_at hl 1 rfl) ?_
          refine ep_zald hx hb hK hP 12 2 rfl rfl (i := i) (by omega) (by decide) d_Md_effective_74 ?_
          refine lv_if_eq (tgt := 82) hx hb d_Md_effective_75 (by decide) (fun hc3 => ?_) (fun hc3 => ?_)
          · have hc3 : (wk i) = 0 := hc3
            refine lv_iconst (v := 0) hx hb d_Md_effective_82 (by decide) ?_
            refine lv_iadd hx hb d_Md_effective_83 ?_
            refine lv_topi (fun z9 e_z9 => ?_)
            obtain rfl : z9 = nI (c9 + 0) := by rw [e_z9]; exact (nI_add c9 0)
            refine lv_istore (lv' := [(4, .int (nI (c9 + 0))), (6, .int (ti (32 * j + i))), (5, .int (nI i)), (0, .ref a), (1, .int (nI j)), (2, .int t), (3, .int u)]) hx hb d_Md_effective_84 hl (by decide) rfl (fun ls hl => ?_)
            refine lv_iinc (k := 2) (lv' := [(5, .int (nI (i + 1))), (4, .int (nI (c9 + 0))), (6, .int (ti (32 * j + i))), (0, .ref a), (1, .int (nI j)), (2, .int t), (3, .int u)]) hx hb d_Md_effective_86 hl rfl (inc1 _) (by decide) rfl (fun ls hl => ?_)
            refine lv_goto (tgt := 29) hx hb d_Md_effective_89 (by decide) ?_
            rw [if_neg hc1, if_neg hc2, if_pos hc3] at hR
            exact ih (i + 1) (c9 + 0) mc it vs se sm rs wk _ _ ls (by omega) hR (lv_sub hl [0, 1, 3, 4, 5, 6] rfl) hP hS
          · have hc3 : ¬ ((wk i) = 0) := hc3
            refine lv_iconst (v := 1) hx hb d_Md_effective_78 (by decide) ?_
            refine lv_goto (tgt := 83) hx hb d_Md_effective_79 (by decide) ?_
            refine lv_iadd hx hb d_Md_effective_83 ?_
            refine lv_topi (fun z9 e_z9 => ?_)
            obtain rfl : z9 = nI (c9 + 1) := by rw [e_z9]; exact (nI_add c9 1)
            refine lv_istore (lv' := [(4, .int (nI (c9 + 1))), (6, .int (ti (32 * j + i))), (5, .int (nI i)), (0, .ref a), (1, .int (nI j)), (2, .int t), (3, .int u)]) hx hb d_Md_effective_84 hl (by decide) rfl (fun ls hl => ?_)
            refine lv_iinc (k := 2) (lv' := [(5, .int (nI (i + 1))), (4, .int (nI (c9 + 1))), (6, .int (ti (32 * j + i))), (0, .ref a), (1, .int (nI j)), (2, .int t), (3, .int u)]) hx hb d_Md_effective_86 hl rfl (inc1 _) (by decide) rfl (fun ls hl => ?_)
            refine lv_goto (tgt := 29) hx hb d_Md_effective_89 (by decide) ?_
            rw [if_neg hc1, if_neg hc2, if_neg hc3] at hR
            exact ih (i + 1) (c9 + 1) mc it vs se sm rs wk _ _ ls (by omega) hR (lv_sub hl [0, 1, 3, 4, 5, 6] rfl) hP hS
  have hR : (g_Mo_effective_5_29 kn ti j t u n 0 0 ((f_Mo_run_5 ti xa xb it vs se rs wk n j u).1) ((f_Mo_run_5 ti xa xb it vs se rs wk n j u).2.1) ((f_Mo_run_5 ti xa xb it vs se rs wk n j u).2.2.1) ((f_Mo_run_5 ti xa xb it vs se rs wk n j u).2.2.2.1) ((f_Mo_run_5 ti xa xb it vs se rs wk n j u).2.2.2.2.1) ((f_Mo_run_5 ti xa xb it vs se rs wk n j u).2.2.2.2.2.1) ((f_Mo_run_5 ti xa xb it vs se rs wk n j u).2.2.2.2.2.2)) = R := hR
  refine lv_aload_n hx hb d_Md_effective_0 rfl (lv_at hl 0 rfl) ?_
  refine lv_iload_n hx hb d_Md_effective_1 rfl (lv_at hl 1 rfl) ?_
  refine lv_iload_n hx hb d_Md_effective_2 rfl (lv_at hl 2 rfl) ?_
  refine lv_iload_n hx hb d_Md_effective_3 rfl (lv_at hl 3 rfl) ?_
  refine ep_callH (W.runV (As := [.int (nI j), .int t, .int u]) (rest := []) ⟨hx, hb, hml, hown, hg⟩ (m_Mo_lacksTwo l D cI cJ cZ cO a code kn ed ct ti nm xa xb ma it vs se sm rs wk ors owk j t u (by omega) _ rfl) (ep_cwV 3 hg tw_896 tw_898 ts_25 tw_12 tk_Md_lacksTwo rfl rfl (by decide +kernel) ⟨(Nat.le_of_ble_eq_true rfl), (Nat.le_of_ble_eq_true rfl)⟩) ⟨ep_blind, va_recv (q0 := 0) (ci := 9) hK hP rfl rfl, ep_pre hKn (hP)⟩ rfl rfl hl.1 rfl (lv_room (Nat.le_of_ble_eq_true rfl)) d_Md_effective_4 ⟨Nat.zero_le _, Nat.zero_le _⟩) hS (fun q h => h) (fun H locs hsz9 hk1 hP1 hS => ?_)
  refine W.eq (g2 := F0 m 7 ls [.int ((f_Mo_lacksTwo kn j t u).1)]) rfl ?_
  have hP : va_P D cls (wMo cI cJ cZ a ((f_Mo_lacksTwo kn j t u).2) kn ed ct ti nm xa xb ma it vs se sm rs wk ors owk) H := hP1
  have hD : va_D (blk a 15) (wMo cI cJ cZ a ((f_Mo_lacksTwo kn j t u).2) kn ed ct ti nm xa xb ma it vs se sm rs wk ors owk) := (blk_D (wMo_in))
  refine lv_if_eq (tgt := 12) hx hb d_Md_effective_7 (by decide) (fun hc => ?_) (fun hc => absurd hlk hc)
  refine lv_aload_n hx hb d_Md_effective_12 rfl (lv_at hl 0 rfl) ?_
  refine lv_iload_n hx hb d_Md_effective_13 rfl (lv_at hl 1 rfl) ?_
  refine lv_aload_n hx hb d_Md_effective_14 rfl (lv_at hl 0 rfl) ?_
  refine lv_iload_n hx hb d_Md_effective_15 rfl (lv_at hl 1 rfl) ?_
  refine ep_callP (W.runV (As := [.int (nI j)]) (rest := [.int (nI j), .ref a]) ⟨hx, hb, hml, hown, hg⟩ (m_Mo_kindOf l D cI cJ cZ cO a ((f_Mo_lacksTwo kn j t u).2) kn ed ct ti nm xa xb ma it vs se sm rs wk ors owk j (by omega) _ rfl) (ep_cwV 1 hg tw_789 tw_791 ts_11 tw_12 tk_Md_kindOf rfl rfl (by decide +kernel) ⟨(Nat.le_of_ble_eq_true rfl), (Nat.le_of_ble_eq_true rfl)⟩) ⟨ep_blind, va_recv (q0 := 0) (ci := 9) hK hP rfl rfl, ep_pre hKn (hP)⟩ rfl rfl hl.1 rfl (lv_room (Nat.le_of_ble_eq_true rfl)) d_Md_effective_16 ⟨Nat.zero_le _, Nat.zero_le _⟩) ?_
  refine W.eq (g2 := F0 m 19 ls [.int (f_Mo_kindOf kn j), .int (nI j), .ref a]) rfl ?_
  refine lv_topi (fun z9 e_z9 => ?_)
  obtain rfl : z9 = 5 := by rw [e_z9]; exact (by rw [show f_Mo_kindOf kn j = kn j - 1 from rfl, hk]; decide)
  refine lv_iload_n hx hb d_Md_effective_19 rfl (lv_at hl 3 rfl) ?_
  refine ep_callH (W.runV (As := [.int (nI j), .int 5, .int u]) (rest := []) ⟨hx, hb, hml, hown, hg⟩ (m_Mo_run_5 l D cI cJ cZ cO a ((f_Mo_lacksTwo kn j t u).2) kn ed ct ti nm xa xb ma it vs se sm rs wk ors owk n j u (by omega) hct (by omega) hop _ rfl) (ep_cwV 3 hg tw_832 tw_834 ts_17 tw_12 tk_Md_run rfl rfl (by decide +kernel) ⟨(Nat.le_of_ble_eq_true rfl), (Nat.le_of_ble_eq_true rfl)⟩) ⟨ep_blind, va_recv (q0 := 0) (ci := 9) hK hP rfl rfl, ep_pre hKn (hP)⟩ rfl rfl hl.1 rfl (lv_room (Nat.le_of_ble_eq_true rfl)) d_Md_effective_20 ⟨Nat.zero_le _, Nat.zero_le _⟩) hS (fun q h => h) (fun H locs hsz9 hk1 hP1 hS => ?_)
  refine W.eq (g2 := F0 m 23 ls []) rfl ?_
  have hP : va_P D cls (wMo cI cJ cZ a ((f_Mo_lacksTwo kn j t u).2) kn ed ct ti nm xa xb ((f_Mo_run_5 ti xa xb it vs se rs wk n j u).1) ((f_Mo_run_5 ti xa xb it vs se rs wk n j u).2.1) ((f_Mo_run_5 ti xa xb it vs se rs wk n j u).2.2.1) ((f_Mo_run_5 ti xa xb it vs se rs wk n j u).2.2.2.1) ((f_Mo_run_5 ti xa xb it vs se rs wk n j u).2.2.2.2.1) ((f_Mo_run_5 ti xa xb it vs se rs wk n j u).2.2.2.2.2.1) ((f_Mo_run_5 ti xa xb it vs se rs wk n j u).2.2.2.2.2.2) ors owk) H := hP1
  have hD : va_D (blk a 15) (wMo cI cJ cZ a ((f_Mo_lacksTwo kn j t u).2) kn ed ct ti nm xa xb ((f_Mo_run_5 ti xa xb it vs se rs wk n j u).1) ((f_Mo_run_5 ti xa xb it vs se rs wk n j u).2.1) ((f_Mo_run_5 ti xa xb it vs se rs wk n j u).2.2.1) ((f_Mo_run_5 ti xa xb it vs se rs wk n j u).2.2.2.1) ((f_Mo_run_5 ti xa xb it vs se rs wk n j u).2.2.2.2.1) ((f_Mo_run_5 ti xa xb it vs se rs wk n j u).2.2.2.2.2.1) ((f_Mo_run_5 ti xa xb it vs se rs wk n j u).2.2.2.2.2.2) ors owk) := (blk_D (wMo_in))
  refine lv_iconst (v := 0) hx hb d_Md_effective_23 (by decide) ?_
  refine lv_istore (lv' := [(4, .int 0), (0, .ref a), (1, .int (nI j)), (2, .int t), (3, .int u)]) hx hb d_Md_effective_24 hl (by decide) rfl (fun ls hl => ?_)
  refine lv_iconst (v := 0) hx hb d_Md_effective_26 (by decide) ?_
  refine lv_istore (lv' := [(5, .int 0), (4, .int 0), (0, .ref a), (1, .int (nI j)), (2, .int t), (3, .int u)]) hx hb d_Md_effective_27 hl (by decide) rfl (fun ls hl => ?_)
  exact key_29 n 0 0 ((f_Mo_run_5 ti xa xb it vs se rs wk n j u).1) ((f_Mo_run_5 ti xa xb it vs se rs wk n j u).2.1) ((f_Mo_run_5 ti xa xb it vs se rs wk n j u).2.2.1) ((f_Mo_run_5 ti xa xb it vs se rs wk n j u).2.2.2.1) ((f_Mo_run_5 ti xa xb it vs se rs wk n j u).2.2.2.2.1) ((f_Mo_run_5 ti xa xb it vs se rs wk n j u).2.2.2.2.2.1) ((f_Mo_run_5 ti xa xb it vs se rs wk n j u).2.2.2.2.2.2) _ _ ls (by omega) hR hl hP hS

def g_Mo_firstChange_5_227 (kn : Nat → Int32) (ti : Nat → Int32) (n : Nat) (j : Nat) (t : Int32) (u : Int32) : Nat → Nat → Int32 → Int32 → (Nat → Int32) → (Nat → Int32) → (Nat → Int32) → Int64 → (Nat → Int64) → (Nat → Int32) → (Nat → Int64) → (Nat → Int32) → Int32 × Int32 × Int32 × (Nat → Int32) × (Nat → Int32) × (Nat → Int32) × Int64 × (Nat → Int64) × (Nat → Int32) × (Nat → Int64) × (Nat → Int32)
  | 0, i, be, mc, it, vs, se, sm, rs, wk, ors, owk => (be, (f_Mo_lacksTwo kn j t u).2, mc, it, vs, se, sm, rs, wk, ors, owk)
  | k + 1, i, be, mc, it, vs, se, sm, rs, wk, ors, owk => if ¬ (f_Mo_find ti n j (ti (32 * (j + 4) + i))) = -1 then (g_Mo_firstChange_5_227 kn ti n j t u k (i + 1) be mc it vs se sm rs wk ors owk) else (if (ti (32 * (j + 4) + i)) < t then (g_Mo_firstChange_5_227 kn ti n j t u k (i + 1) be mc it vs se sm rs wk ors owk) else (if u < (ti (32 * (j + 4) + i)) then (g_Mo_firstChange_5_227 kn ti n j t u k (i + 1) be mc it vs se sm rs wk ors owk) else (if be = 0 then (g_Mo_firstChange_5_227 kn ti n j t u k (i + 1) (ti (32 * (j + 4) + i)) mc it vs se sm rs wk ors owk) else (if be ≤ (ti (32 * (j + 4) + i)) then (g_Mo_firstChange_5_227 kn ti n j t u k (i + 1) be mc it vs se sm rs wk ors owk) else (g_Mo_firstChange_5_227 kn ti n j t u k (i + 1) (ti (32 * (j + 4) + i)) mc it vs se sm rs wk ors owk)))))

def g_Mo_firstChange_5_97 (kn : Nat → Int32) (ti : Nat → Int32) (n : Nat) (n2 : Nat) (j : Nat) (t : Int32) (u : Int32) : Nat → Nat → Int32 → Int32 → (Nat → Int32) → (Nat → Int32) → (Nat → Int32) → Int64 → (Nat → Int64) → (Nat → Int32) → (Nat → Int64) → (Nat → Int32) → Int32 × Int32 × Int32 × (Nat → Int32) × (Nat → Int32) × (Nat → Int32) × Int64 × (Nat → Int64) × (Nat → Int32) × (Nat → Int64) × (Nat → Int32)
  | 0, i, be, mc, it, vs, se, sm, rs, wk, ors, owk => g_Mo_firstChange_5_227 kn ti n j t u n2 0 be mc it vs se sm rs wk ors owk
  | k + 1, i, be, mc, it, vs, se, sm, rs, wk, ors, owk => if ¬ (f_Mo_find ti n2 (j + 4) (ti (32 * j + i))) = -1 then (if (lg_cmp (ors ((f_Mo_find ti n2 (j + 4) (ti (32 * j + i))).toNatClampNeg)) (rs i)) = 0 then (if (owk ((f_Mo_find ti n2 (j + 4) (ti (32 * j + i))).toNatClampNeg)) = (wk i) then (g_Mo_firstChange_5_97 kn ti n n2 j t u k (i + 1) be mc it vs se sm rs wk ors owk) else (if (ti (32 * j + i)) < t then (g_Mo_firstChange_5_97 kn ti n n2 j t u k (i + 1) be mc it vs se sm rs wk ors owk) else (if u < (ti (32 * j + i)) then (g_Mo_firstChange_5_97 kn ti n n2 j t u k (i + 1) be mc it vs se sm rs wk ors owk) else (if be = 0 then (g_Mo_firstChange_5_97 kn ti n n2 j t u k (i + 1) (ti (32 * j + i)) mc it vs se sm rs wk ors owk) else (if be ≤ (ti (32 * j + i)) then (g_Mo_firstChange_5_97 kn ti n n2 j t u k (i + 1) be mc it vs se sm rs wk ors owk) else (g_Mo_firstChange_5_97 kn ti n n2 j t u k (i + 1) (ti (32 * j + i)) mc it vs se sm rs wk ors owk)))))) else (if (ti (32 * j + i)) < t then (g_Mo_firstChange_5_97 kn ti n n2 j t u k (i + 1) be mc it vs se sm rs wk ors owk) else (if u < (ti (32 * j + i)) then (g_Mo_firstChange_5_97 kn ti n n2 j t u k (i + 1) be mc it vs se sm rs wk ors owk) else (if be = 0 then (g_Mo_firstChange_5_97 kn ti n n2 j t u k (i + 1) (ti (32 * j + i)) mc it vs se sm rs wk ors owk) else (if be ≤ (ti (32 * j + i)) then (g_Mo_firstChange_5_97 kn ti n n2 j t u k (i + 1) be mc it vs se sm rs wk ors owk) else (g_Mo_firstChange_5_97 kn ti n n2 j t u k (i + 1) (ti (32 * j + i)) mc it vs se sm rs wk ors owk)))))) else (if (ti (32 * j + i)) < t then (g_Mo_firstChange_5_97 kn ti n n2 j t u k (i + 1) be mc it vs se sm rs wk ors owk) else (if u < (ti (32 * j + i)) then (g_Mo_firstChange_5_97 kn ti n n2 j t u k (i + 1) be mc it vs se sm rs wk ors owk) else (if be = 0 then (g_Mo_firstChange_5_97 kn ti n n2 j t u k (i + 1) (ti (32 * j + i)) mc it vs se sm rs wk ors owk) else (if be ≤ (ti (32 * j + i)) then (g_Mo_firstChange_5_97 kn ti n n2 j t u k (i + 1) be mc it vs se sm rs wk ors owk) else (g_Mo_firstChange_5_97 kn ti n n2 j t u k (i + 1) (ti (32 * j + i)) mc it vs se sm rs wk ors owk)))))

def g_Mo_firstChange_5_38 (kn : Nat → Int32) (ti : Nat → Int32) (xa : Nat → Int32) (xb : Nat → Int32) (n : Nat) (n2 : Nat) (j : Nat) (t : Int32) (u : Int32) : Nat → Nat → Int32 → (Nat → Int32) → (Nat → Int32) → (Nat → Int32) → Int64 → (Nat → Int64) → (Nat → Int32) → (Nat → Int64) → (Nat → Int32) → Int32 × Int32 × Int32 × (Nat → Int32) × (Nat → Int32) × (Nat → Int32) × Int64 × (Nat → Int64) × (Nat → Int32) × (Nat → Int64) × (Nat → Int32)
  | 0, i, mc, it, vs, se, sm, rs, wk, ors, owk => g_Mo_firstChange_5_97 kn ti n n2 j t u n 0 0 ((f_Mo_run_5 ti xa xb it vs se rs wk n j 1000000000).1) ((f_Mo_run_5 ti xa xb it vs se rs wk n j 1000000000).2.1) ((f_Mo_run_5 ti xa xb it vs se rs wk n j 1000000000).2.2.1) ((f_Mo_run_5 ti xa xb it vs se rs wk n j 1000000000).2.2.2.1) ((f_Mo_run_5 ti xa xb it vs se rs wk n j 1000000000).2.2.2.2.1) ((f_Mo_run_5 ti xa xb it vs se rs wk n j 1000000000).2.2.2.2.2.1) ((f_Mo_run_5 ti xa xb it vs se rs wk n j 1000000000).2.2.2.2.2.2) ors owk
  | k + 1, i, mc, it, vs, se, sm, rs, wk, ors, owk => g_Mo_firstChange_5_38 kn ti xa xb n n2 j t u k (i + 1) mc it vs se sm rs wk (vp_updL ors i (rs i)) (upd owk i (wk i))

def f_Mo_firstChange_5 (kn : Nat → Int32) (ti : Nat → Int32) (xa : Nat → Int32) (xb : Nat → Int32) (it : Nat → Int32) (vs : Nat → Int32) (se : Nat → Int32) (rs : Nat → Int64) (wk : Nat → Int32) (ors : Nat → Int64) (owk : Nat → Int32) (n : Nat) (n2 : Nat) (j : Nat) (t : Int32) (u : Int32) : Int32 × Int32 × Int32 × (Nat → Int32) × (Nat → Int32) × (Nat → Int32) × Int64 × (Nat → Int64) × (Nat → Int32) × (Nat → Int64) × (Nat → Int32) := g_Mo_firstChange_5_38 kn ti xa xb n n2 j t u 32 0 ((f_Mo_run_5 ti xa xb it vs se rs wk n2 (j + 4) 1000000000).1) ((f_Mo_run_5 ti xa xb it vs se rs wk n2 (j + 4) 1000000000).2.1) ((f_Mo_run_5 ti xa xb it vs se rs wk n2 (j + 4) 1000000000).2.2.1) ((f_Mo_run_5 ti xa xb it vs se rs wk n2 (j + 4) 1000000000).2.2.2.1) ((f_Mo_run_5 ti xa xb it vs se rs wk n2 (j + 4) 1000000000).2.2.2.2.1) ((f_Mo_run_5 ti xa xb it vs se rs wk n2 (j + 4) 1000000000).2.2.2.2.2.1) ((f_Mo_run_5 ti xa xb it vs se rs wk n2 (j + 4) 1000000000).2.2.2.2.2.2) ors owk
set_option maxHeartbeats 4000000 in
set_option maxRecDepth 100000 in
theorem m_Mo_firstChange_5 (l : Launch) (D : va_G) (cI cJ cZ cO : ClassId) (a : Nat) (code : Int32) (kn : Nat → Int32) (ed : Nat → Int32) (ct : Nat → Int32) (ti : Nat → Int32) (nm : Nat → Int32) (xa : Nat → Int32) (xb : Nat → Int32) (ma : Int32) (it : Nat → Int32) (vs : Nat → Int32) (se : Nat → Int32) (sm : Int64) (rs : Nat → Int64) (wk : Nat → Int32) (ors : Nat → Int64) (owk : Nat → Int32) (n : Nat) (n2 : Nat) (j : Nat) (t : Int32) (u : Int32) (hj : j < 4) (hlk : (f_Mo_lacksTwo kn j t u).1 = 0) (hk : kn j = 6) (hct : ct j = nI n) (hn : n ≤ 32) (hop : ∀ i, i < n → (xa (32 * j + i) = nI (xa (32 * j + i)).toNatClampNeg ∧ (xa (32 * j + i)).toNatClampNeg < 16) ∧ (xb (32 * j + i) = nI (xb (32 * j + i)).toNatClampNeg ∧ (xb (32 * j + i)).toNatClampNeg < 16)) (hct2 : ct (j + 4) = nI n2) (hn2 : n2 ≤ 32) (hbz : bz wk) (hed : ¬ ed j = 0) (hop2 : ∀ i, i < n2 → (xa (32 * (j + 4) + i) = nI (xa (32 * (j + 4) + i)).toNatClampNeg ∧ (xa (32 * (j + 4) + i)).toNatClampNeg < 16) ∧ (xb (32 * (j + 4) + i) = nI (xb (32 * (j + 4) + i)).toNatClampNeg ∧ (xb (32 * (j + 4) + i)).toNatClampNeg < 16)) (R : Int32 × Int32 × Int32 × (Nat → Int32) × (Nat → Int32) × (Nat → Int32) × Int64 × (Nat → Int64) × (Nat → Int32) × (Nat → Int64) × (Nat → Int32)) (hR : f_Mo_firstChange_5 kn ti xa xb it vs se rs wk ors owk n n2 j t u = R) : Met l y_Md_firstChange (k_Md_firstChange :: gt) rm_Md_firstChange (Pc0 D cI cJ cZ cO [.ref a, .int (nI j), .int t, .int u] (fun H => va_P D cls (wMo cI cJ cZ a code kn ed ct ti nm xa xb ma it vs se sm rs wk ors owk) H)) (Qd (blk a 15) (some (.int R.1)) (fun H => va_P D cls (wMo cI cJ cZ a R.2.1 kn ed ct ti nm xa xb R.2.2.1 R.2.2.2.1 R.2.2.2.2.1 R.2.2.2.2.2.1 R.2.2.2.2.2.2.1 R.2.2.2.2.2.2.2.1 R.2.2.2.2.2.2.2.2.1 R.2.2.2.2.2.2.2.2.2.1 R.2.2.2.2.2.2.2.2.2.2) H)) 0 0 (blk a 15) := by
  refine Met.ofW (cc := c_Md_firstChange) (maxL := 9) (ret := (Option.some FieldType.int)) (by decide) rfl ?_
  intro p e s m args below meth c s₁ B hml hv
  obtain ⟨rfl, hKn, hP⟩ := hv
  have hx := B.exec
  have hb := B.bytes
  have hr := B.returns
  have hts := atoms_spec (ws := k_Md_firstChange :: gt) B.pre
  have hg : ∀ w ∈ gt, w.before _ s = true := fun w h => hts w (List.mem_cons_of_mem _ h)
  have hown : s.vm.findClass R_Md = some m.cls := findClass_of_methodNamed B.named
  have hlocks := B.notSynchronized
  have hK := hKn.1
  have hl := lv_entry ([.ref a, .int (nI j), .int t, .int u]) (n := 9) (Nat.le_of_ble_eq_true rfl)
  rw [lg_entry_eq]
  generalize (lg_sl ([.ref a, .int (nI j), .int t, .int u]) ++ List.replicate (9 - (lg_sl ([.ref a, .int (nI j), .int t, .int u])).length) Slot.unset).toArray = ls at hl ⊢
  have hl : lv_has ls 9 [(0, .ref a), (1, .int (nI j)), (2, .int t), (3, .int u)] := hl
  have hS : va_S (blk a 15) s.heap s.heap [] := va_S.rf
  have hD : va_D (blk a 15) (wMo cI cJ cZ a code kn ed ct ti nm xa xb ma it vs se sm rs wk ors owk) := (blk_D (wMo_in))
  have key_227 : ∀ (k : Nat) (i : Nat) (be : Int32) (mc : Int32) (it : Nat → Int32) (vs : Nat → Int32) (se : Nat → Int32) (sm : Int64) (rs : Nat → Int64) (wk : Nat → Int32) (ors : Nat → Int64) (owk : Nat → Int32) (H : Heap) (locs : List Loc) (ls : Array Slot), i + k = n2 → g_Mo_firstChange_5_227 kn ti n j t u k i be mc it vs se sm rs wk ors owk = R → lv_has ls 9 [(5, .int (nI i)), (4, .int be), (0, .ref a), (1, .int (nI j)), (2, .int t), (3, .int u)] → va_P D cls (wMo cI cJ cZ a ((f_Mo_lacksTwo kn j t u).2) kn ed ct ti nm xa xb mc it vs se sm rs wk ors owk) H → va_S (blk a 15) s.heap H locs → W p l e (headSpec (k_Md_firstChange :: gt) rm_Md_firstChange).room s m ([.ref a, .int (nI j), .int t, .int u] : List Value).toArray below meth c H locs 0 0 (MQ below (Qd (blk a 15) (some (.int R.1)) (fun H => va_P D cls (wMo cI cJ cZ a R.2.1 kn ed ct ti nm xa xb R.2.2.1 R.2.2.2.1 R.2.2.2.2.1 R.2.2.2.2.2.1 R.2.2.2.2.2.2.1 R.2.2.2.2.2.2.2.1 R.2.2.2.2.2.2.2.2.1 R.2.2.2.2.2.2.2.2.2.1 R.2.2.2.2.2.2.2.2.2.2) H)) ([.ref a, .int (nI j), .int t, .int u] : List Value).toArray s 0 0 (blk a 15)) (F0 m 227 ls []) := by
    intro k
    induction k with
    | zero =>
      intro i be mc it vs se sm rs wk ors owk H locs ls hi hR hl hP hS
      have hR : ((be, (f_Mo_lacksTwo kn j t u).2, mc, it, vs, se, sm, rs, wk, ors, owk)) = R := hR
      have hD : va_D (blk a 15) (wMo cI cJ cZ a ((f_Mo_lacksTwo kn j t u).2) kn ed ct ti nm xa xb mc it vs se sm rs wk ors owk) := (blk_D (wMo_in))
      refine lv_iload hx hb d_Md_firstChange_227 (lv_at hl 0 rfl) ?_
      refine lv_aload_n hx hb d_Md_firstChange_229 rfl (lv_at hl 2 rfl) ?_
      refine va_get (D := D) (ci := 9) (v := .ref (a + 3)) (C := R_Md) (T := F_Md) (N := 17) hx hb hg in_Md hown hK hP 0 rfl rfl 3 (Nat.le_of_ble_eq_true rfl) (hg _ tw_709) (fun _ h9 => h9) rfl d_Md_firstChange_230 ?_
      refine lv_iload_n hx hb d_Md_firstChange_233 rfl (lv_at hl 3 rfl) ?_
      refine lv_iconst (v := 4) hx hb d_Md_firstChange_234 (by decide) ?_
      refine lv_iadd hx hb d_Md_firstChange_235 ?_
      refine lv_topi (fun z9 e_z9 => ?_)
      obtain rfl : z9 = nI (j + 4) := by rw [e_z9]; exact (nI_add j 4)
      refine ep_iald hx hb hK hP 3 0 rfl rfl (i := (j + 4)) (by omega) (by decide) d_Md_firstChange_236 ?_
      refine lv_topi (fun z9 e_z9 => ?_)
      obtain rfl : z9 = nI n2 := by rw [e_z9]; exact hct2
      refine lv_icmp_ge (tgt := 305) hx hb d_Md_firstChange_237 (by decide) (fun hc => ?_) (fun hc => False.elim (by have hc : ¬ (n2 ≤ i) := fun h => hc (by exact (nI_leI (a := n2) (b := i) (by omega) (by omega)).mpr h); omega))
      refine lv_iload hx hb d_Md_firstChange_305 (lv_at hl 1 rfl) ?_
      subst hR
      exact W.iret (v := be) hx hb hr (fun t9 ht hW => ⟨rfl, hS.F ht, by rw [ht]; exact hP⟩) hS.2.2 d_Md_firstChange_307
    | succ k ih =>
      intro i be mc it vs se sm rs wk ors owk H locs ls hi hR hl hP hS
      have hR : (if ¬ (f_Mo_find ti n j (ti (32 * (j + 4) + i))) = -1 then (g_Mo_firstChange_5_227 kn ti n j t u k (i + 1) be mc it vs se sm rs wk ors owk) else (if (ti (32 * (j + 4) + i)) < t then (g_Mo_firstChange_5_227 kn ti n j t u k (i + 1) be mc it vs se sm rs wk ors owk) else (if u < (ti (32 * (j + 4) + i)) then (g_Mo_firstChange_5_227 kn ti n j t u k (i + 1) be mc it vs se sm rs wk ors owk) else (if be = 0 then (g_Mo_firstChange_5_227 kn ti n j t u k (i + 1) (ti (32 * (j + 4) + i)) mc it vs se sm rs wk ors owk) else (if be ≤ (ti (32 * (j + 4) + i)) then (g_Mo_firstChange_5_227 kn ti n j t u k (i + 1) be mc it vs se sm rs wk ors owk) else (g_Mo_firstChange_5_227 kn ti n j t u k (i + 1) (ti (32 * (j + 4) + i)) mc it vs se sm rs wk ors owk)))))) = R := hR
      have hD : va_D (blk a 15) (wMo cI cJ cZ a ((f_Mo_lacksTwo kn j t u).2) kn ed ct ti nm xa xb mc it vs se sm rs wk ors owk) := (blk_D (wMo_in))
      refine lv_iload hx hb d_Md_firstChange_227 (lv_at hl 0 rfl) ?_
      refine lv_aload_n hx hb d_Md_firstChange_229 rfl (lv_at hl 2 rfl) ?_
      refine va_get (D := D) (ci := 9) (v := .ref (a + 3)) (C := R_Md) (T := F_Md) (N := 17) hx hb hg in_Md hown hK hP 0 rfl rfl 3 (Nat.le_of_ble_eq_true rfl) (hg _ tw_709) (fun _ h9 => h9) rfl d_Md_firstChange_230 ?_
      refine lv_iload_n hx hb d_Md_firstChange_233 rfl (lv_at hl 3 rfl) ?_
      refine lv_iconst (v := 4) hx hb d_Md_firstChange_234 (by decide) ?_
      refine lv_iadd hx hb d_Md_firstChange_235 ?_
      refine lv_topi (fun z9 e_z9 => ?_)
      obtain rfl : z9 = nI (j + 4) := by rw [e_z9]; exact (nI_add j 4)
      refine ep_iald hx hb hK hP 3 0 rfl rfl (i := (j + 4)) (by omega) (by decide) d_Md_firstChange_236 ?_
      refine lv_topi (fun z9 e_z9 => ?_)
      obtain rfl : z9 = nI n2 := by rw [e_z9]; exact hct2
      refine lv_icmp_ge (tgt := 305) hx hb d_Md_firstChange_237 (by decide) (fun hc => False.elim (by have hc := (nI_leI (a := n2) (b := i) (by omega) (by omega)).mp hc; omega)) (fun hc => ?_)
      refine lv_aload_n hx hb d_Md_firstChange_240 rfl (lv_at hl 2 rfl) ?_
      refine va_get (D := D) (ci := 9) (v := .ref (a + 4)) (C := R_Md) (T := F_Md) (N := 17) hx hb hg in_Md hown hK hP 0 rfl rfl 4 (Nat.le_of_ble_eq_true rfl) (hg _ tw_710) (fun _ h9 => h9) rfl d_Md_firstChange_241 ?_
      refine lv_bipush (v := 32) hx hb d_Md_firstChange_244 (by decide) ?_
      refine lv_iload_n hx hb d_Md_firstChange_246 rfl (lv_at hl 3 rfl) ?_
      refine lv_iconst (v := 4) hx hb d_Md_firstChange_247 (by decide) ?_
      refine lv_iadd hx hb d_Md_firstChange_248 ?_
      refine lv_topi (fun z9 e_z9 => ?_)
      obtain rfl : z9 = nI (j + 4) := by rw [e_z9]; exact (nI_add j 4)
      refine lv_imul hx hb d_Md_firstChange_249 ?_
      refine lv_topi (fun z9 e_z9 => ?_)
      obtain rfl : z9 = nI (32 * (j + 4)) := by rw [e_z9]; exact (nI_mul 32 (j + 4))
      refine lv_iload hx hb d_Md_firstChange_250 (lv_at hl 0 rfl) ?_
      refine lv_iadd hx hb d_Md_firstChange_252 ?_
      refine lv_topi (fun z9 e_z9 => ?_)
      obtain rfl : z9 = nI (32 * (j + 4) + i) := by rw [e_z9]; exact (nI_add (32 * (j + 4)) i)
      refine ep_iald hx hb hK hP 4 0 rfl rfl (i := (32 * (j + 4) + i)) (by omega) (by decide) d_Md_firstChange_253 ?_
      refine lv_istore (lv' := [(6, .int (ti (32 * (j + 4) + i))), (5, .int (nI i)), (4, .int be), (0, .ref a), (1, .int (nI j)), (2, .int t), (3, .int u)]) hx hb d_Md_firstChange_254 hl (by decide) rfl (fun ls hl => ?_)
      refine lv_aload_n hx hb d_Md_firstChange_256 rfl (lv_at hl 3 rfl) ?_
      refine lv_iload_n hx hb d_Md_firstChange_257 rfl (lv_at hl 4 rfl) ?_
      refine lv_iload hx hb d_Md_firstChange_258 (lv_at hl 0 rfl) ?_
      refine ep_callP (W.runV (As := [.int (nI j), .int (ti (32 * (j + 4) + i))]) (rest := []) ⟨hx, hb, hml, hown, hg⟩ (m_Mo_find l D cI cJ cZ cO a ((f_Mo_lacksTwo kn j t u).2) kn ed ct ti nm xa xb mc it vs se sm rs wk ors owk n j (ti (32 * (j + 4) + i)) (by omega) hct (by omega) _ rfl) (ep_cwV 2 hg tw_785 tw_787 ts_10 tw_12 tk_Md_find rfl rfl (by decide +kernel) ⟨(Nat.le_of_ble_eq_true rfl), (Nat.le_of_ble_eq_true rfl)⟩) ⟨ep_blind, va_recv (q0 := 0) (ci := 9) hK hP rfl rfl, ep_pre hKn (hP)⟩ rfl rfl hl.1 rfl (lv_room (Nat.le_of_ble_eq_true rfl)) d_Md_firstChange_260 ⟨Nat.zero_le _, Nat.zero_le _⟩) ?_
      refine W.eq (g2 := F0 m 263 ls [.int (f_Mo_find ti n j (ti (32 * (j + 4) + i)))]) rfl ?_
      refine lv_topi (fun z8 e_z8 => ?_)
      obtain rfl : z8 = oI (¬ (f_Mo_find ti n j (ti (32 * (j + 4) + i))) = -1) ((f_Mo_find ti n j (ti (32 * (j + 4) + i))).toNatClampNeg) := by rw [e_z8]; exact (oI_of (fi_at _ _ _ _ (by omega)))
      by_cases hc1 : ¬ (f_Mo_find ti n j (ti (32 * (j + 4) + i))) = -1
      · rw [show oI (¬ (f_Mo_find ti n j (ti (32 * (j + 4) + i))) = -1) ((f_Mo_find ti n j (ti (32 * (j + 4) + i))).toNatClampNeg) = nI ((f_Mo_find ti n j (ti (32 * (j + 4) + i))).toNatClampNeg) from if_pos hc1]
        have hp9 : (f_Mo_find ti n j (ti (32 * (j + 4) + i))).toNatClampNeg < n := fi_lt _ _ _ _ (by omega) hc1
        refine lv_if_ge (tgt := 295) hx hb d_Md_firstChange_263 (by decide) (fun hc => ?_) (fun hc => False.elim (by have hc : ¬ (0 ≤ (f_Mo_find ti n j (ti (32 * (j + 4) + i))).toNatClampNeg) := fun h => hc (by exact (nI_leI (a := 0) (b := (f_Mo_find ti n j (ti (32 * (j + 4) + i))).toNatClampNeg) (by omega) (by omega)).mpr h); omega))
        refine lv_iload hx hb d_Md_firstChange_295 (lv_at hl 2 rfl) ?_
        refine lv_istore (lv' := [(4, .int be), (6, .int (ti (32 * (j + 4) + i))), (5, .int (nI i)), (0, .ref a), (1, .int (nI j)), (2, .int t), (3, .int u)]) hx hb d_Md_firstChange_297 hl (by decide) rfl (fun ls hl => ?_)
        refine lv_iinc (k := 2) (lv' := [(5, .int (nI (i + 1))), (4, .int be), (6, .int (ti (32 * (j + 4) + i))), (0, .ref a), (1, .int (nI j)), (2, .int t), (3, .int u)]) hx hb d_Md_firstChange_299 hl rfl (inc1 _) (by decide) rfl (fun ls hl => ?_)
        refine lv_goto (tgt := 227) hx hb d_Md_firstChange_302 (by decide) ?_
        rw [if_pos hc1] at hR
        exact ih (i + 1) be mc it vs se sm rs wk ors owk _ _ ls (by omega) hR (lv_sub hl [0, 1, 3, 4, 5, 6] rfl) hP hS
      · rw [show oI (¬ (f_Mo_find ti n j (ti (32 * (j + 4) + i))) = -1) ((f_Mo_find ti n j (ti (32 * (j + 4) + i))).toNatClampNeg) = -1 from if_neg hc1]
        refine lv_if_ge (tgt := 295) hx hb d_Md_firstChange_263 (by decide) (fun hc => False.elim (by revert hc; decide)) (fun hc => ?_)
        refine lv_iload hx hb d_Md_firstChange_266 (lv_at hl 0 rfl) ?_
        refine lv_iload_n hx hb d_Md_firstChange_268 rfl (lv_at hl 5 rfl) ?_
        refine lv_icmp_lt (tgt := 295) hx hb d_Md_firstChange_269 (by decide) (fun hc2 => ?_) (fun hc2 => ?_)
        · have hc2 : (ti (32 * (j + 4) + i)) < t := hc2
          refine lv_iload hx hb d_Md_firstChange_295 (lv_at hl 2 rfl) ?_
          refine lv_istore (lv' := [(4, .int be), (6, .int (ti (32 * (j + 4) + i))), (5, .int (nI i)), (0, .ref a), (1, .int (nI j)), (2, .int t), (3, .int u)]) hx hb d_Md_firstChange_297 hl (by decide) rfl (fun ls hl => ?_)
          refine lv_iinc (k := 2) (lv' := [(5, .int (nI (i + 1))), (4, .int be), (6, .int (ti (32 * (j + 4) + i))), (0, .ref a), (1, .int (nI j)), (2, .int t), (3, .int u)]) hx hb d_Md_firstChange_299 hl rfl (inc1 _) (by decide) rfl (fun ls hl => ?_)
          refine lv_goto (tgt := 227) hx hb d_Md_firstChange_302 (by decide) ?_
          rw [if_neg hc1, if_pos hc2] at hR
          exact ih (i + 1) be mc it vs se sm rs wk ors owk _ _ ls (by omega) hR (lv_sub hl [0, 1, 3, 4, 5, 6] rfl) hP hS
        · have hc2 : ¬ ((ti (32 * (j + 4) + i)) < t) := hc2
          refine lv_iload hx hb d_Md_firstChange_272 (lv_at hl 0 rfl) ?_
          refine lv_iload_n hx hb d_Md_firstChange_274 rfl (lv_at hl 6 rfl) ?_
          refine lv_icmp_gt (tgt := 295) hx hb d_Md_firstChange_275 (by decide) (fun hc3 => ?_) (fun hc3 => ?_)
          · have hc3 : u < (ti (32 * (j + 4) + i)) := hc3
            refine lv_iload hx hb d_Md_firstChange_295 (lv_at hl 2 rfl) ?_
            refine lv_istore (lv' := [(4, .int be), (6, .int (ti (32 * (j + 4) + i))), (5, .int (nI i)), (0, .ref a), (1, .int (nI j)), (2, .int t), (3, .int u)]) hx hb d_Md_firstChange_297 hl (by decide) rfl (fun ls hl => ?_)
            refine lv_iinc (k := 2) (lv' := [(5, .int (nI (i + 1))), (4, .int be), (6, .int (ti (32 * (j + 4) + i))), (0, .ref a), (1, .int (nI j)), (2, .int t), (3, .int u)]) hx hb d_Md_firstChange_299 hl rfl (inc1 _) (by decide) rfl (fun ls hl => ?_)
            refine lv_goto (tgt := 227) hx hb d_Md_firstChange_302 (by decide) ?_
            rw [if_neg hc1, if_neg hc2, if_pos hc3] at hR
            exact ih (i + 1) be mc it vs se sm rs wk ors owk _ _ ls (by omega) hR (lv_sub hl [0, 1, 3, 4, 5, 6] rfl) hP hS
          · have hc3 : ¬ (u < (ti (32 * (j + 4) + i))) := hc3
            refine lv_iload hx hb d_Md_firstChange_278 (lv_at hl 2 rfl) ?_
            refine lv_if_eq (tgt := 290) hx hb d_Md_firstChange_280 (by decide) (fun hc4 => ?_) (fun hc4 => ?_)
            · have hc4 : be = 0 := hc4
              refine lv_iload hx hb d_Md_firstChange_290 (lv_at hl 0 rfl) ?_
              refine lv_goto (tgt := 297) hx hb d_Md_firstChange_292 (by decide) ?_
              refine lv_istore (lv' := [(4, .int (ti (32 * (j + 4) + i))), (6, .int (ti (32 * (j + 4) + i))), (5, .int (nI i)), (0, .ref a), (1, .int (nI j)), (2, .int t), (3, .int u)]) hx hb d_Md_firstChange_297 hl (by decide) rfl (fun ls hl => ?_)
              refine lv_iinc (k := 2) (lv' := [(5, .int (nI (i + 1))), (4, .int (ti (32 * (j + 4) + i))), (6, .int (ti (32 * (j + 4) + i))), (0, .ref a), (1, .int (nI j)), (2, .int t), (3, .int u)]) hx hb d_Md_firstChange_299 hl rfl (inc1 _) (by decide) rfl (fun ls hl => ?_)
              refine lv_goto (tgt := 227) hx hb d_Md_firstChange_302 (by decide) ?_
              rw [if_neg hc1, if_neg hc2, if_neg hc3, if_pos hc4] at hR
              exact ih (i + 1) (ti (32 * (j + 4) + i)) mc it vs se sm rs wk ors owk _ _ ls (by omega) hR (lv_sub hl [0, 1, 3, 4, 5, 6] rfl) hP hS
            · have hc4 : ¬ (be = 0) := hc4
              refine lv_iload hx hb d_Md_firstChange_283 (lv_at hl 0 rfl) ?_
              refine lv_iload hx hb d_Md_firstChange_285 (lv_at hl 2 rfl) ?_
              refine lv_icmp_ge (tgt := 295) hx hb d_Md_firstChange_287 (by decide) (fun hc5 => ?_) (fun hc5 => ?_)
              · have hc5 : be ≤ (ti (32 * (j + 4) + i)) := hc5
                refine lv_iload hx hb d_Md_firstChange_295 (lv_at hl 2 rfl) ?_
                refine lv_istore (lv' := [(4, .int be), (6, .int (ti (32 * (j + 4) + i))), (5, .int (nI i)), (0, .ref a), (1, .int (nI j)), (2, .int t), (3, .int u)]) hx hb d_Md_firstChange_297 hl (by decide) rfl (fun ls hl => ?_)
                refine lv_iinc (k := 2) (lv' := [(5, .int (nI (i + 1))), (4, .int be), (6, .int (ti (32 * (j + 4) + i))), (0, .ref a), (1, .int (nI j)), (2, .int t), (3, .int u)]) hx hb d_Md_firstChange_299 hl rfl (inc1 _) (by decide) rfl (fun ls hl => ?_)
                refine lv_goto (tgt := 227) hx hb d_Md_firstChange_302 (by decide) ?_
                rw [if_neg hc1, if_neg hc2, if_neg hc3, if_neg hc4, if_pos hc5] at hR
                exact ih (i + 1) be mc it vs se sm rs wk ors owk _ _ ls (by omega) hR (lv_sub hl [0, 1, 3, 4, 5, 6] rfl) hP hS
              · have hc5 : ¬ (be ≤ (ti (32 * (j + 4) + i))) := hc5
                refine lv_iload hx hb d_Md_firstChange_290 (lv_at hl 0 rfl) ?_
                refine lv_goto (tgt := 297) hx hb d_Md_firstChange_292 (by decide) ?_
                refine lv_istore (lv' := [(4, .int (ti (32 * (j + 4) + i))), (6, .int (ti (32 * (j + 4) + i))), (5, .int (nI i)), (0, .ref a), (1, .int (nI j)), (2, .int t), (3, .int u)]) hx hb d_Md_firstChange_297 hl (by decide) rfl (fun ls hl => ?_)
                refine lv_iinc (k := 2) (lv' := [(5, .int (nI (i + 1))), (4, .int (ti (32 * (j + 4) + i))), (6, .int (ti (32 * (j + 4) + i))), (0, .ref a), (1, .int (nI j)), (2, .int t), (3, .int u)]) hx hb d_Md_firstChange_299 hl rfl (inc1 _) (by decide) rfl (fun ls hl => ?_)
                refine lv_goto (tgt := 227) hx hb d_Md_firstChange_302 (by decide) ?_
                rw [if_neg hc1, if_neg hc2, if_neg hc3, if_neg hc4, if_neg hc5] at hR
                exact ih (i + 1) (ti (32 * (j + 4) + i)) mc it vs se sm rs wk ors owk _ _ ls (by omega) hR (lv_sub hl [0, 1, 3, 4, 5, 6] rfl) hP hS
  have key_97 : ∀ (k : Nat) (i : Nat) (be : Int32) (mc : Int32) (it : Nat → Int32) (vs : Nat → Int32) (se : Nat → Int32) (sm : Int64) (rs : Nat → Int64) (wk : Nat → Int32) (ors : Nat → Int64) (owk : Nat → Int32) (H : Heap) (locs : List Loc) (ls : Array Slot), i + k = n → g_Mo_firstChange_5_97 kn ti n n2 j t u k i be mc it vs se sm rs wk ors owk = R → lv_has ls 9 [(5, .int (nI i)), (4, .int be), (0, .ref a), (1, .int (nI j)), (2, .int t), (3, .int u)] → va_P D cls (wMo cI cJ cZ a ((f_Mo_lacksTwo kn j t u).2) kn ed ct ti nm xa xb mc it vs se sm rs wk ors owk) H → va_S (blk a 15) s.heap H locs → W p l e (headSpec (k_Md_firstChange :: gt) rm_Md_firstChange).room s m ([.ref a, .int (nI j), .int t, .int u] : List Value).toArray below meth c H locs 0 0 (MQ below (Qd (blk a 15) (some (.int R.1)) (fun H => va_P D cls (wMo cI cJ cZ a R.2.1 kn ed ct ti nm xa xb R.2.2.1 R.2.2.2.1 R.2.2.2.2.1 R.2.2.2.2.2.1 R.2.2.2.2.2.2.1 R.2.2.2.2.2.2.2.1 R.2.2.2.2.2.2.2.2.1 R.2.2.2.2.2.2.2.2.2.1 R.2.2.2.2.2.2.2.2.2.2) H)) ([.ref a, .int (nI j), .int t, .int u] : List Value).toArray s 0 0 (blk a 15)) (F0 m 97 ls []) := by
    intro k
    induction k with
    | zero =>
      intro i be mc it vs se sm rs wk ors owk H locs ls hi hR hl hP hS
      have hR : (g_Mo_firstChange_5_227 kn ti n j t u n2 0 be mc it vs se sm rs wk ors owk) = R := hR
      have hD : va_D (blk a 15) (wMo cI cJ cZ a ((f_Mo_lacksTwo kn j t u).2) kn ed ct ti nm xa xb mc it vs se sm rs wk ors owk) := (blk_D (wMo_in))
      refine lv_iload hx hb d_Md_firstChange_97 (lv_at hl 0 rfl) ?_
      refine lv_aload_n hx hb d_Md_firstChange_99 rfl (lv_at hl 2 rfl) ?_
      refine va_get (D := D) (ci := 9) (v := .ref (a + 3)) (C := R_Md) (T := F_Md) (N := 17) hx hb hg in_Md hown hK hP 0 rfl rfl 3 (Nat.le_of_ble_eq_true rfl) (hg _ tw_709) (fun _ h9 => h9) rfl d_Md_firstChange_100 ?_
      refine lv_iload_n hx hb d_Md_firstChange_103 rfl (lv_at hl 3 rfl) ?_
      refine ep_iald hx hb hK hP 3 0 rfl rfl (i := j) (by omega) (by decide) d_Md_firstChange_104 ?_
      refine lv_topi (fun z9 e_z9 => ?_)
      obtain rfl : z9 = nI n := by rw [e_z9]; exact hct
      refine lv_icmp_ge (tgt := 224) hx hb d_Md_firstChange_105 (by decide) (fun hc => ?_) (fun hc => False.elim (by have hc : ¬ (n ≤ i) := fun h => hc (by exact (nI_leI (a := n) (b := i) (by omega) (by omega)).mpr h); omega))
      refine lv_iconst (v := 0) hx hb d_Md_firstChange_224 (by decide) ?_
      refine lv_istore (lv' := [(5, .int 0), (4, .int be), (0, .ref a), (1, .int (nI j)), (2, .int t), (3, .int u)]) hx hb d_Md_firstChange_225 hl (by decide) rfl (fun ls hl => ?_)
      exact key_227 n2 0 be mc it vs se sm rs wk ors owk _ _ ls (by omega) hR hl hP hS
    | succ k ih =>
      intro i be mc it vs se sm rs wk ors owk H locs ls hi hR hl hP hS
      have hR : (if ¬ (f_Mo_find ti n2 (j + 4) (ti (32 * j + i))) = -1 then (if (lg_cmp (ors ((f_Mo_find ti n2 (j + 4) (ti (32 * j + i))).toNatClampNeg)) (rs i)) = 0 then (if (owk ((f_Mo_find ti n2 (j + 4) (ti (32 * j + i))).toNatClampNeg)) = (wk i) then (g_Mo_firstChange_5_97 kn ti n n2 j t u k (i + 1) be mc it vs se sm rs wk ors owk) else (if (ti (32 * j + i)) < t then (g_Mo_firstChange_5_97 kn ti n n2 j t u k (i + 1) be mc it vs se sm rs wk ors owk) else (if u < (ti (32 * j + i)) then (g_Mo_firstChange_5_97 kn ti n n2 j t u k (i + 1) be mc it vs se sm rs wk ors owk) else (if be = 0 then (g_Mo_firstChange_5_97 kn ti n n2 j t u k (i + 1) (ti (32 * j + i)) mc it vs se sm rs wk ors owk) else (if be ≤ (ti (32 * j + i)) then (g_Mo_firstChange_5_97 kn ti n n2 j t u k (i + 1) be mc it vs se sm rs wk ors owk) else (g_Mo_firstChange_5_97 kn ti n n2 j t u k (i + 1) (ti (32 * j + i)) mc it vs se sm rs wk ors owk)))))) else (if (ti (32 * j + i)) < t then (g_Mo_firstChange_5_97 kn ti n n2 j t u k (i + 1) be mc it vs se sm rs wk ors owk) else (if u < (ti (32 * j + i)) then (g_Mo_firstChange_5_97 kn ti n n2 j t u k (i + 1) be mc it vs se sm rs wk ors owk) else (if be = 0 then (g_Mo_firstChange_5_97 kn ti n n2 j t u k (i + 1) (ti (32 * j + i)) mc it vs se sm rs wk ors owk) else (if be ≤ (ti (32 * j + i)) then (g_Mo_firstChange_5_97 kn ti n n2 j t u k (i + 1) be mc it vs se sm rs wk ors owk) else (g_Mo_firstChange_5_97 kn ti n n2 j t u k (i + 1) (ti (32 * j + i)) mc it vs se sm rs wk ors owk)))))) else (if (ti (32 * j + i)) < t then (g_Mo_firstChange_5_97 kn ti n n2 j t u k (i + 1) be mc it vs se sm rs wk ors owk) else (if u < (ti (32 * j + i)) then (g_Mo_firstChange_5_97 kn ti n n2 j t u k (i + 1) be mc it vs se sm rs wk ors owk) else (if be = 0 then (g_Mo_firstChange_5_97 kn ti n n2 j t u k (i + 1) (ti (32 * j + i)) mc it vs se sm rs wk ors owk) else (if be ≤ (ti (32 * j + i)) then (g_Mo_firstChange_5_97 kn ti n n2 j t u k (i + 1) be mc it vs se sm rs wk ors owk) else (g_Mo_firstChange_5_97 kn ti n n2 j t u k (i + 1) (ti (32 * j + i)) mc it vs se sm rs wk ors owk)))))) = R := hR
      have hD : va_D (blk a 15) (wMo cI cJ cZ a ((f_Mo_lacksTwo kn j t u).2) kn ed ct ti nm xa xb mc it vs se sm rs wk ors owk) := (blk_D (wMo_in))
      refine lv_iload hx hb d_Md_firstChange_97 (lv_at hl 0 rfl) ?_
      refine lv_aload_n hx hb d_Md_firstChange_99 rfl (lv_at hl 2 rfl) ?_
      refine va_get (D := D) (ci := 9) (v := .ref (a + 3)) (C := R_Md) (T := F_Md) (N := 17) hx hb hg in_Md hown hK hP 0 rfl rfl 3 (Nat.le_of_ble_eq_true rfl) (hg _ tw_709) (fun _ h9 => h9) rfl d_Md_firstChange_100 ?_
      refine lv_iload_n hx hb d_Md_firstChange_103 rfl (lv_at hl 3 rfl) ?_
      refine ep_iald hx hb hK hP 3 0 rfl rfl (i := j) (by omega) (by decide) d_Md_firstChange_104 ?_
      refine lv_topi (fun z9 e_z9 => ?_)
      obtain rfl : z9 = nI n := by rw [e_z9]; exact hct
      refine lv_icmp_ge (tgt := 224) hx hb d_Md_firstChange_105 (by decide) (fun hc => False.elim (by have hc := (nI_leI (a := n) (b := i) (by omega) (by omega)).mp hc; omega)) (fun hc => ?_)
      refine lv_aload_n hx hb d_Md_firstChange_108 rfl (lv_at hl 2 rfl) ?_
      refine va_get (D := D) (ci := 9) (v := .ref (a + 4)) (C := R_Md) (T := F_Md) (N := 17) hx hb hg in_Md hown hK hP 0 rfl rfl 4 (Nat.le_of_ble_eq_true rfl) (hg _ tw_710) (fun _ h9 => h9) rfl d_Md_firstChange_109 ?_
      refine lv_bipush (v := 32) hx hb d_Md_firstChange_112 (by decide) ?_
      refine lv_iload_n hx hb d_Md_firstChange_114 rfl (lv_at hl 3 rfl) ?_
      refine lv_imul hx hb d_Md_firstChange_115 ?_
      refine lv_topi (fun z9 e_z9 => ?_)
      obtain rfl : z9 = nI (32 * j) := by rw [e_z9]; exact (nI_mul 32 j)
      refine lv_iload hx hb d_Md_firstChange_116 (lv_at hl 0 rfl) ?_
      refine lv_iadd hx hb d_Md_firstChange_118 ?_
      refine lv_topi (fun z9 e_z9 => ?_)
      obtain rfl : z9 = nI (32 * j + i) := by rw [e_z9]; exact (nI_add (32 * j) i)
      refine ep_iald hx hb hK hP 4 0 rfl rfl (i := (32 * j + i)) (by omega) (by decide) d_Md_firstChange_119 ?_
      refine lv_istore (lv' := [(6, .int (ti (32 * j + i))), (5, .int (nI i)), (4, .int be), (0, .ref a), (1, .int (nI j)), (2, .int t), (3, .int u)]) hx hb d_Md_firstChange_120 hl (by decide) rfl (fun ls hl => ?_)
      refine lv_aload_n hx hb d_Md_firstChange_122 rfl (lv_at hl 3 rfl) ?_
      refine lv_iload_n hx hb d_Md_firstChange_123 rfl (lv_at hl 4 rfl) ?_
      refine lv_iconst (v := 4) hx hb d_Md_firstChange_124 (by decide) ?_
      refine lv_iadd hx hb d_Md_firstChange_125 ?_
      refine lv_topi (fun z9 e_z9 => ?_)
      obtain rfl : z9 = nI (j + 4) := by rw [e_z9]; exact (nI_add j 4)
      refine lv_iload hx hb d_Md_firstChange_126 (lv_at hl 0 rfl) ?_
      refine ep_callP (W.runV (As := [.int (nI (j + 4)), .int (ti (32 * j + i))]) (rest := []) ⟨hx, hb, hml, hown, hg⟩ (m_Mo_find l D cI cJ cZ cO a ((f_Mo_lacksTwo kn j t u).2) kn ed ct ti nm xa xb mc it vs se sm rs wk ors owk n2 (j + 4) (ti (32 * j + i)) (by omega) hct2 (by omega) _ rfl) (ep_cwV 2 hg tw_785 tw_787 ts_10 tw_12 tk_Md_find rfl rfl (by decide +kernel) ⟨(Nat.le_of_ble_eq_true rfl), (Nat.le_of_ble_eq_true rfl)⟩) ⟨ep_blind, va_recv (q0 := 0) (ci := 9) hK hP rfl rfl, ep_pre hKn (hP)⟩ rfl rfl hl.1 rfl (lv_room (Nat.le_of_ble_eq_true rfl)) d_Md_firstChange_128 ⟨Nat.zero_le _, Nat.zero_le _⟩) ?_
      refine W.eq (g2 := F0 m 131 ls [.int (f_Mo_find ti n2 (j + 4) (ti (32 * j + i)))]) rfl ?_
      refine lv_topi (fun z8 e_z8 => ?_)
      obtain rfl : z8 = oI (¬ (f_Mo_find ti n2 (j + 4) (ti (32 * j + i))) = -1) ((f_Mo_find ti n2 (j + 4) (ti (32 * j + i))).toNatClampNeg) := by rw [e_z8]; exact (oI_of (fi_at _ _ _ _ (by omega)))
      by_cases hc6 : ¬ (f_Mo_find ti n2 (j + 4) (ti (32 * j + i))) = -1
      · rw [show oI (¬ (f_Mo_find ti n2 (j + 4) (ti (32 * j + i))) = -1) ((f_Mo_find ti n2 (j + 4) (ti (32 * j + i))).toNatClampNeg) = nI ((f_Mo_find ti n2 (j + 4) (ti (32 * j + i))).toNatClampNeg) from if_pos hc6]
        have hp9 : (f_Mo_find ti n2 (j + 4) (ti (32 * j + i))).toNatClampNeg < n2 := fi_lt _ _ _ _ (by omega) hc6
        refine lv_istore (lv' := [(7, .int (nI ((f_Mo_find ti n2 (j + 4) (ti (32 * j + i))).toNatClampNeg))), (6, .int (ti (32 * j + i))), (5, .int (nI i)), (4, .int be), (0, .ref a), (1, .int (nI j)), (2, .int t), (3, .int u)]) hx hb d_Md_firstChange_131 hl (by decide) rfl (fun ls hl => ?_)
        refine lv_iload hx hb d_Md_firstChange_133 (lv_at hl 0 rfl) ?_
        refine lv_if_lt (tgt := 173) hx hb d_Md_firstChange_135 (by decide) (fun hc => False.elim (by have hc := (nI_ltI (a := (f_Mo_find ti n2 (j + 4) (ti (32 * j + i))).toNatClampNeg) (b := 0) (by omega) (by omega)).mp hc; omega)) (fun hc => ?_)
        refine lv_aload_n hx hb d_Md_firstChange_138 rfl (lv_at hl 4 rfl) ?_
        refine va_get (D := D) (ci := 9) (v := .ref (a + 13)) (C := R_Md) (T := F_Md) (N := 17) hx hb hg in_Md hown hK hP 0 rfl rfl 15 (Nat.le_of_ble_eq_true rfl) (hg _ tw_721) (fun _ h9 => h9) rfl d_Md_firstChange_139 ?_
        refine lv_iload hx hb d_Md_firstChange_142 (lv_at hl 0 rfl) ?_
        refine ep_lald hx hb hK hP 13 1 rfl rfl (i := ((f_Mo_find ti n2 (j + 4) (ti (32 * j + i))).toNatClampNeg)) (by omega) (by decide) d_Md_firstChange_144 ?_
        refine lv_aload_n hx hb d_Md_firstChange_145 rfl (lv_at hl 4 rfl) ?_
        refine va_get (D := D) (ci := 9) (v := .ref (a + 11)) (C := R_Md) (T := F_Md) (N := 17) hx hb hg in_Md hown hK hP 0 rfl rfl 13 (Nat.le_of_ble_eq_true rfl) (hg _ tw_719) (fun _ h9 => h9) rfl d_Md_firstChange_146 ?_
        refine lv_iload hx hb d_Md_firstChange_149 (lv_at hl 2 rfl) ?_
        refine ep_lald hx hb hK hP 11 1 rfl rfl (i := i) (by omega) (by decide) d_Md_firstChange_151 ?_
        refine W.lcmp hx hb d_Md_firstChange_152 ?_
        refine lv_if_ne (tgt := 173) hx hb d_Md_firstChange_153 (by decide) (fun hc7 => ?_) (fun hc7 => ?_)
        · have hc7 : ¬ ((lg_cmp (ors ((f_Mo_find ti n2 (j + 4) (ti (32 * j + i))).toNatClampNeg)) (rs i)) = 0) := hc7
          refine lv_iconst (v := 1) hx hb d_Md_firstChange_173 (by decide) ?_
          refine lv_goto (tgt := 178) hx hb d_Md_firstChange_174 (by decide) ?_
          refine lv_istore (lv' := [(8, .int 1), (7, .int (nI ((f_Mo_find ti n2 (j + 4) (ti (32 * j + i))).toNatClampNeg))), (6, .int (ti (32 * j + i))), (5, .int (nI i)), (4, .int be), (0, .ref a), (1, .int (nI j)), (2, .int t), (3, .int u)]) hx hb d_Md_firstChange_178 hl (by decide) rfl (fun ls hl => ?_)
          refine lv_iload hx hb d_Md_firstChange_180 (lv_at hl 0 rfl) ?_
          refine lv_if_eq (tgt := 214) hx hb d_Md_firstChange_182 (by decide) (fun hc => False.elim (by revert hc; decide)) (fun hc => ?_)
          refine lv_iload hx hb d_Md_firstChange_185 (lv_at hl 2 rfl) ?_
          refine lv_iload_n hx hb d_Md_firstChange_187 rfl (lv_at hl 7 rfl) ?_
          refine lv_icmp_lt (tgt := 214) hx hb d_Md_firstChange_188 (by decide) (fun hc8 => ?_) (fun hc8 => ?_)
          · have hc8 : (ti (32 * j + i)) < t := hc8
            refine lv_iload hx hb d_Md_firstChange_214 (lv_at hl 4 rfl) ?_
            refine lv_istore (lv' := [(4, .int be), (8, .int 1), (7, .int (nI ((f_Mo_find ti n2 (j + 4) (ti (32 * j + i))).toNatClampNeg))), (6, .int (ti (32 * j + i))), (5, .int (nI i)), (0, .ref a), (1, .int (nI j)), (2, .int t), (3, .int u)]) hx hb d_Md_firstChange_216 hl (by decide) rfl (fun ls hl => ?_)
            refine lv_iinc (k := 4) (lv' := [(5, .int (nI (i + 1))), (4, .int be), (8, .int 1), (7, .int (nI ((f_Mo_find ti n2 (j + 4) (ti (32 * j + i))).toNatClampNeg))), (6, .int (ti (32 * j + i))), (0, .ref a), (1, .int (nI j)), (2, .int t), (3, .int u)]) hx hb d_Md_firstChange_218 hl rfl (inc1 _) (by decide) rfl (fun ls hl => ?_)
            refine lv_goto (tgt := 97) hx hb d_Md_firstChange_221 (by decide) ?_
            rw [if_pos hc6, if_neg hc7, if_pos hc8] at hR
            exact ih (i + 1) be mc it vs se sm rs wk ors owk _ _ ls (by omega) hR (lv_sub hl [0, 1, 5, 6, 7, 8] rfl) hP hS
          · have hc8 : ¬ ((ti (32 * j + i)) < t) := hc8
            refine lv_iload hx hb d_Md_firstChange_191 (lv_at hl 2 rfl) ?_
            refine lv_iload_n hx hb d_Md_firstChange_193 rfl (lv_at hl 8 rfl) ?_
            refine lv_icmp_gt (tgt := 214) hx hb d_Md_firstChange_194 (by decide) (fun hc9 => ?_) (fun hc9 => ?_)
            · have hc9 : u < (ti (32 * j + i)) := hc9
              refine lv_iload hx hb d_Md_firstChange_214 (lv_at hl 4 rfl) ?_
              refine lv_istore (lv' := [(4, .int be), (8, .int 1), (7, .int (nI ((f_Mo_find ti n2 (j + 4) (ti (32 * j + i))).toNatClampNeg))), (6, .int (ti (32 * j + i))), (5, .int (nI i)), (0, .ref a), (1, .int (nI j)), (2, .int t), (3, .int u)]) hx hb d_Md_firstChange_216 hl (by decide) rfl (fun ls hl => ?_)
              refine lv_iinc (k := 4) (lv' := [(5, .int (nI (i + 1))), (4, .int be), (8, .int 1), (7, .int (nI ((f_Mo_find ti n2 (j + 4) (ti (32 * j + i))).toNatClampNeg))), (6, .int (ti (32 * j + i))), (0, .ref a), (1, .int (nI j)), (2, .int t), (3, .int u)]) hx hb d_Md_firstChange_218 hl rfl (inc1 _) (by decide) rfl (fun ls hl => ?_)
              refine lv_goto (tgt := 97) hx hb d_Md_firstChange_221 (by decide) ?_
              rw [if_pos hc6, if_neg hc7, if_neg hc8, if_pos hc9] at hR
              exact ih (i + 1) be mc it vs se sm rs wk ors owk _ _ ls (by omega) hR (lv_sub hl [0, 1, 5, 6, 7, 8] rfl) hP hS
            · have hc9 : ¬ (u < (ti (32 * j + i))) := hc9
              refine lv_iload hx hb d_Md_firstChange_197 (lv_at hl 4 rfl) ?_
              refine lv_if_eq (tgt := 209) hx hb d_Md_firstChange_199 (by decide) (fun hc10 => ?_) (fun hc10 => ?_)
              · have hc10 : be = 0 := hc10
                refine lv_iload hx hb d_Md_firstChange_209 (lv_at hl 2 rfl) ?_
                refine lv_goto (tgt := 216) hx hb d_Md_firstChange_211 (by decide) ?_
                refine lv_istore (lv' := [(4, .int (ti (32 * j + i))), (8, .int 1), (7, .int (nI ((f_Mo_find ti n2 (j + 4) (ti (32 * j + i))).toNatClampNeg))), (6, .int (ti (32 * j + i))), (5, .int (nI i)), (0, .ref a), (1, .int (nI j)), (2, .int t), (3, .int u)]) hx hb d_Md_firstChange_216 hl (by decide) rfl (fun ls hl => ?_)
                refine lv_iinc (k := 4) (lv' := [(5, .int (nI (i + 1))), (4, .int (ti (32 * j + i))), (8, .int 1), (7, .int (nI ((f_Mo_find ti n2 (j + 4) (ti (32 * j + i))).toNatClampNeg))), (6, .int (ti (32 * j + i))), (0, .ref a), (1, .int (nI j)), (2, .int t), (3, .int u)]) hx hb d_Md_firstChange_218 hl rfl (inc1 _) (by decide) rfl (fun ls hl => ?_)
                refine lv_goto (tgt := 97) hx hb d_Md_firstChange_221 (by decide) ?_
                rw [if_pos hc6, if_neg hc7, if_neg hc8, if_neg hc9, if_pos hc10] at hR
                exact ih (i + 1) (ti (32 * j + i)) mc it vs se sm rs wk ors owk _ _ ls (by omega) hR (lv_sub hl [0, 1, 5, 6, 7, 8] rfl) hP hS
              · have hc10 : ¬ (be = 0) := hc10
                refine lv_iload hx hb d_Md_firstChange_202 (lv_at hl 2 rfl) ?_
                refine lv_iload hx hb d_Md_firstChange_204 (lv_at hl 4 rfl) ?_
                refine lv_icmp_ge (tgt := 214) hx hb d_Md_firstChange_206 (by decide) (fun hc11 => ?_) (fun hc11 => ?_)
                · have hc11 : be ≤ (ti (32 * j + i)) := hc11
                  refine lv_iload hx hb d_Md_firstChange_214 (lv_at hl 4 rfl) ?_
                  refine lv_istore (lv' := [(4, .int be), (8, .int 1), (7, .int (nI ((f_Mo_find ti n2 (j + 4) (ti (32 * j + i))).toNatClampNeg))), (6, .int (ti (32 * j + i))), (5, .int (nI i)), (0, .ref a), (1, .int (nI j)), (2, .int t), (3, .int u)]) hx hb d_Md_firstChange_216 hl (by decide) rfl (fun ls hl => ?_)
                  refine lv_iinc (k := 4) (lv' := [(5, .int (nI (i + 1))), (4, .int be), (8, .int 1), (7, .int (nI ((f_Mo_find ti n2 (j + 4) (ti (32 * j + i))).toNatClampNeg))), (6, .int (ti (32 * j + i))), (0, .ref a), (1, .int (nI j)), (2, .int t), (3, .int u)]) hx hb d_Md_firstChange_218 hl rfl (inc1 _) (by decide) rfl (fun ls hl => ?_)
                  refine lv_goto (tgt := 97) hx hb d_Md_firstChange_221 (by decide) ?_
                  rw [if_pos hc6, if_neg hc7, if_neg hc8, if_neg hc9, if_neg hc10, if_pos hc11] at hR
                  exact ih (i + 1) be mc it vs se sm rs wk ors owk _ _ ls (by omega) hR (lv_sub hl [0, 1, 5, 6, 7, 8] rfl) hP hS
                · have hc11 : ¬ (be ≤ (ti (32 * j + i))) := hc11
                  refine lv_iload hx hb d_Md_firstChange_209 (lv_at hl 2 rfl) ?_
                  refine lv_goto (tgt := 216) hx hb d_Md_firstChange_211 (by decide) ?_
                  refine lv_istore (lv' := [(4, .int (ti (32 * j + i))), (8, .int 1), (7, .int (nI ((f_Mo_find ti n2 (j + 4) (ti (32 * j + i))).toNatClampNeg))), (6, .int (ti (32 * j + i))), (5, .int (nI i)), (0, .ref a), (1, .int (nI j)), (2, .int t), (3, .int u)]) hx hb d_Md_firstChange_216 hl (by decide) rfl (fun ls hl => ?_)
                  refine lv_iinc (k := 4) (lv' := [(5, .int (nI (i + 1))), (4, .int (ti (32 * j + i))), (8, .int 1), (7, .int (nI ((f_Mo_find ti n2 (j + 4) (ti (32 * j + i))).toNatClampNeg))), (6, .int (ti (32 * j + i))), (0, .ref a), (1, .int (nI j)), (2, .int t), (3, .int u)]) hx hb d_Md_firstChange_218 hl rfl (inc1 _) (by decide) rfl (fun ls hl => ?_)
                  refine lv_goto (tgt := 97) hx hb d_Md_firstChange_221 (by decide) ?_
                  rw [if_pos hc6, if_neg hc7, if_neg hc8, if_neg hc9, if_neg hc10, if_neg hc11] at hR
                  exact ih (i + 1) (ti (32 * j + i)) mc it vs se sm rs wk ors owk _ _ ls (by omega) hR (lv_sub hl [0, 1, 5, 6, 7, 8] rfl) hP hS
        · have hc7 : (lg_cmp (ors ((f_Mo_find ti n2 (j + 4) (ti (32 * j + i))).toNatClampNeg)) (rs i)) = 0 := hc7
          refine lv_aload_n hx hb d_Md_firstChange_156 rfl (lv_at hl 4 rfl) ?_
          refine va_get (D := D) (ci := 9) (v := .ref (a + 14)) (C := R_Md) (T := F_Md) (N := 17) hx hb hg in_Md hown hK hP 0 rfl rfl 16 (Nat.le_of_ble_eq_true rfl) (hg _ tw_722) (fun _ h9 => h9) rfl d_Md_firstChange_157 ?_
          refine lv_iload hx hb d_Md_firstChange_160 (lv_at hl 0 rfl) ?_
          refine ep_zald hx hb hK hP 14 2 rfl rfl (i := ((f_Mo_find ti n2 (j + 4) (ti (32 * j + i))).toNatClampNeg)) (by omega) (by decide) d_Md_firstChange_162 ?_
          refine lv_aload_n hx hb d_Md_firstChange_163 rfl (lv_at hl 4 rfl) ?_
          refine va_get (D := D) (ci := 9) (v := .ref (a + 12)) (C := R_Md) (T := F_Md) (N := 17) hx hb hg in_Md hown hK hP 0 rfl rfl 14 (Nat.le_of_ble_eq_true rfl) (hg _ tw_720) (fun _ h9 => h9) rfl d_Md_firstChange_164 ?_
          refine lv_iload hx hb d_Md_firstChange_167 (lv_at hl 2 rfl) ?_
          refine ep_zald hx hb hK hP 12 2 rfl rfl (i := i) (by omega) (by decide) d_Md_firstChange_169 ?_
          refine lv_icmp_eq (tgt := 177) hx hb d_Md_firstChange_170 (by decide) (fun hc12 => ?_) (fun hc12 => ?_)
          · have hc12 : (owk ((f_Mo_find ti n2 (j + 4) (ti (32 * j + i))).toNatClampNeg)) = (wk i) := hc12
            refine lv_iconst (v := 0) hx hb d_Md_firstChange_177 (by decide) ?_
            refine lv_istore (lv' := [(8, .int 0), (7, .int (nI ((f_Mo_find ti n2 (j + 4) (ti (32 * j + i))).toNatClampNeg))), (6, .int (ti (32 * j + i))), (5, .int (nI i)), (4, .int be), (0, .ref a), (1, .int (nI j)), (2, .int t), (3, .int u)]) hx hb d_Md_firstChange_178 hl (by decide) rfl (fun ls hl => ?_)
            refine lv_iload hx hb d_Md_firstChange_180 (lv_at hl 0 rfl) ?_
            refine lv_if_eq (tgt := 214) hx hb d_Md_firstChange_182 (by decide) (fun hc => ?_) (fun hc => False.elim (by revert hc; decide))
            refine lv_iload hx hb d_Md_firstChange_214 (lv_at hl 4 rfl) ?_
            refine lv_istore (lv' := [(4, .int be), (8, .int 0), (7, .int (nI ((f_Mo_find ti n2 (j + 4) (ti (32 * j + i))).toNatClampNeg))), (6, .int (ti (32 * j + i))), (5, .int (nI i)), (0, .ref a), (1, .int (nI j)), (2, .int t), (3, .int u)]) hx hb d_Md_firstChange_216 hl (by decide) rfl (fun ls hl => ?_)
            refine lv_iinc (k := 4) (lv' := [(5, .int (nI (i + 1))), (4, .int be), (8, .int 0), (7, .int (nI ((f_Mo_find ti n2 (j + 4) (ti (32 * j + i))).toNatClampNeg))), (6, .int (ti (32 * j + i))), (0, .ref a), (1, .int (nI j)), (2, .int t), (3, .int u)]) hx hb d_Md_firstChange_218 hl rfl (inc1 _) (by decide) rfl (fun ls hl => ?_)
            refine lv_goto (tgt := 97) hx hb d_Md_firstChange_221 (by decide) ?_
            rw [if_pos hc6, if_pos hc7, if_pos hc12] at hR
            exact ih (i + 1) be mc it vs se sm rs wk ors owk _ _ ls (by omega) hR (lv_sub hl [0, 1, 5, 6, 7, 8] rfl) hP hS
          · have hc12 : ¬ ((owk ((f_Mo_find ti n2 (j + 4) (ti (32 * j + i))).toNatClampNeg)) = (wk i)) := hc12
            refine lv_iconst (v := 1) hx hb d_Md_firstChange_173 (by decide) ?_
            refine lv_goto (tgt := 178) hx hb d_Md_firstChange_174 (by decide) ?_
            refine lv_istore (lv' := [(8, .int 1), (7, .int (nI ((f_Mo_find ti n2 (j + 4) (ti (32 * j + i))).toNatClampNeg))), (6, .int (ti (32 * j + i))), (5, .int (nI i)), (4, .int be), (0, .ref a), (1, .int (nI j)), (2, .int t), (3, .int u)]) hx hb d_Md_firstChange_178 hl (by decide) rfl (fun ls hl => ?_)
            refine lv_iload hx hb d_Md_firstChange_180 (lv_at hl 0 rfl) ?_
            refine lv_if_eq (tgt := 214) hx hb d_Md_firstChange_182 (by decide) (fun hc => False.elim (by revert hc; decide)) (fun hc => ?_)
            refine lv_iload hx hb d_Md_firstChange_185 (lv_at hl 2 rfl) ?_
            refine lv_iload_n hx hb d_Md_firstChange_187 rfl (lv_at hl 7 rfl) ?_
            refine lv_icmp_lt (tgt := 214) hx hb d_Md_firstChange_188 (by decide) (fun hc13 => ?_) (fun hc13 => ?_)
            · have hc13 : (ti (32 * j + i)) < t := hc13
              refine lv_iload hx hb d_Md_firstChange_214 (lv_at hl 4 rfl) ?_
              refine lv_istore (lv' := [(4, .int be), (8, .int 1), (7, .int (nI ((f_Mo_find ti n2 (j + 4) (ti (32 * j + i))).toNatClampNeg))), (6, .int (ti (32 * j + i))), (5, .int (nI i)), (0, .ref a), (1, .int (nI j)), (2, .int t), (3, .int u)]) hx hb d_Md_firstChange_216 hl (by decide) rfl (fun ls hl => ?_)
              refine lv_iinc (k := 4) (lv' := [(5, .int (nI (i + 1))), (4, .int be), (8, .int 1), (7, .int (nI ((f_Mo_find ti n2 (j + 4) (ti (32 * j + i))).toNatClampNeg))), (6, .int (ti (32 * j + i))), (0, .ref a), (1, .int (nI j)), (2, .int t), (3, .int u)]) hx hb d_Md_firstChange_218 hl rfl (inc1 _) (by decide) rfl (fun ls hl => ?_)
              refine lv_goto (tgt := 97) hx hb d_Md_firstChange_221 (by decide) ?_
              rw [if_pos hc6, if_pos hc7, if_neg hc12, if_pos hc13] at hR
              exact ih (i + 1) be mc it vs se sm rs wk ors owk _ _ ls (by omega) hR (lv_sub hl [0, 1, 5, 6, 7, 8] rfl) hP hS
            · have hc13 : ¬ ((ti (32 * j + i)) < t) := hc13
              refine lv_iload hx hb d_Md_firstChange_191 (lv_at hl 2 rfl) ?_
              refine lv_iload_n hx hb d_Md_firstChange_193 rfl (lv_at hl 8 rfl) ?_
              refine lv_icmp_gt (tgt := 214) hx hb d_Md_firstChange_194 (by decide) (fun hc14 => ?_) (fun hc14 => ?_)
              · have hc14 : u < (ti (32 * j + i)) := hc14
                refine lv_iload hx hb d_Md_firstChange_214 (lv_at hl 4 rfl) ?_
                refine lv_istore (lv' := [(4, .int be), (8, .int 1), (7, .int (nI ((f_Mo_find ti n2 (j + 4) (ti (32 * j + i))).toNatClampNeg))), (6, .int (ti (32 * j + i))), (5, .int (nI i)), (0, .ref a), (1, .int (nI j)), (2, .int t), (3, .int u)]) hx hb d_Md_firstChange_216 hl (by decide) rfl (fun ls hl => ?_)
                refine lv_iinc (k := 4) (lv' := [(5, .int (nI (i + 1))), (4, .int be), (8, .int 1), (7, .int (nI ((f_Mo_find ti n2 (j + 4) (ti (32 * j + i))).toNatClampNeg))), (6, .int (ti (32 * j + i))), (0, .ref a), (1, .int (nI j)), (2, .int t), (3, .int u)]) hx hb d_Md_firstChange_218 hl rfl (inc1 _) (by decide) rfl (fun ls hl => ?_)
                refine lv_goto (tgt := 97) hx hb d_Md_firstChange_221 (by decide) ?_
                rw [if_pos hc6, if_pos hc7, if_neg hc12, if_neg hc13, if_pos hc14] at hR
                exact ih (i + 1) be mc it vs se sm rs wk ors owk _ _ ls (by omega) hR (lv_sub hl [0, 1, 5, 6, 7, 8] rfl) hP hS
              · have hc14 : ¬ (u < (ti (32 * j + i))) := hc14
                refine lv_iload hx hb d_Md_firstChange_197 (lv_at hl 4 rfl) ?_
                refine lv_if_eq (tgt := 209) hx hb d_Md_firstChange_199 (by decide) (fun hc15 => ?_) (fun hc15 => ?_)
                · have hc15 : be = 0 := hc15
                  refine lv_iload hx hb d_Md_firstChange_209 (lv_at hl 2 rfl) ?_
                  refine lv_goto (tgt := 216) hx hb d_Md_firstChange_211 (by decide) ?_
                  refine lv_istore (lv' := [(4, .int (ti (32 * j + i))), (8, .int 1), (7, .int (nI ((f_Mo_find ti n2 (j + 4) (ti (32 * j + i))).toNatClampNeg))), (6, .int (ti (32 * j + i))), (5, .int (nI i)), (0, .ref a), (1, .int (nI j)), (2, .int t), (3, .int u)]) hx hb d_Md_firstChange_216 hl (by decide) rfl (fun ls hl => ?_)
                  refine lv_iinc (k := 4) (lv' := [(5, .int (nI (i + 1))), (4, .int (ti (32 * j + i))), (8, .int 1), (7, .int (nI ((f_Mo_find ti n2 (j + 4) (ti (32 * j + i))).toNatClampNeg))), (6, .int (ti (32 * j + i))), (0, .ref a), (1, .int (nI j)), (2, .int t), (3, .int u)]) hx hb d_Md_firstChange_218 hl rfl (inc1 _) (by decide) rfl (fun ls hl => ?_)
                  refine lv_goto (tgt := 97) hx hb d_Md_firstChange_221 (by decide) ?_
                  rw [if_pos hc6, if_pos hc7, if_neg hc12, if_neg hc13, if_neg hc14, if_pos hc15] at hR
                  exact ih (i + 1) (ti (32 * j + i)) mc it vs se sm rs wk ors owk _ _ ls (by omega) hR (lv_sub hl [0, 1, 5, 6, 7, 8] rfl) hP hS
                · have hc15 : ¬ (be = 0) := hc15
                  refine lv_iload hx hb d_Md_firstChange_202 (lv_at hl 2 rfl) ?_
                  refine lv_iload hx hb d_Md_firstChange_204 (lv_at hl 4 rfl) ?_
                  refine lv_icmp_ge (tgt := 214) hx hb d_Md_firstChange_206 (by decide) (fun hc16 => ?_) (fun hc16 => ?_)
                  · have hc16 : be ≤ (ti (32 * j + i)) := hc16
                    refine lv_iload hx hb d_Md_firstChange_214 (lv_at hl 4 rfl) ?_
                    refine lv_istore (lv' := [(4, .int be), (8, .int 1), (7, .int (nI ((f_Mo_find ti n2 (j + 4) (ti (32 * j + i))).toNatClampNeg))), (6, .int (ti (32 * j + i))), (5, .int (nI i)), (0, .ref a), (1, .int (nI j)), (2, .int t), (3, .int u)]) hx hb d_Md_firstChange_216 hl (by decide) rfl (fun ls hl => ?_)
                    refine lv_iinc (k := 4) (lv' := [(5, .int (nI (i + 1))), (4, .int be), (8, .int 1), (7, .int (nI ((f_Mo_find ti n2 (j + 4) (ti (32 * j + i))).toNatClampNeg))), (6, .int (ti (32 * j + i))), (0, .ref a), (1, .int (nI j)), (2, .int t), (3, .int u)]) hx hb d_Md_firstChange_218 hl rfl (inc1 _) (by decide) rfl (fun ls hl => ?_)
                    refine lv_goto (tgt := 97) hx hb d_Md_firstChange_221 (by decide) ?_
                    rw [if_pos hc6, if_pos hc7, if_neg hc12, if_neg hc13, if_neg hc14, if_neg hc15, if_pos hc16] at hR
                    exact ih (i + 1) be mc it vs se sm rs wk ors owk _ _ ls (by omega) hR (lv_sub hl [0, 1, 5, 6, 7, 8] rfl) hP hS
                  · have hc16 : ¬ (be ≤ (ti (32 * j + i))) := hc16
                    refine lv_iload hx hb d_Md_firstChange_209 (lv_at hl 2 rfl) ?_
                    refine lv_goto (tgt := 216) hx hb d_Md_firstChange_211 (by decide) ?_
                    refine lv_istore (lv' := [(4, .int (ti (32 * j + i))), (8, .int 1), (7, .int (nI ((f_Mo_find ti n2 (j + 4) (ti (32 * j + i))).toNatClampNeg))), (6, .int (ti (32 * j + i))), (5, .int (nI i)), (0, .ref a), (1, .int (nI j)), (2, .int t), (3, .int u)]) hx hb d_Md_firstChange_216 hl (by decide) rfl (fun ls hl => ?_)
                    refine lv_iinc (k := 4) (lv' := [(5, .int (nI (i + 1))), (4, .int (ti (32 * j + i))), (8, .int 1), (7, .int (nI ((f_Mo_find ti n2 (j + 4) (ti (32 * j + i))).toNatClampNeg))), (6, .int (ti (32 * j + i))), (0, .ref a), (1, .int (nI j)), (2, .int t), (3, .int u)]) hx hb d_Md_firstChange_218 hl rfl (inc1 _) (by decide) rfl (fun ls hl => ?_)
                    refine lv_goto (tgt := 97) hx hb d_Md_firstChange_221 (by decide) ?_
                    rw [if_pos hc6, if_pos hc7, if_neg hc12, if_neg hc13, if_neg hc14, if_neg hc15, if_neg hc16] at hR
                    exact ih (i + 1) (ti (32 * j + i)) mc it vs se sm rs wk ors owk _ _ ls (by omega) hR (lv_sub hl [0, 1, 5, 6, 7, 8] rfl) hP hS
      · rw [show oI (¬ (f_Mo_find ti n2 (j + 4) (ti (32 * j + i))) = -1) ((f_Mo_find ti n2 (j + 4) (ti (32 * j + i))).toNatClampNeg) = -1 from if_neg hc6]
        refine lv_istore (lv' := [(7, .int (-1)), (6, .int (ti (32 * j + i))), (5, .int (nI i)), (4, .int be), (0, .ref a), (1, .int (nI j)), (2, .int t), (3, .int u)]) hx hb d_Md_firstChange_131 hl (by decide) rfl (fun ls hl => ?_)
        refine lv_iload hx hb d_Md_firstChange_133 (lv_at hl 0 rfl) ?_
        refine lv_if_lt (tgt := 173) hx hb d_Md_firstChange_135 (by decide) (fun hc => ?_) (fun hc => False.elim (by revert hc; decide))
        refine lv_iconst (v := 1) hx hb d_Md_firstChange_173 (by decide) ?_
        refine lv_goto (tgt := 178) hx hb d_Md_firstChange_174 (by decide) ?_
        refine lv_istore (lv' := [(8, .int 1), (7, .int (-1)), (6, .int (ti (32 * j + i))), (5, .int (nI i)), (4, .int be), (0, .ref a), (1, .int (nI j)), (2, .int t), (3, .int u)]) hx hb d_Md_firstChange_178 hl (by decide) rfl (fun ls hl => ?_)
        refine lv_iload hx hb d_Md_firstChange_180 (lv_at hl 0 rfl) ?_
        refine lv_if_eq (tgt := 214) hx hb d_Md_firstChange_182 (by decide) (fun hc => False.elim (by revert hc; decide)) (fun hc => ?_)
        refine lv_iload hx hb d_Md_firstChange_185 (lv_at hl 2 rfl) ?_
        refine lv_iload_n hx hb d_Md_firstChange_187 rfl (lv_at hl 7 rfl) ?_
        refine lv_icmp_lt (tgt := 214) hx hb d_Md_firstChange_188 (by decide) (fun hc17 => ?_) (fun hc17 => ?_)
        · have hc17 : (ti (32 * j + i)) < t := hc17
          refine lv_iload hx hb d_Md_firstChange_214 (lv_at hl 4 rfl) ?_
          refine lv_istore (lv' := [(4, .int be), (8, .int 1), (7, .int (-1)), (6, .int (ti (32 * j + i))), (5, .int (nI i)), (0, .ref a), (1, .int (nI j)), (2, .int t), (3, .int u)]) hx hb d_Md_firstChange_216 hl (by decide) rfl (fun ls hl => ?_)
          refine lv_iinc (k := 4) (lv' := [(5, .int (nI (i + 1))), (4, .int be), (8, .int 1), (7, .int (-1)), (6, .int (ti (32 * j + i))), (0, .ref a), (1, .int (nI j)), (2, .int t), (3, .int u)]) hx hb d_Md_firstChange_218 hl rfl (inc1 _) (by decide) rfl (fun ls hl => ?_)
          refine lv_goto (tgt := 97) hx hb d_Md_firstChange_221 (by decide) ?_
          rw [if_neg hc6, if_pos hc17] at hR
          exact ih (i + 1) be mc it vs se sm rs wk ors owk _ _ ls (by omega) hR (lv_sub hl [0, 1, 5, 6, 7, 8] rfl) hP hS
        · have hc17 : ¬ ((ti (32 * j + i)) < t) := hc17
          refine lv_iload hx hb d_Md_firstChange_191 (lv_at hl 2 rfl) ?_
          refine lv_iload_n hx hb d_Md_firstChange_193 rfl (lv_at hl 8 rfl) ?_
          refine lv_icmp_gt (tgt := 214) hx hb d_Md_firstChange_194 (by decide) (fun hc18 => ?_) (fun hc18 => ?_)
          · have hc18 : u < (ti (32 * j + i)) := hc18
            refine lv_iload hx hb d_Md_firstChange_214 (lv_at hl 4 rfl) ?_
            refine lv_istore (lv' := [(4, .int be), (8, .int 1), (7, .int (-1)), (6, .int (ti (32 * j + i))), (5, .int (nI i)), (0, .ref a), (1, .int (nI j)), (2, .int t), (3, .int u)]) hx hb d_Md_firstChange_216 hl (by decide) rfl (fun ls hl => ?_)
            refine lv_iinc (k := 4) (lv' := [(5, .int (nI (i + 1))), (4, .int be), (8, .int 1), (7, .int (-1)), (6, .int (ti (32 * j + i))), (0, .ref a), (1, .int (nI j)), (2, .int t), (3, .int u)]) hx hb d_Md_firstChange_218 hl rfl (inc1 _) (by decide) rfl (fun ls hl => ?_)
            refine lv_goto (tgt := 97) hx hb d_Md_firstChange_221 (by decide) ?_
            rw [if_neg hc6, if_neg hc17, if_pos hc18] at hR
            exact ih (i + 1) be mc it vs se sm rs wk ors owk _ _ ls (by omega) hR (lv_sub hl [0, 1, 5, 6, 7, 8] rfl) hP hS
          · have hc18 : ¬ (u < (ti (32 * j + i))) := hc18
            refine lv_iload hx hb d_Md_firstChange_197 (lv_at hl 4 rfl) ?_
            refine lv_if_eq (tgt := 209) hx hb d_Md_firstChange_199 (by decide) (fun hc19 => ?_) (fun hc19 => ?_)
            · have hc19 : be = 0 := hc19
              refine lv_iload hx hb d_Md_firstChange_209 (lv_at hl 2 rfl) ?_
              refine lv_goto (tgt := 216) hx hb d_Md_firstChange_211 (by decide) ?_
              refine lv_istore (lv' := [(4, .int (ti (32 * j + i))), (8, .int 1), (7, .int (-1)), (6, .int (ti (32 * j + i))), (5, .int (nI i)), (0, .ref a), (1, .int (nI j)), (2, .int t), (3, .int u)]) hx hb d_Md_firstChange_216 hl (by decide) rfl (fun ls hl => ?_)
              refine lv_iinc (k := 4) (lv' := [(5, .int (nI (i + 1))), (4, .int (ti (32 * j + i))), (8, .int 1), (7, .int (-1)), (6, .int (ti (32 * j + i))), (0, .ref a), (1, .int (nI j)), (2, .int t), (3, .int u)]) hx hb d_Md_firstChange_218 hl rfl (inc1 _) (by decide) rfl (fun ls hl => ?_)
              refine lv_goto (tgt := 97) hx hb d_Md_firstChange_221 (by decide) ?_
              rw [if_neg hc6, if_neg hc17, if_neg hc18, if_pos hc19] at hR
              exact ih (i + 1) (ti (32 * j + i)) mc it vs se sm rs wk ors owk _ _ ls (by omega) hR (lv_sub hl [0, 1, 5, 6, 7, 8] rfl) hP hS
            · have hc19 : ¬ (be = 0) := hc19
              refine lv_iload hx hb d_Md_firstChange_202 (lv_at hl 2 rfl) ?_
              refine lv_iload hx hb d_Md_firstChange_204 (lv_at hl 4 rfl) ?_
              refine lv_icmp_ge (tgt := 214) hx hb d_Md_firstChange_206 (by decide) (fun hc20 => ?_) (fun hc20 => ?_)
              · have hc20 : be ≤ (ti (32 * j + i)) := hc20
                refine lv_iload hx hb d_Md_firstChange_214 (lv_at hl 4 rfl) ?_
                refine lv_istore (lv' := [(4, .int be), (8, .int 1), (7, .int (-1)), (6, .int (ti (32 * j + i))), (5, .int (nI i)), (0, .ref a), (1, .int (nI j)), (2, .int t), (3, .int u)]) hx hb d_Md_firstChange_216 hl (by decide) rfl (fun ls hl => ?_)
                refine lv_iinc (k := 4) (lv' := [(5, .int (nI (i + 1))), (4, .int be), (8, .int 1), (7, .int (-1)), (6, .int (ti (32 * j + i))), (0, .ref a), (1, .int (nI j)), (2, .int t), (3, .int u)]) hx hb d_Md_firstChange_218 hl rfl (inc1 _) (by decide) rfl (fun ls hl => ?_)
                refine lv_goto (tgt := 97) hx hb d_Md_firstChange_221 (by decide) ?_
                rw [if_neg hc6, if_neg hc17, if_neg hc18, if_neg hc19, if_pos hc20] at hR
                exact ih (i + 1) be mc it vs se sm rs wk ors owk _ _ ls (by omega) hR (lv_sub hl [0, 1, 5, 6, 7, 8] rfl) hP hS
              · have hc20 : ¬ (be ≤ (ti (32 * j + i))) := hc20
                refine lv_iload hx hb d_Md_firstChange_209 (lv_at hl 2 rfl) ?_
                refine lv_goto (tgt := 216) hx hb d_Md_firstChange_211 (by decide) ?_
                refine lv_istore (lv' := [(4, .int (ti (32 * j + i))), (8, .int 1), (7, .int (-1)), (6, .int (ti (32 * j + i))), (5, .int (nI i)), (0, .ref a), (1, .int (nI j)), (2, .int t), (3, .int u)]) hx hb d_Md_firstChange_216 hl (by decide) rfl (fun ls hl => ?_)
                refine lv_iinc (k := 4) (lv' := [(5, .int (nI (i + 1))), (4, .int (ti (32 * j + i))), (8, .int 1), (7, .int (-1)), (6, .int (ti (32 * j + i))), (0, .ref a), (1, .int (nI j)), (2, .int t), (3, .int u)]) hx hb d_Md_firstChange_218 hl rfl (inc1 _) (by decide) rfl (fun ls hl => ?_)
                refine lv_goto (tgt := 97) hx hb d_Md_firstChange_221 (by decide) ?_
                rw [if_neg hc6, if_neg hc17, if_neg hc18, if_neg hc19, if_neg hc20] at hR
                exact ih (i + 1) (ti (32 * j + i)) mc it vs se sm rs wk ors owk _ _ ls (by omega) hR (lv_sub hl [0, 1, 5, 6, 7, 8] rfl) hP hS
  have key_38 : ∀ (k : Nat) (i : Nat) (mc : Int32) (it : Nat → Int32) (vs : Nat → Int32) (se : Nat → Int32) (sm : Int64) (rs : Nat → Int64) (wk : Nat → Int32) (ors : Nat → Int64) (owk : Nat → Int32) (H : Heap) (locs : List Loc) (ls : Array Slot), i + k = 32 → bz wk → g_Mo_firstChange_5_38 kn ti xa xb n n2 j t u k i mc it vs se sm rs wk ors owk = R → lv_has ls 9 [(4, .int (nI i)), (0, .ref a), (1, .int (nI j)), (2, .int t), (3, .int u)] → va_P D cls (wMo cI cJ cZ a ((f_Mo_lacksTwo kn j t u).2) kn ed ct ti nm xa xb mc it vs se sm rs wk ors owk) H → va_S (blk a 15) s.heap H locs → W p l e (headSpec (k_Md_firstChange :: gt) rm_Md_firstChange).room s m ([.ref a, .int (nI j), .int t, .int u] : List Value).toArray below meth c H locs 0 0 (MQ below (Qd (blk a 15) (some (.int R.1)) (fun H => va_P D cls (wMo cI cJ cZ a R.2.1 kn ed ct ti nm xa xb R.2.2.1 R.2.2.2.1 R.2.2.2.2.1 R.2.2.2.2.2.1 R.2.2.2.2.2.2.1 R.2.2.2.2.2.2.2.1 R.2.2.2.2.2.2.2.2.1 R.2.2.2.2.2.2.2.2.2.1 R.2.2.2.2.2.2.2.2.2.2) H)) ([.ref a, .int (nI j), .int t, .int u] : List Value).toArray s 0 0 (blk a 15)) (F0 m 38 ls []) := by
    intro k
    induction k with
    | zero =>
      intro i mc it vs se sm rs wk ors owk H locs ls hi hb9 hR hl hP hS
      have hR : (g_Mo_firstChange_5_97 kn ti n n2 j t u n 0 0 ((f_Mo_run_5 ti xa xb it vs se rs wk n j 1000000000).1) ((f_Mo_run_5 ti xa xb it vs se rs wk n j 1000000000).2.1) ((f_Mo_run_5 ti xa xb it vs se rs wk n j 1000000000).2.2.1) ((f_Mo_run_5 ti xa xb it vs se rs wk n j 1000000000).2.2.2.1) ((f_Mo_run_5 ti xa xb it vs se rs wk n j 1000000000).2.2.2.2.1) ((f_Mo_run_5 ti xa xb it vs se rs wk n j 1000000000).2.2.2.2.2.1) ((f_Mo_run_5 ti xa xb it vs se rs wk n j 1000000000).2.2.2.2.2.2) ors owk) = R := hR
      have hD : va_D (blk a 15) (wMo cI cJ cZ a ((f_Mo_lacksTwo kn j t u).2) kn ed ct ti nm xa xb mc it vs se sm rs wk ors owk) := (blk_D (wMo_in))
      refine lv_iload hx hb d_Md_firstChange_38 (lv_at hl 0 rfl) ?_
      refine lv_bipush (v := 32) hx hb d_Md_firstChange_40 (by decide) ?_
      refine lv_icmp_ge (tgt := 79) hx hb d_Md_firstChange_42 (by decide) (fun hc => ?_) (fun hc => False.elim (by have hc : ¬ (32 ≤ i) := fun h => hc (by exact (nI_leI (a := 32) (b := i) (by omega) (by omega)).mpr h); omega))
      refine lv_aload_n hx hb d_Md_firstChange_79 rfl (lv_at hl 1 rfl) ?_
      refine lv_iload_n hx hb d_Md_firstChange_80 rfl (lv_at hl 2 rfl) ?_
      refine lv_aload_n hx hb d_Md_firstChange_81 rfl (lv_at hl 1 rfl) ?_
      refine lv_iload_n hx hb d_Md_firstChange_82 rfl (lv_at hl 2 rfl) ?_
      refine ep_callP (W.runV (As := [.int (nI j)]) (rest := [.int (nI j), .ref a]) ⟨hx, hb, hml, hown, hg⟩ (m_Mo_kindOf l D cI cJ cZ cO a ((f_Mo_lacksTwo kn j t u).2) kn ed ct ti nm xa xb mc it vs se sm rs wk ors owk j (by omega) _ rfl) (ep_cwV 1 hg tw_789 tw_791 ts_11 tw_12 tk_Md_kindOf rfl rfl (by decide +kernel) ⟨(Nat.le_of_ble_eq_true rfl), (Nat.le_of_ble_eq_true rfl)⟩) ⟨ep_blind, va_recv (q0 := 0) (ci := 9) hK hP rfl rfl, ep_pre hKn (hP)⟩ rfl rfl hl.1 rfl (lv_room (Nat.le_of_ble_eq_true rfl)) d_Md_firstChange_83 ⟨Nat.zero_le _, Nat.zero_le _⟩) ?_
      refine W.eq (g2 := F0 m 86 ls [.int (f_Mo_kindOf kn j), .int (nI j), .ref a]) rfl ?_
      refine lv_topi (fun z9 e_z9 => ?_)
      obtain rfl : z9 = 5 := by rw [e_z9]; exact (by rw [show f_Mo_kindOf kn j = kn j - 1 from rfl, hk]; decide)
      refine lv_ldc (v := 1000000000) hx hb hown (hg _ tw_780) d_Md_firstChange_86 ?_
      refine ep_callH (W.runV (As := [.int (nI j), .int 5, .int 1000000000]) (rest := []) ⟨hx, hb, hml, hown, hg⟩ (m_Mo_run_5 l D cI cJ cZ cO a ((f_Mo_lacksTwo kn j t u).2) kn ed ct ti nm xa xb mc it vs se sm rs wk ors owk n j 1000000000 (by omega) hct (by omega) hop _ rfl) (ep_cwV 3 hg tw_832 tw_834 ts_17 tw_12 tk_Md_run rfl rfl (by decide +kernel) ⟨(Nat.le_of_ble_eq_true rfl), (Nat.le_of_ble_eq_true rfl)⟩) ⟨ep_blind, va_recv (q0 := 0) (ci := 9) hK hP rfl rfl, ep_pre hKn (hP)⟩ rfl rfl hl.1 rfl (lv_room (Nat.le_of_ble_eq_true rfl)) d_Md_firstChange_88 ⟨Nat.zero_le _, Nat.zero_le _⟩) hS (fun q h => h) (fun H locs hsz9 hk1 hP1 hS => ?_)
      refine W.eq (g2 := F0 m 91 ls []) rfl ?_
      have hP : va_P D cls (wMo cI cJ cZ a ((f_Mo_lacksTwo kn j t u).2) kn ed ct ti nm xa xb ((f_Mo_run_5 ti xa xb it vs se rs wk n j 1000000000).1) ((f_Mo_run_5 ti xa xb it vs se rs wk n j 1000000000).2.1) ((f_Mo_run_5 ti xa xb it vs se rs wk n j 1000000000).2.2.1) ((f_Mo_run_5 ti xa xb it vs se rs wk n j 1000000000).2.2.2.1) ((f_Mo_run_5 ti xa xb it vs se rs wk n j 1000000000).2.2.2.2.1) ((f_Mo_run_5 ti xa xb it vs se rs wk n j 1000000000).2.2.2.2.2.1) ((f_Mo_run_5 ti xa xb it vs se rs wk n j 1000000000).2.2.2.2.2.2) ors owk) H := hP1
      have hD : va_D (blk a 15) (wMo cI cJ cZ a ((f_Mo_lacksTwo kn j t u).2) kn ed ct ti nm xa xb ((f_Mo_run_5 ti xa xb it vs se rs wk n j 1000000000).1) ((f_Mo_run_5 ti xa xb it vs se rs wk n j 1000000000).2.1) ((f_Mo_run_5 ti xa xb it vs se rs wk n j 1000000000).2.2.1) ((f_Mo_run_5 ti xa xb it vs se rs wk n j 1000000000).2.2.2.1) ((f_Mo_run_5 ti xa xb it vs se rs wk n j 1000000000).2.2.2.2.1) ((f_Mo_run_5 ti xa xb it vs se rs wk n j 1000000000).2.2.2.2.2.1) ((f_Mo_run_5 ti xa xb it vs se rs wk n j 1000000000).2.2.2.2.2.2) ors owk) := (blk_D (wMo_in))
      refine lv_iconst (v := 0) hx hb d_Md_firstChange_91 (by decide) ?_
      refine lv_istore (lv' := [(4, .int 0), (0, .ref a), (1, .int (nI j)), (2, .int t), (3, .int u)]) hx hb d_Md_firstChange_92 hl (by decide) rfl (fun ls hl => ?_)
      refine lv_iconst (v := 0) hx hb d_Md_firstChange_94 (by decide) ?_
      refine lv_istore (lv' := [(5, .int 0), (4, .int 0), (0, .ref a), (1, .int (nI j)), (2, .int t), (3, .int u)]) hx hb d_Md_firstChange_95 hl (by decide) rfl (fun ls hl => ?_)
      exact key_97 n 0 0 ((f_Mo_run_5 ti xa xb it vs se rs wk n j 1000000000).1) ((f_Mo_run_5 ti xa xb it vs se rs wk n j 1000000000).2.1) ((f_Mo_run_5 ti xa xb it vs se rs wk n j 1000000000).2.2.1) ((f_Mo_run_5 ti xa xb it vs se rs wk n j 1000000000).2.2.2.1) ((f_Mo_run_5 ti xa xb it vs se rs wk n j 1000000000).2.2.2.2.1) ((f_Mo_run_5 ti xa xb it vs se rs wk n j 1000000000).2.2.2.2.2.1) ((f_Mo_run_5 ti xa xb it vs se rs wk n j 1000000000).2.2.2.2.2.2) ors owk _ _ ls (by omega) hR hl hP hS
    | succ k ih =>
      intro i mc it vs se sm rs wk ors owk H locs ls hi hb9 hR hl hP hS
      have hR : (g_Mo_firstChange_5_38 kn ti xa xb n n2 j t u k (i + 1) mc it vs se sm rs wk (vp_updL ors i (rs i)) (upd owk i (wk i))) = R := hR
      have hD : va_D (blk a 15) (wMo cI cJ cZ a ((f_Mo_lacksTwo kn j t u).2) kn ed ct ti nm xa xb mc it vs se sm rs wk ors owk) := (blk_D (wMo_in))
      refine lv_iload hx hb d_Md_firstChange_38 (lv_at hl 0 rfl) ?_
      refine lv_bipush (v := 32) hx hb d_Md_firstChange_40 (by decide) ?_
      refine lv_icmp_ge (tgt := 79) hx hb d_Md_firstChange_42 (by decide) (fun hc => False.elim (by have hc := (nI_leI (a := 32) (b := i) (by omega) (by omega)).mp hc; omega)) (fun hc => ?_)
      refine lv_aload_n hx hb d_Md_firstChange_45 rfl (lv_at hl 1 rfl) ?_
      refine va_get (D := D) (ci := 9) (v := .ref (a + 13)) (C := R_Md) (T := F_Md) (N := 17) hx hb hg in_Md hown hK hP 0 rfl rfl 15 (Nat.le_of_ble_eq_true rfl) (hg _ tw_721) (fun _ h9 => h9) rfl d_Md_firstChange_46 ?_
      refine lv_iload hx hb d_Md_firstChange_49 (lv_at hl 0 rfl) ?_
      refine lv_aload_n hx hb d_Md_firstChange_51 rfl (lv_at hl 1 rfl) ?_
      refine va_get (D := D) (ci := 9) (v := .ref (a + 11)) (C := R_Md) (T := F_Md) (N := 17) hx hb hg in_Md hown hK hP 0 rfl rfl 13 (Nat.le_of_ble_eq_true rfl) (hg _ tw_719) (fun _ h9 => h9) rfl d_Md_firstChange_52 ?_
      refine lv_iload hx hb d_Md_firstChange_55 (lv_at hl 0 rfl) ?_
      refine ep_lald hx hb hK hP 11 1 rfl rfl (i := i) (by omega) (by decide) d_Md_firstChange_57 ?_
      refine ep_last hx hb hK hP hD hS 13 1 rfl rfl (i := i) (x := (rs i)) (by omega) (by decide) d_Md_firstChange_58 (fun H locs hP hD hS => ?_)
      have hP : va_P D cls (wMo cI cJ cZ a ((f_Mo_lacksTwo kn j t u).2) kn ed ct ti nm xa xb mc it vs se sm rs wk (vp_updL ors i (rs i)) owk) H := hP
      have hD : va_D (blk a 15) (wMo cI cJ cZ a ((f_Mo_lacksTwo kn j t u).2) kn ed ct ti nm xa xb mc it vs se sm rs wk (vp_updL ors i (rs i)) owk) := hD
      refine lv_aload_n hx hb d_Md_firstChange_59 rfl (lv_at hl 1 rfl) ?_
      refine va_get (D := D) (ci := 9) (v := .ref (a + 14)) (C := R_Md) (T := F_Md) (N := 17) hx hb hg in_Md hown hK hP 0 rfl rfl 16 (Nat.le_of_ble_eq_true rfl) (hg _ tw_722) (fun _ h9 => h9) rfl d_Md_firstChange_60 ?_
      refine lv_iload hx hb d_Md_firstChange_63 (lv_at hl 0 rfl) ?_
      refine lv_aload_n hx hb d_Md_firstChange_65 rfl (lv_at hl 1 rfl) ?_
      refine va_get (D := D) (ci := 9) (v := .ref (a + 12)) (C := R_Md) (T := F_Md) (N := 17) hx hb hg in_Md hown hK hP 0 rfl rfl 14 (Nat.le_of_ble_eq_true rfl) (hg _ tw_720) (fun _ h9 => h9) rfl d_Md_firstChange_66 ?_
      refine lv_iload hx hb d_Md_firstChange_69 (lv_at hl 0 rfl) ?_
      refine ep_zald hx hb hK hP 12 2 rfl rfl (i := i) (by omega) (by decide) d_Md_firstChange_71 ?_
      refine ep_zast hx hb hK hP hD hS 14 2 rfl rfl (i := i) (x := (wk i)) (bz_n hb9 _) (by omega) (by decide) d_Md_firstChange_72 (fun H locs hP hD hS => ?_)
      have hP : va_P D cls (wMo cI cJ cZ a ((f_Mo_lacksTwo kn j t u).2) kn ed ct ti nm xa xb mc it vs se sm rs wk (vp_updL ors i (rs i)) (upd owk i (wk i))) H := hP
      have hD : va_D (blk a 15) (wMo cI cJ cZ a ((f_Mo_lacksTwo kn j t u).2) kn ed ct ti nm xa xb mc it vs se sm rs wk (vp_updL ors i (rs i)) (upd owk i (wk i))) := hD
      refine lv_iinc (k := 0) (lv' := [(4, .int (nI (i + 1))), (0, .ref a), (1, .int (nI j)), (2, .int t), (3, .int u)]) hx hb d_Md_firstChange_73 hl rfl (inc1 _) (by decide) rfl (fun ls hl => ?_)
      refine lv_goto (tgt := 38) hx hb d_Md_firstChange_76 (by decide) ?_
      exact ih (i + 1) mc it vs se sm rs wk (vp_updL ors i (rs i)) (upd owk i (wk i)) _ _ ls (by omega) hb9 hR hl hP hS
  have hR : (g_Mo_firstChange_5_38 kn ti xa xb n n2 j t u 32 0 ((f_Mo_run_5 ti xa xb it vs se rs wk n2 (j + 4) 1000000000).1) ((f_Mo_run_5 ti xa xb it vs se rs wk n2 (j + 4) 1000000000).2.1) ((f_Mo_run_5 ti xa xb it vs se rs wk n2 (j + 4) 1000000000).2.2.1) ((f_Mo_run_5 ti xa xb it vs se rs wk n2 (j + 4) 1000000000).2.2.2.1) ((f_Mo_run_5 ti xa xb it vs se rs wk n2 (j + 4) 1000000000).2.2.2.2.1) ((f_Mo_run_5 ti xa xb it vs se rs wk n2 (j + 4) 1000000000).2.2.2.2.2.1) ((f_Mo_run_5 ti xa xb it vs se rs wk n2 (j + 4) 1000000000).2.2.2.2.2.2) ors owk) = R := hR
  refine lv_aload_n hx hb d_Md_firstChange_0 rfl (lv_at hl 0 rfl) ?_
  refine lv_iload_n hx hb d_Md_firstChange_1 rfl (lv_at hl 1 rfl) ?_
  refine lv_iload_n hx hb d_Md_firstChange_2 rfl (lv_at hl 2 rfl) ?_
  refine lv_iload_n hx hb d_Md_firstChange_3 rfl (lv_at hl 3 rfl) ?_
  refine ep_callH (W.runV (As := [.int (nI j), .int t, .int u]) (rest := []) ⟨hx, hb, hml, hown, hg⟩ (m_Mo_lacksTwo l D cI cJ cZ cO a code kn ed ct ti nm xa xb ma it vs se sm rs wk ors owk j t u (by omega) _ rfl) (ep_cwV 3 hg tw_896 tw_898 ts_25 tw_12 tk_Md_lacksTwo rfl rfl (by decide +kernel) ⟨(Nat.le_of_ble_eq_true rfl), (Nat.le_of_ble_eq_true rfl)⟩) ⟨ep_blind, va_recv (q0 := 0) (ci := 9) hK hP rfl rfl, ep_pre hKn (hP)⟩ rfl rfl hl.1 rfl (lv_room (Nat.le_of_ble_eq_true rfl)) d_Md_firstChange_4 ⟨Nat.zero_le _, Nat.zero_le _⟩) hS (fun q h => h) (fun H locs hsz9 hk1 hP1 hS => ?_)
  refine W.eq (g2 := F0 m 7 ls [.int ((f_Mo_lacksTwo kn j t u).1)]) rfl ?_
  have hP : va_P D cls (wMo cI cJ cZ a ((f_Mo_lacksTwo kn j t u).2) kn ed ct ti nm xa xb ma it vs se sm rs wk ors owk) H := hP1
  have hD : va_D (blk a 15) (wMo cI cJ cZ a ((f_Mo_lacksTwo kn j t u).2) kn ed ct ti nm xa xb ma it vs se sm rs wk ors owk) := (blk_D (wMo_in))
  refine lv_if_ne (tgt := 19) hx hb d_Md_firstChange_7 (by decide) (fun hc => absurd hlk hc) (fun hc => ?_)
  refine lv_aload_n hx hb d_Md_firstChange_10 rfl (lv_at hl 0 rfl) ?_
  refine va_get (D := D) (ci := 9) (v := .ref (a + 2)) (C := R_Md) (T := F_Md) (N := 17) hx hb hg in_Md hown hK hP 0 rfl rfl 2 (Nat.le_of_ble_eq_true rfl) (hg _ tw_708) (fun _ h9 => h9) rfl d_Md_firstChange_11 ?_
  refine lv_iload_n hx hb d_Md_firstChange_14 rfl (lv_at hl 1 rfl) ?_
  refine ep_zald hx hb hK hP 2 2 rfl rfl (i := j) (by omega) (by decide) d_Md_firstChange_15 ?_
  refine lv_if_ne (tgt := 21) hx hb d_Md_firstChange_16 (by decide) (fun hc => ?_) (fun hc => absurd hc hed)
  refine lv_aload_n hx hb d_Md_firstChange_21 rfl (lv_at hl 0 rfl) ?_
  refine lv_iload_n hx hb d_Md_firstChange_22 rfl (lv_at hl 1 rfl) ?_
  refine lv_iconst (v := 4) hx hb d_Md_firstChange_23 (by decide) ?_
  refine lv_iadd hx hb d_Md_firstChange_24 ?_
  refine lv_topi (fun z9 e_z9 => ?_)
  obtain rfl : z9 = nI (j + 4) := by rw [e_z9]; exact (nI_add j 4)
  refine lv_aload_n hx hb d_Md_firstChange_25 rfl (lv_at hl 0 rfl) ?_
  refine lv_iload_n hx hb d_Md_firstChange_26 rfl (lv_at hl 1 rfl) ?_
  refine ep_callP (W.runV (As := [.int (nI j)]) (rest := [.int (nI (j + 4)), .ref a]) ⟨hx, hb, hml, hown, hg⟩ (m_Mo_kindOf l D cI cJ cZ cO a ((f_Mo_lacksTwo kn j t u).2) kn ed ct ti nm xa xb ma it vs se sm rs wk ors owk j (by omega) _ rfl) (ep_cwV 1 hg tw_789 tw_791 ts_11 tw_12 tk_Md_kindOf rfl rfl (by decide +kernel) ⟨(Nat.le_of_ble_eq_true rfl), (Nat.le_of_ble_eq_true rfl)⟩) ⟨ep_blind, va_recv (q0 := 0) (ci := 9) hK hP rfl rfl, ep_pre hKn (hP)⟩ rfl rfl hl.1 rfl (lv_room (Nat.le_of_ble_eq_true rfl)) d_Md_firstChange_27 ⟨Nat.zero_le _, Nat.zero_le _⟩) ?_
  refine W.eq (g2 := F0 m 30 ls [.int (f_Mo_kindOf kn j), .int (nI (j + 4)), .ref a]) rfl ?_
  refine lv_topi (fun z9 e_z9 => ?_)
  obtain rfl : z9 = 5 := by rw [e_z9]; exact (by rw [show f_Mo_kindOf kn j = kn j - 1 from rfl, hk]; decide)
  refine lv_ldc (v := 1000000000) hx hb hown (hg _ tw_780) d_Md_firstChange_30 ?_
  refine ep_callH (W.runV (As := [.int (nI (j + 4)), .int 5, .int 1000000000]) (rest := []) ⟨hx, hb, hml, hown, hg⟩ (m_Mo_run_5 l D cI cJ cZ cO a ((f_Mo_lacksTwo kn j t u).2) kn ed ct ti nm xa xb ma it vs se sm rs wk ors owk n2 (j + 4) 1000000000 (by omega) hct2 (by omega) hop2 _ rfl) (ep_cwV 3 hg tw_832 tw_834 ts_17 tw_12 tk_Md_run rfl rfl (by decide +kernel) ⟨(Nat.le_of_ble_eq_true rfl), (Nat.le_of_ble_eq_true rfl)⟩) ⟨ep_blind, va_recv (q0 := 0) (ci := 9) hK hP rfl rfl, ep_pre hKn (hP)⟩ rfl rfl hl.1 rfl (lv_room (Nat.le_of_ble_eq_true rfl)) d_Md_firstChange_32 ⟨Nat.zero_le _, Nat.zero_le _⟩) hS (fun q h => h) (fun H locs hsz9 hk1 hP1 hS => ?_)
  refine W.eq (g2 := F0 m 35 ls []) rfl ?_
  have hP : va_P D cls (wMo cI cJ cZ a ((f_Mo_lacksTwo kn j t u).2) kn ed ct ti nm xa xb ((f_Mo_run_5 ti xa xb it vs se rs wk n2 (j + 4) 1000000000).1) ((f_Mo_run_5 ti xa xb it vs se rs wk n2 (j + 4) 1000000000).2.1) ((f_Mo_run_5 ti xa xb it vs se rs wk n2 (j + 4) 1000000000).2.2.1) ((f_Mo_run_5 ti xa xb it vs se rs wk n2 (j + 4) 1000000000).2.2.2.1) ((f_Mo_run_5 ti xa xb it vs se rs wk n2 (j + 4) 1000000000).2.2.2.2.1) ((f_Mo_run_5 ti xa xb it vs se rs wk n2 (j + 4) 1000000000).2.2.2.2.2.1) ((f_Mo_run_5 ti xa xb it vs se rs wk n2 (j + 4) 1000000000).2.2.2.2.2.2) ors owk) H := hP1
  have hD : va_D (blk a 15) (wMo cI cJ cZ a ((f_Mo_lacksTwo kn j t u).2) kn ed ct ti nm xa xb ((f_Mo_run_5 ti xa xb it vs se rs wk n2 (j + 4) 1000000000).1) ((f_Mo_run_5 ti xa xb it vs se rs wk n2 (j + 4) 1000000000).2.1) ((f_Mo_run_5 ti xa xb it vs se rs wk n2 (j + 4) 1000000000).2.2.1) ((f_Mo_run_5 ti xa xb it vs se rs wk n2 (j + 4) 1000000000).2.2.2.1) ((f_Mo_run_5 ti xa xb it vs se rs wk n2 (j + 4) 1000000000).2.2.2.2.1) ((f_Mo_run_5 ti xa xb it vs se rs wk n2 (j + 4) 1000000000).2.2.2.2.2.1) ((f_Mo_run_5 ti xa xb it vs se rs wk n2 (j + 4) 1000000000).2.2.2.2.2.2) ors owk) := (blk_D (wMo_in))
  refine lv_iconst (v := 0) hx hb d_Md_firstChange_35 (by decide) ?_
  refine lv_istore (lv' := [(4, .int 0), (0, .ref a), (1, .int (nI j)), (2, .int t), (3, .int u)]) hx hb d_Md_firstChange_36 hl (by decide) rfl (fun ls hl => ?_)
  exact key_38 32 0 ((f_Mo_run_5 ti xa xb it vs se rs wk n2 (j + 4) 1000000000).1) ((f_Mo_run_5 ti xa xb it vs se rs wk n2 (j + 4) 1000000000).2.1) ((f_Mo_run_5 ti xa xb it vs se rs wk n2 (j + 4) 1000000000).2.2.1) ((f_Mo_run_5 ti xa xb it vs se rs wk n2 (j + 4) 1000000000).2.2.2.1) ((f_Mo_run_5 ti xa xb it vs se rs wk n2 (j + 4) 1000000000).2.2.2.2.1) ((f_Mo_run_5 ti xa xb it vs se rs wk n2 (j + 4) 1000000000).2.2.2.2.2.1) ((f_Mo_run_5 ti xa xb it vs se rs wk n2 (j + 4) 1000000000).2.2.2.2.2.2) ors owk _ _ ls (by omega) (run_bz_5 _ _ _ _ _ _ _ _ _ _ _ hbz) hR hl hP hS
