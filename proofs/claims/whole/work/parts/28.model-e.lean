/-! contracts of EditablePastModel (by wip/whole/gen/model.py) -/
def f_Mo_isNotFor_e (kn : Nat → Int32) (j : Nat) (t : Int32) : Int32 := ((f_Mo_lacks kn j t).2)
set_option maxHeartbeats 4000000 in
set_option maxRecDepth 100000 in
theorem m_Mo_isNotFor_e (l : Launch) (D : va_G) (cI cJ cZ cO : ClassId) (a : Nat) (code : Int32) (kn : Nat → Int32) (ed : Nat → Int32) (ct : Nat → Int32) (ti : Nat → Int32) (nm : Nat → Int32) (xa : Nat → Int32) (xb : Nat → Int32) (ma : Int32) (it : Nat → Int32) (vs : Nat → Int32) (se : Nat → Int32) (sm : Int64) (rs : Nat → Int64) (wk : Nat → Int32) (ors : Nat → Int64) (owk : Nat → Int32) (j : Nat) (t : Int32) (al : Int32) (hj : j < 4) (hlk : ¬ (f_Mo_lacks kn j t).1 = 0) (R : Int32) (hR : f_Mo_isNotFor_e kn j t = R) : Met l y_Md_isNotFor (k_Md_isNotFor :: gt) rm_Md_isNotFor (Pc0 D cI cJ cZ cO [.ref a, .int (nI j), .int t, .int al] (fun H => va_P D cls (wMo cI cJ cZ a code kn ed ct ti nm xa xb ma it vs se sm rs wk ors owk) H)) (Qd (blk a 15) (some (.int 1)) (fun H => va_P D cls (wMo cI cJ cZ a R kn ed ct ti nm xa xb ma it vs se sm rs wk ors owk) H)) 0 0 (blk a 15) := by
  refine Met.ofW (cc := c_Md_isNotFor) (maxL := 4) (ret := (Option.some FieldType.boolean)) (by decide) rfl ?_
  intro p e s m args below meth c s₁ B hml hv
  obtain ⟨rfl, hKn, hP⟩ := hv
  have hx := B.exec
  have hb := B.bytes
  have hr := B.returns
  have hts := atoms_spec (ws := k_Md_isNotFor :: gt) B.pre
  have hg : ∀ w ∈ gt, w.before _ s = true := fun w h => hts w (List.mem_cons_of_mem _ h)
  have hown : s.vm.findClass R_Md = some m.cls := findClass_of_methodNamed B.named
  have hlocks := B.notSynchronized
  have hK := hKn.1
  have hl := lv_entry ([.ref a, .int (nI j), .int t, .int al]) (n := 4) (Nat.le_of_ble_eq_true rfl)
  rw [lg_entry_eq]
  generalize (lg_sl ([.ref a, .int (nI j), .int t, .int al]) ++ List.replicate (4 - (lg_sl ([.ref a, .int (nI j), .int t, .int al])).length) Slot.unset).toArray = ls at hl ⊢
  have hl : lv_has ls 4 [(0, .ref a), (1, .int (nI j)), (2, .int t), (3, .int al)] := hl
  have hS : va_S (blk a 15) s.heap s.heap [] := va_S.rf
  have hD : va_D (blk a 15) (wMo cI cJ cZ a code kn ed ct ti nm xa xb ma it vs se sm rs wk ors owk) := (blk_D (wMo_in))
  have hR : (((f_Mo_lacks kn j t).2)) = R := hR
  refine lv_aload_n hx hb d_Md_isNotFor_0 rfl (lv_at hl 0 rfl) ?_
  refine lv_iload_n hx hb d_Md_isNotFor_1 rfl (lv_at hl 1 rfl) ?_
  refine lv_iload_n hx hb d_Md_isNotFor_2 rfl (lv_at hl 2 rfl) ?_
  refine ep_callH (W.runV (As := [.int (nI j), .int t]) (rest := []) ⟨hx, hb, hml, hown, hg⟩ (m_Mo_lacks l D cI cJ cZ cO a code kn ed ct ti nm xa xb ma it vs se sm rs wk ors owk j t (by omega) _ rfl) (ep_cwV 2 hg tw_773 tw_775 ts_9 tw_12 tk_Md_lacks rfl rfl (by decide +kernel) ⟨(Nat.le_of_ble_eq_true rfl), (Nat.le_of_ble_eq_true rfl)⟩) ⟨ep_blind, va_recv (q0 := 0) (ci := 9) hK hP rfl rfl, ep_pre hKn (hP)⟩ rfl rfl hl.1 rfl (lv_room (Nat.le_of_ble_eq_true rfl)) d_Md_isNotFor_3 ⟨Nat.zero_le _, Nat.zero_le _⟩) hS (fun q h => h) (fun H locs hsz9 hk1 hP1 hS => ?_)
  refine W.eq (g2 := F0 m 6 ls [.int ((f_Mo_lacks kn j t).1)]) rfl ?_
  have hP : va_P D cls (wMo cI cJ cZ a ((f_Mo_lacks kn j t).2) kn ed ct ti nm xa xb ma it vs se sm rs wk ors owk) H := hP1
  have hD : va_D (blk a 15) (wMo cI cJ cZ a ((f_Mo_lacks kn j t).2) kn ed ct ti nm xa xb ma it vs se sm rs wk ors owk) := (blk_D (wMo_in))
  refine lv_if_eq (tgt := 11) hx hb d_Md_isNotFor_6 (by decide) (fun hc => absurd hc hlk) (fun hc => ?_)
  refine lv_iconst (v := 1) hx hb d_Md_isNotFor_9 (by decide) ?_
  subst hR
  exact W.zret (v := 1) hx hb hr (by decide) (fun t9 ht hW => ⟨rfl, hS.F ht, by rw [ht]; exact hP⟩) hS.2.2 d_Md_isNotFor_10

def f_Mo_isNotFor_b  : Int32 := f_Mo_lacks_b.2
set_option maxHeartbeats 4000000 in
set_option maxRecDepth 100000 in
theorem m_Mo_isNotFor_b (l : Launch) (D : va_G) (cI cJ cZ cO : ClassId) (a : Nat) (code : Int32) (kn : Nat → Int32) (ed : Nat → Int32) (ct : Nat → Int32) (ti : Nat → Int32) (nm : Nat → Int32) (xa : Nat → Int32) (xb : Nat → Int32) (ma : Int32) (it : Nat → Int32) (vs : Nat → Int32) (se : Nat → Int32) (sm : Int64) (rs : Nat → Int64) (wk : Nat → Int32) (ors : Nat → Int64) (owk : Nat → Int32) (id : Int32) (t : Int32) (al : Int32) (hid : ¬ okI id) (R : Int32) (hR : f_Mo_isNotFor_b = R) : Met l y_Md_isNotFor (k_Md_isNotFor :: gt) rm_Md_isNotFor (Pc0 D cI cJ cZ cO [.ref a, .int id, .int t, .int al] (fun H => va_P D cls (wMo cI cJ cZ a code kn ed ct ti nm xa xb ma it vs se sm rs wk ors owk) H)) (Qd (blk a 15) (some (.int 1)) (fun H => va_P D cls (wMo cI cJ cZ a R kn ed ct ti nm xa xb ma it vs se sm rs wk ors owk) H)) 0 0 (blk a 15) := by
  refine Met.ofW (cc := c_Md_isNotFor) (maxL := 4) (ret := (Option.some FieldType.boolean)) (by decide) rfl ?_
  intro p e s m args below meth c s₁ B hml hv
  obtain ⟨rfl, hKn, hP⟩ := hv
  have hx := B.exec
  have hb := B.bytes
  have hr := B.returns
  have hts := atoms_spec (ws := k_Md_isNotFor :: gt) B.pre
  have hg : ∀ w ∈ gt, w.before _ s = true := fun w h => hts w (List.mem_cons_of_mem _ h)
  have hown : s.vm.findClass R_Md = some m.cls := findClass_of_methodNamed B.named
  have hlocks := B.notSynchronized
  have hK := hKn.1
  have hl := lv_entry ([.ref a, .int id, .int t, .int al]) (n := 4) (Nat.le_of_ble_eq_true rfl)
  rw [lg_entry_eq]
  generalize (lg_sl ([.ref a, .int id, .int t, .int al]) ++ List.replicate (4 - (lg_sl ([.ref a, .int id, .int t, .int al])).length) Slot.unset).toArray = ls at hl ⊢
  have hl : lv_has ls 4 [(0, .ref a), (1, .int id), (2, .int t), (3, .int al)] := hl
  have hS : va_S (blk a 15) s.heap s.heap [] := va_S.rf
  have hD : va_D (blk a 15) (wMo cI cJ cZ a code kn ed ct ti nm xa xb ma it vs se sm rs wk ors owk) := (blk_D (wMo_in))
  have hR : (f_Mo_lacks_b.2) = R := hR
  refine lv_aload_n hx hb d_Md_isNotFor_0 rfl (lv_at hl 0 rfl) ?_
  refine lv_iload_n hx hb d_Md_isNotFor_1 rfl (lv_at hl 1 rfl) ?_
  refine lv_iload_n hx hb d_Md_isNotFor_2 rfl (lv_at hl 2 rfl) ?_
  refine ep_callH (W.runV (As := [.int id, .int t]) (rest := []) ⟨hx, hb, hml, hown, hg⟩ (m_Mo_lacks_b l D cI cJ cZ cO a code kn ed ct ti nm xa xb ma it vs se sm rs wk ors owk id t hid _ rfl) (ep_cwV 2 hg tw_773 tw_775 ts_9 tw_12 tk_Md_lacks rfl rfl (by decide +kernel) ⟨(Nat.le_of_ble_eq_true rfl), (Nat.le_of_ble_eq_true rfl)⟩) ⟨ep_blind, va_recv (q0 := 0) (ci := 9) hK hP rfl rfl, ep_pre hKn (hP)⟩ rfl rfl hl.1 rfl (lv_room (Nat.le_of_ble_eq_true rfl)) d_Md_isNotFor_3 ⟨Nat.zero_le _, Nat.zero_le _⟩) hS (fun q h => h) (fun H locs hsz9 hk1 hP1 hS => ?_)
  refine W.eq (g2 := F0 m 6 ls [.int f_Mo_lacks_b.1]) rfl ?_
  have hP : va_P D cls (wMo cI cJ cZ a f_Mo_lacks_b.2 kn ed ct ti nm xa xb ma it vs se sm rs wk ors owk) H := hP1
  have hD : va_D (blk a 15) (wMo cI cJ cZ a f_Mo_lacks_b.2 kn ed ct ti nm xa xb ma it vs se sm rs wk ors owk) := (blk_D (wMo_in))
  refine lv_topi (fun z9 e_z9 => ?_)
  obtain rfl : z9 = 1 := by rw [e_z9]; exact rfl
  refine lv_if_eq (tgt := 11) hx hb d_Md_isNotFor_6 (by decide) (fun hc => False.elim (by revert hc; decide)) (fun hc => ?_)
  refine lv_iconst (v := 1) hx hb d_Md_isNotFor_9 (by decide) ?_
  subst hR
  exact W.zret (v := 1) hx hb hr (by decide) (fun t9 ht hW => ⟨rfl, hS.F ht, by rw [ht]; exact hP⟩) hS.2.2 d_Md_isNotFor_10

def f_Mo_isNotFor_w  : Unit := ()
set_option maxHeartbeats 4000000 in
set_option maxRecDepth 100000 in
theorem m_Mo_isNotFor_w (l : Launch) (D : va_G) (cI cJ cZ cO : ClassId) (a : Nat) (code : Int32) (kn : Nat → Int32) (ed : Nat → Int32) (ct : Nat → Int32) (ti : Nat → Int32) (nm : Nat → Int32) (xa : Nat → Int32) (xb : Nat → Int32) (ma : Int32) (it : Nat → Int32) (vs : Nat → Int32) (se : Nat → Int32) (sm : Int64) (rs : Nat → Int64) (wk : Nat → Int32) (ors : Nat → Int64) (owk : Nat → Int32) (j : Nat) (t : Int32) (al : Int32) (hj : j < 4) (hlk : (f_Mo_lacks kn j t).1 = 0) (hw : ¬ ((al >>> (((kn j) - 1) &&& 31)) &&& 1) = 1) (R : Unit) (hR : f_Mo_isNotFor_w = R) : Met l y_Md_isNotFor (k_Md_isNotFor :: gt) rm_Md_isNotFor (Pc0 D cI cJ cZ cO [.ref a, .int (nI j), .int t, .int al] (fun H => va_P D cls (wMo cI cJ cZ a code kn ed ct ti nm xa xb ma it vs se sm rs wk ors owk) H)) (Qd (blk a 15) (some (.int 1)) (fun H => va_P D cls (wMo cI cJ cZ a 2 kn ed ct ti nm xa xb ma it vs se sm rs wk ors owk) H)) 0 0 (blk a 15) := by
  refine Met.ofW (cc := c_Md_isNotFor) (maxL := 4) (ret := (Option.some FieldType.boolean)) (by decide) rfl ?_
  intro p e s m args below meth c s₁ B hml hv
  obtain ⟨rfl, hKn, hP⟩ := hv
  have hx := B.exec
  have hb := B.bytes
  have hr := B.returns
  have hts := atoms_spec (ws := k_Md_isNotFor :: gt) B.pre
  have hg : ∀ w ∈ gt, w.before _ s = true := fun w h => hts w (List.mem_cons_of_mem _ h)
  have hown : s.vm.findClass R_Md = some m.cls := findClass_of_methodNamed B.named
  have hlocks := B.notSynchronized
  have hK := hKn.1
  have hl := lv_entry ([.ref a, .int (nI j), .int t, .int al]) (n := 4) (Nat.le_of_ble_eq_true rfl)
  rw [lg_entry_eq]
  generalize (lg_sl ([.ref a, .int (nI j), .int t, .int al]) ++ List.replicate (4 - (lg_sl ([.ref a, .int (nI j), .int t, .int al])).length) Slot.unset).toArray = ls at hl ⊢
  have hl : lv_has ls 4 [(0, .ref a), (1, .int (nI j)), (2, .int t), (3, .int al)] := hl
  have hS : va_S (blk a 15) s.heap s.heap [] := va_S.rf
  have hD : va_D (blk a 15) (wMo cI cJ cZ a code kn ed ct ti nm xa xb ma it vs se sm rs wk ors owk) := (blk_D (wMo_in))
  have hR : (()) = R := hR
  refine lv_aload_n hx hb d_Md_isNotFor_0 rfl (lv_at hl 0 rfl) ?_
  refine lv_iload_n hx hb d_Md_isNotFor_1 rfl (lv_at hl 1 rfl) ?_
  refine lv_iload_n hx hb d_Md_isNotFor_2 rfl (lv_at hl 2 rfl) ?_
  refine ep_callH (W.runV (As := [.int (nI j), .int t]) (rest := []) ⟨hx, hb, hml, hown, hg⟩ (m_Mo_lacks l D cI cJ cZ cO a code kn ed ct ti nm xa xb ma it vs se sm rs wk ors owk j t (by omega) _ rfl) (ep_cwV 2 hg tw_773 tw_775 ts_9 tw_12 tk_Md_lacks rfl rfl (by decide +kernel) ⟨(Nat.le_of_ble_eq_true rfl), (Nat.le_of_ble_eq_true rfl)⟩) ⟨ep_blind, va_recv (q0 := 0) (ci := 9) hK hP rfl rfl, ep_pre hKn (hP)⟩ rfl rfl hl.1 rfl (lv_room (Nat.le_of_ble_eq_true rfl)) d_Md_isNotFor_3 ⟨Nat.zero_le _, Nat.zero_le _⟩) hS (fun q h => h) (fun H locs hsz9 hk1 hP1 hS => ?_)
  refine W.eq (g2 := F0 m 6 ls [.int ((f_Mo_lacks kn j t).1)]) rfl ?_
  have hP : va_P D cls (wMo cI cJ cZ a ((f_Mo_lacks kn j t).2) kn ed ct ti nm xa xb ma it vs se sm rs wk ors owk) H := hP1
  have hD : va_D (blk a 15) (wMo cI cJ cZ a ((f_Mo_lacks kn j t).2) kn ed ct ti nm xa xb ma it vs se sm rs wk ors owk) := (blk_D (wMo_in))
  refine lv_if_eq (tgt := 11) hx hb d_Md_isNotFor_6 (by decide) (fun hc => ?_) (fun hc => absurd hlk hc)
  refine lv_aload_n hx hb d_Md_isNotFor_11 rfl (lv_at hl 0 rfl) ?_
  refine lv_iload_n hx hb d_Md_isNotFor_12 rfl (lv_at hl 3 rfl) ?_
  refine lv_aload_n hx hb d_Md_isNotFor_13 rfl (lv_at hl 0 rfl) ?_
  refine lv_iload_n hx hb d_Md_isNotFor_14 rfl (lv_at hl 1 rfl) ?_
  refine ep_callP (W.runV (As := [.int (nI j)]) (rest := [.int al, .ref a]) ⟨hx, hb, hml, hown, hg⟩ (m_Mo_kindOf l D cI cJ cZ cO a ((f_Mo_lacks kn j t).2) kn ed ct ti nm xa xb ma it vs se sm rs wk ors owk j (by omega) _ rfl) (ep_cwV 1 hg tw_789 tw_791 ts_11 tw_12 tk_Md_kindOf rfl rfl (by decide +kernel) ⟨(Nat.le_of_ble_eq_true rfl), (Nat.le_of_ble_eq_true rfl)⟩) ⟨ep_blind, va_recv (q0 := 0) (ci := 9) hK hP rfl rfl, ep_pre hKn (hP)⟩ rfl rfl hl.1 rfl (lv_room (Nat.le_of_ble_eq_true rfl)) d_Md_isNotFor_15 ⟨Nat.zero_le _, Nat.zero_le _⟩) ?_
  refine W.eq (g2 := F0 m 18 ls [.int (f_Mo_kindOf kn j), .int al, .ref a]) rfl ?_
  refine lv_topi (fun z9 e_z9 => ?_)
  obtain rfl : z9 = (kn j) - 1 := by rw [e_z9]; exact rfl
  refine lv_ishr hx hb d_Md_isNotFor_18 ?_
  refine lv_iconst (v := 1) hx hb d_Md_isNotFor_19 (by decide) ?_
  refine lv_iand hx hb d_Md_isNotFor_20 ?_
  refine lv_iconst (v := 1) hx hb d_Md_isNotFor_21 (by decide) ?_
  refine lv_icmp_ne (tgt := 29) hx hb d_Md_isNotFor_22 (by decide) (fun hc => ?_) (fun hc => absurd hc hw)
  refine lv_iconst (v := 2) hx hb d_Md_isNotFor_29 (by decide) ?_
  refine va_put (D := D) (ci := 9) (v := .int 2) (ty := .int) (C := R_Md) (T := F_Md) (N := 17) hx hb hg in_Md t_Md t_Md_ok n_Md hown hK hP hD hS 0 rfl rfl 0 (Nat.le_of_ble_eq_true rfl) (hg _ tw_706) (fun _ h9 => h9) rfl (by decide +kernel) rfl rfl (Nat.le_of_ble_eq_true rfl) d_Md_isNotFor_30 (fun H locs hP hD hS => ?_)
  have hP : va_P D cls (wMo cI cJ cZ a 2 kn ed ct ti nm xa xb ma it vs se sm rs wk ors owk) H := hP
  have hD : va_D (blk a 15) (wMo cI cJ cZ a 2 kn ed ct ti nm xa xb ma it vs se sm rs wk ors owk) := hD
  refine lv_aload_n hx hb d_Md_isNotFor_33 rfl (lv_at hl 0 rfl) ?_
  refine va_get (D := D) (ci := 9) (v := .int 2) (C := R_Md) (T := F_Md) (N := 17) hx hb hg in_Md hown hK hP 0 rfl rfl 0 (Nat.le_of_ble_eq_true rfl) (hg _ tw_706) (fun _ h9 => h9) rfl d_Md_isNotFor_34 ?_
  refine lv_if_ne (tgt := 51) hx hb d_Md_isNotFor_37 (by decide) (fun hc => ?_) (fun hc => False.elim (by revert hc; decide))
  refine lv_aload_n hx hb d_Md_isNotFor_51 rfl (lv_at hl 0 rfl) ?_
  refine va_get (D := D) (ci := 9) (v := .int 2) (C := R_Md) (T := F_Md) (N := 17) hx hb hg in_Md hown hK hP 0 rfl rfl 0 (Nat.le_of_ble_eq_true rfl) (hg _ tw_706) (fun _ h9 => h9) rfl d_Md_isNotFor_52 ?_
  refine lv_if_le (tgt := 62) hx hb d_Md_isNotFor_55 (by decide) (fun hc => False.elim (by revert hc; decide)) (fun hc => ?_)
  refine lv_iconst (v := 1) hx hb d_Md_isNotFor_58 (by decide) ?_
  refine lv_goto (tgt := 63) hx hb d_Md_isNotFor_59 (by decide) ?_
  subst hR
  exact W.zret (v := 1) hx hb hr (by decide) (fun t9 ht hW => ⟨rfl, hS.F ht, by rw [ht]; exact hP⟩) hS.2.2 d_Md_isNotFor_63

def f_Mo_isNotFor_0_3 (ti : Nat → Int32) (nm : Nat → Int32) (xa : Nat → Int32) (it : Nat → Int32) (vs : Nat → Int32) (se : Nat → Int32) (rs : Nat → Int64) (wk : Nat → Int32) (n : Nat) (j : Nat) (t : Int32) : Nat × (Nat → Int32) × (Nat → Int32) × (Nat → Int32) × Int64 × (Nat → Int64) × (Nat → Int32) := ((f_Mo_run_0 ti nm xa it vs se rs wk n j t).1, (f_Mo_run_0 ti nm xa it vs se rs wk n j t).2.1, (f_Mo_run_0 ti nm xa it vs se rs wk n j t).2.2.1, (f_Mo_run_0 ti nm xa it vs se rs wk n j t).2.2.2.1, (f_Mo_run_0 ti nm xa it vs se rs wk n j t).2.2.2.2.1, (f_Mo_run_0 ti nm xa it vs se rs wk n j t).2.2.2.2.2.1, (f_Mo_run_0 ti nm xa it vs se rs wk n j t).2.2.2.2.2.2)
set_option maxHeartbeats 4000000 in
set_option maxRecDepth 100000 in
theorem m_Mo_isNotFor_0_3 (l : Launch) (D : va_G) (cI cJ cZ cO : ClassId) (a : Nat) (code : Int32) (kn : Nat → Int32) (ed : Nat → Int32) (ct : Nat → Int32) (ti : Nat → Int32) (nm : Nat → Int32) (xa : Nat → Int32) (xb : Nat → Int32) (ma : Int32) (it : Nat → Int32) (vs : Nat → Int32) (se : Nat → Int32) (sm : Int64) (rs : Nat → Int64) (wk : Nat → Int32) (ors : Nat → Int64) (owk : Nat → Int32) (n : Nat) (j : Nat) (t : Int32) (hj : j < 4) (hlk : (f_Mo_lacks kn j t).1 = 0) (hk : kn j = 1) (hct : ct j = nI n) (hn : n ≤ 32) (R : Nat × (Nat → Int32) × (Nat → Int32) × (Nat → Int32) × Int64 × (Nat → Int64) × (Nat → Int32)) (hR : f_Mo_isNotFor_0_3 ti nm xa it vs se rs wk n j t = R) : Met l y_Md_isNotFor (k_Md_isNotFor :: gt) rm_Md_isNotFor (Pc0 D cI cJ cZ cO [.ref a, .int (nI j), .int t, .int 3] (fun H => va_P D cls (wMo cI cJ cZ a code kn ed ct ti nm xa xb ma it vs se sm rs wk ors owk) H)) (Qd (blk a 15) (some (.int 0)) (fun H => va_P D cls (wMo cI cJ cZ a 0 kn ed ct ti nm xa xb (nI R.1) R.2.1 R.2.2.1 R.2.2.2.1 R.2.2.2.2.1 R.2.2.2.2.2.1 R.2.2.2.2.2.2 ors owk) H)) 0 0 (blk a 15) := by
  refine Met.ofW (cc := c_Md_isNotFor) (maxL := 4) (ret := (Option.some FieldType.boolean)) (by decide) rfl ?_
  intro p e s m args below meth c s₁ B hml hv
  obtain ⟨rfl, hKn, hP⟩ := hv
  have hx := B.exec
  have hb := B.bytes
  have hr := B.returns
  have hts := atoms_spec (ws := k_Md_isNotFor :: gt) B.pre
  have hg : ∀ w ∈ gt, w.before _ s = true := fun w h => hts w (List.mem_cons_of_mem _ h)
  have hown : s.vm.findClass R_Md = some m.cls := findClass_of_methodNamed B.named
  have hlocks := B.notSynchronized
  have hK := hKn.1
  have hl := lv_entry ([.ref a, .int (nI j), .int t, .int 3]) (n := 4) (Nat.le_of_ble_eq_true rfl)
  rw [lg_entry_eq]
  generalize (lg_sl ([.ref a, .int (nI j), .int t, .int 3]) ++ List.replicate (4 - (lg_sl ([.ref a, .int (nI j), .int t, .int 3])).length) Slot.unset).toArray = ls at hl ⊢
  have hl : lv_has ls 4 [(0, .ref a), (1, .int (nI j)), (2, .int t), (3, .int 3)] := hl
  have hS : va_S (blk a 15) s.heap s.heap [] := va_S.rf
  have hD : va_D (blk a 15) (wMo cI cJ cZ a code kn ed ct ti nm xa xb ma it vs se sm rs wk ors owk) := (blk_D (wMo_in))
  have hR : (((f_Mo_run_0 ti nm xa it vs se rs wk n j t).1, (f_Mo_run_0 ti nm xa it vs se rs wk n j t).2.1, (f_Mo_run_0 ti nm xa it vs se rs wk n j t).2.2.1, (f_Mo_run_0 ti nm xa it vs se rs wk n j t).2.2.2.1, (f_Mo_run_0 ti nm xa it vs se rs wk n j t).2.2.2.2.1, (f_Mo_run_0 ti nm xa it vs se rs wk n j t).2.2.2.2.2.1, (f_Mo_run_0 ti nm xa it vs se rs wk n j t).2.2.2.2.2.2)) = R := hR
  refine lv_aload_n hx hb d_Md_isNotFor_0 rfl (lv_at hl 0 rfl) ?_
  refine lv_iload_n hx hb d_Md_isNotFor_1 rfl (lv_at hl 1 rfl) ?_
  refine lv_iload_n hx hb d_Md_isNotFor_2 rfl (lv_at hl 2 rfl) ?_
  refine ep_callH (W.runV (As := [.int (nI j), .int t]) (rest := []) ⟨hx, hb, hml, hown, hg⟩ (m_Mo_lacks l D cI cJ cZ cO a code kn ed ct ti nm xa xb ma it vs se sm rs wk ors owk j t (by omega) _ rfl) (ep_cwV 2 hg tw_773 tw_775 ts_9 tw_12 tk_Md_lacks rfl rfl (by decide +kernel) ⟨(Nat.le_of_ble_eq_true rfl), (Nat.le_of_ble_eq_true rfl)⟩) ⟨ep_blind, va_recv (q0 := 0) (ci := 9) hK hP rfl rfl, ep_pre hKn (hP)⟩ rfl rfl hl.1 rfl (lv_room (Nat.le_of_ble_eq_true rfl)) d_Md_isNotFor_3 ⟨Nat.zero_le _, Nat.zero_le _⟩) hS (fun q h => h) (fun H locs hsz9 hk1 hP1 hS => ?_)
  refine W.eq (g2 := F0 m 6 ls [.int ((f_Mo_lacks kn j t).1)]) rfl ?_
  have hP : va_P D cls (wMo cI cJ cZ a ((f_Mo_lacks kn j t).2) kn ed ct ti nm xa xb ma it vs se sm rs wk ors owk) H := hP1
  have hD : va_D (blk a 15) (wMo cI cJ cZ a ((f_Mo_lacks kn j t).2) kn ed ct ti nm xa xb ma it vs se sm rs wk ors owk) := (blk_D (wMo_in))
  refine lv_if_eq (tgt := 11) hx hb d_Md_isNotFor_6 (by decide) (fun hc => ?_) (fun hc => absurd hlk hc)
  refine lv_aload_n hx hb d_Md_isNotFor_11 rfl (lv_at hl 0 rfl) ?_
  refine lv_iload_n hx hb d_Md_isNotFor_12 rfl (lv_at hl 3 rfl) ?_
  refine lv_aload_n hx hb d_Md_isNotFor_13 rfl (lv_at hl 0 rfl) ?_
  refine lv_iload_n hx hb d_Md_isNotFor_14 rfl (lv_at hl 1 rfl) ?_
  refine ep_callP (W.runV (As := [.int (nI j)]) (rest := [.int 3, .ref a]) ⟨hx, hb, hml, hown, hg⟩ (m_Mo_kindOf l D cI cJ cZ cO a ((f_Mo_lacks kn j t).2) kn ed ct ti nm xa xb ma it vs se sm rs wk ors owk j (by omega) _ rfl) (ep_cwV 1 hg tw_789 tw_791 ts_11 tw_12 tk_Md_kindOf rfl rfl (by decide +kernel) ⟨(Nat.le_of_ble_eq_true rfl), (Nat.le_of_ble_eq_true rfl)⟩) ⟨ep_blind, va_recv (q0 := 0) (ci := 9) hK hP rfl rfl, ep_pre hKn (hP)⟩ rfl rfl hl.1 rfl (lv_room (Nat.le_of_ble_eq_true rfl)) d_Md_isNotFor_15 ⟨Nat.zero_le _, Nat.zero_le _⟩) ?_
  refine W.eq (g2 := F0 m 18 ls [.int (f_Mo_kindOf kn j), .int 3, .ref a]) rfl ?_
  refine lv_topi (fun z9 e_z9 => ?_)
  obtain rfl : z9 = 0 := by rw [e_z9]; exact (by rw [show f_Mo_kindOf kn j = kn j - 1 from rfl, hk]; decide)
  refine lv_ishr hx hb d_Md_isNotFor_18 ?_
  refine lv_topi (fun z9 e_z9 => ?_)
  obtain rfl : z9 = 3 := by rw [e_z9]; exact (by decide)
  refine lv_iconst (v := 1) hx hb d_Md_isNotFor_19 (by decide) ?_
  refine lv_iand hx hb d_Md_isNotFor_20 ?_
  refine lv_topi (fun z9 e_z9 => ?_)
  obtain rfl : z9 = 1 := by rw [e_z9]; exact (by decide)
  refine lv_iconst (v := 1) hx hb d_Md_isNotFor_21 (by decide) ?_
  refine lv_icmp_ne (tgt := 29) hx hb d_Md_isNotFor_22 (by decide) (fun hc => False.elim (by revert hc; decide)) (fun hc => ?_)
  refine lv_iconst (v := 0) hx hb d_Md_isNotFor_25 (by decide) ?_
  refine lv_goto (tgt := 30) hx hb d_Md_isNotFor_26 (by decide) ?_
  refine va_put (D := D) (ci := 9) (v := .int 0) (ty := .int) (C := R_Md) (T := F_Md) (N := 17) hx hb hg in_Md t_Md t_Md_ok n_Md hown hK hP hD hS 0 rfl rfl 0 (Nat.le_of_ble_eq_true rfl) (hg _ tw_706) (fun _ h9 => h9) rfl (by decide +kernel) rfl rfl (Nat.le_of_ble_eq_true rfl) d_Md_isNotFor_30 (fun H locs hP hD hS => ?_)
  have hP : va_P D cls (wMo cI cJ cZ a 0 kn ed ct ti nm xa xb ma it vs se sm rs wk ors owk) H := hP
  have hD : va_D (blk a 15) (wMo cI cJ cZ a 0 kn ed ct ti nm xa xb ma it vs se sm rs wk ors owk) := hD
  refine lv_aload_n hx hb d_Md_isNotFor_33 rfl (lv_at hl 0 rfl) ?_
  refine va_get (D := D) (ci := 9) (v := .int 0) (C := R_Md) (T := F_Md) (N := 17) hx hb hg in_Md hown hK hP 0 rfl rfl 0 (Nat.le_of_ble_eq_true rfl) (hg _ tw_706) (fun _ h9 => h9) rfl d_Md_isNotFor_34 ?_
  refine lv_if_ne (tgt := 51) hx hb d_Md_isNotFor_37 (by decide) (fun hc => False.elim (by revert hc; decide)) (fun hc => ?_)
  refine lv_aload_n hx hb d_Md_isNotFor_40 rfl (lv_at hl 0 rfl) ?_
  refine lv_iload_n hx hb d_Md_isNotFor_41 rfl (lv_at hl 1 rfl) ?_
  refine lv_aload_n hx hb d_Md_isNotFor_42 rfl (lv_at hl 0 rfl) ?_
  refine lv_iload_n hx hb d_Md_isNotFor_43 rfl (lv_at hl 1 rfl) ?_
  refine ep_callP (W.runV (As := [.int (nI j)]) (rest := [.int (nI j), .ref a]) ⟨hx, hb, hml, hown, hg⟩ (m_Mo_kindOf l D cI cJ cZ cO a 0 kn ed ct ti nm xa xb ma it vs se sm rs wk ors owk j (by omega) _ rfl) (ep_cwV 1 hg tw_789 tw_791 ts_11 tw_12 tk_Md_kindOf rfl rfl (by decide +kernel) ⟨(Nat.le_of_ble_eq_true rfl), (Nat.le_of_ble_eq_true rfl)⟩) ⟨ep_blind, va_recv (q0 := 0) (ci := 9) hK hP rfl rfl, ep_pre hKn (hP)⟩ rfl rfl hl.1 rfl (lv_room (Nat.le_of_ble_eq_true rfl)) d_Md_isNotFor_44 ⟨Nat.zero_le _, Nat.zero_le _⟩) ?_
  refine W.eq (g2 := F0 m 47 ls [.int (f_Mo_kindOf kn j), .int (nI j), .ref a]) rfl ?_
  refine lv_topi (fun z9 e_z9 => ?_)
  obtain rfl : z9 = 0 := by rw [e_z9]; exact (by rw [show f_Mo_kindOf kn j = kn j - 1 from rfl, hk]; decide)
  refine lv_iload_n hx hb d_Md_isNotFor_47 rfl (lv_at hl 2 rfl) ?_
  refine ep_callH (W.runV (As := [.int (nI j), .int 0, .int t]) (rest := []) ⟨hx, hb, hml, hown, hg⟩ (m_Mo_run_0 l D cI cJ cZ cO a 0 kn ed ct ti nm xa xb ma it vs se sm rs wk ors owk n j t (by omega) hct (by omega) _ rfl) (ep_cwV 3 hg tw_832 tw_834 ts_17 tw_12 tk_Md_run rfl rfl (by decide +kernel) ⟨(Nat.le_of_ble_eq_true rfl), (Nat.le_of_ble_eq_true rfl)⟩) ⟨ep_blind, va_recv (q0 := 0) (ci := 9) hK hP rfl rfl, ep_pre hKn (hP)⟩ rfl rfl hl.1 rfl (lv_room (Nat.le_of_ble_eq_true rfl)) d_Md_isNotFor_48 ⟨Nat.zero_le _, Nat.zero_le _⟩) hS (fun q h => h) (fun H locs hsz9 hk1 hP1 hS => ?_)
  refine W.eq (g2 := F0 m 51 ls []) rfl ?_
  have hP : va_P D cls (wMo cI cJ cZ a 0 kn ed ct ti nm xa xb (nI ((f_Mo_run_0 ti nm xa it vs se rs wk n j t).1)) ((f_Mo_run_0 ti nm xa it vs se rs wk n j t).2.1) ((f_Mo_run_0 ti nm xa it vs se rs wk n j t).2.2.1) ((f_Mo_run_0 ti nm xa it vs se rs wk n j t).2.2.2.1) ((f_Mo_run_0 ti nm xa it vs se rs wk n j t).2.2.2.2.1) ((f_Mo_run_0 ti nm xa it vs se rs wk n j t).2.2.2.2.2.1) ((f_Mo_run_0 ti nm xa it vs se rs wk n j t).2.2.2.2.2.2) ors owk) H := hP1
  have hD : va_D (blk a 15) (wMo cI cJ cZ a 0 kn ed ct ti nm xa xb (nI ((f_Mo_run_0 ti nm xa it vs se rs wk n j t).1)) ((f_Mo_run_0 ti nm xa it vs se rs wk n j t).2.1) ((f_Mo_run_0 ti nm xa it vs se rs wk n j t).2.2.1) ((f_Mo_run_0 ti nm xa it vs se rs wk n j t).2.2.2.1) ((f_Mo_run_0 ti nm xa it vs se rs wk n j t).2.2.2.2.1) ((f_Mo_run_0 ti nm xa it vs se rs wk n j t).2.2.2.2.2.1) ((f_Mo_run_0 ti nm xa it vs se rs wk n j t).2.2.2.2.2.2) ors owk) := (blk_D (wMo_in))
  refine lv_aload_n hx hb d_Md_isNotFor_51 rfl (lv_at hl 0 rfl) ?_
  refine va_get (D := D) (ci := 9) (v := .int 0) (C := R_Md) (T := F_Md) (N := 17) hx hb hg in_Md hown hK hP 0 rfl rfl 0 (Nat.le_of_ble_eq_true rfl) (hg _ tw_706) (fun _ h9 => h9) rfl d_Md_isNotFor_52 ?_
  refine lv_if_le (tgt := 62) hx hb d_Md_isNotFor_55 (by decide) (fun hc => ?_) (fun hc => False.elim (by revert hc; decide))
  refine lv_iconst (v := 0) hx hb d_Md_isNotFor_62 (by decide) ?_
  subst hR
  exact W.zret (v := 0) hx hb hr (by decide) (fun t9 ht hW => ⟨rfl, hS.F ht, by rw [ht]; exact hP⟩) hS.2.2 d_Md_isNotFor_63

def f_Mo_isNotFor_1_3 (ti : Nat → Int32) (nm : Nat → Int32) (xa : Nat → Int32) (it : Nat → Int32) (vs : Nat → Int32) (se : Nat → Int32) (rs : Nat → Int64) (wk : Nat → Int32) (n : Nat) (j : Nat) (t : Int32) : Nat × (Nat → Int32) × (Nat → Int32) × (Nat → Int32) × Int64 × (Nat → Int64) × (Nat → Int32) := ((f_Mo_run_1 ti nm xa it vs se rs wk n j t).1, (f_Mo_run_1 ti nm xa it vs se rs wk n j t).2.1, (f_Mo_run_1 ti nm xa it vs se rs wk n j t).2.2.1, (f_Mo_run_1 ti nm xa it vs se rs wk n j t).2.2.2.1, (f_Mo_run_1 ti nm xa it vs se rs wk n j t).2.2.2.2.1, (f_Mo_run_1 ti nm xa it vs se rs wk n j t).2.2.2.2.2.1, (f_Mo_run_1 ti nm xa it vs se rs wk n j t).2.2.2.2.2.2)
set_option maxHeartbeats 4000000 in
set_option maxRecDepth 100000 in
theorem m_Mo_isNotFor_1_3 (l : Launch) (D : va_G) (cI cJ cZ cO : ClassId) (a : Nat) (code : Int32) (kn : Nat → Int32) (ed : Nat → Int32) (ct : Nat → Int32) (ti : Nat → Int32) (nm : Nat → Int32) (xa : Nat → Int32) (xb : Nat → Int32) (ma : Int32) (it : Nat → Int32) (vs : Nat → Int32) (se : Nat → Int32) (sm : Int64) (rs : Nat → Int64) (wk : Nat → Int32) (ors : Nat → Int64) (owk : Nat → Int32) (n : Nat) (j : Nat) (t : Int32) (hj : j < 4) (hlk : (f_Mo_lacks kn j t).1 = 0) (hk : kn j = 2) (hct : ct j = nI n) (hn : n ≤ 32) (R : Nat × (Nat → Int32) × (Nat → Int32) × (Nat → Int32) × Int64 × (Nat → Int64) × (Nat → Int32)) (hR : f_Mo_isNotFor_1_3 ti nm xa it vs se rs wk n j t = R) : Met l y_Md_isNotFor (k_Md_isNotFor :: gt) rm_Md_isNotFor (Pc0 D cI cJ cZ cO [.ref a, .int (nI j), .int t, .int 3] (fun H => va_P D cls (wMo cI cJ cZ a code kn ed ct ti nm xa xb ma it vs se sm rs wk ors owk) H)) (Qd (blk a 15) (some (.int 0)) (fun H => va_P D cls (wMo cI cJ cZ a 0 kn ed ct ti nm xa xb (nI R.1) R.2.1 R.2.2.1 R.2.2.2.1 R.2.2.2.2.1 R.2.2.2.2.2.1 R.2.2.2.2.2.2 ors owk) H)) 0 0 (blk a 15) := by
  refine Met.ofW (cc := c_Md_isNotFor) (maxL := 4) (ret := (Option.some FieldType.boolean)) (by decide) rfl ?_
  intro p e s m args below meth c s₁ B hml hv
  obtain ⟨rfl, hKn, hP⟩ := hv
  have hx := B.exec
  have hb := B.bytes
  have hr := B.returns
  have hts := atoms_spec (ws := k_Md_isNotFor :: gt) B.pre
  have hg : ∀ w ∈ gt, w.before _ s = true := fun w h => hts w (List.mem_cons_of_mem _ h)
  have hown : s.vm.findClass R_Md = some m.cls := findClass_of_methodNamed B.named
  have hlocks := B.notSynchronized
  have hK := hKn.1
  have hl := lv_entry ([.ref a, .int (nI j), .int t, .int 3]) (n := 4) (Nat.le_of_ble_eq_true rfl)
  rw [lg_entry_eq]
  generalize (lg_sl ([.ref a, .int (nI j), .int t, .int 3]) ++ List.replicate (4 - (lg_sl ([.ref a, .int (nI j), .int t, .int 3])).length) Slot.unset).toArray = ls at hl ⊢
  have hl : lv_has ls 4 [(0, .ref a), (1, .int (nI j)), (2, .int t), (3, .int 3)] := hl
  have hS : va_S (blk a 15) s.heap s.heap [] := va_S.rf
  have hD : va_D (blk a 15) (wMo cI cJ cZ a code kn ed ct ti nm xa xb ma it vs se sm rs wk ors owk) := (blk_D (wMo_in))
  have hR : (((f_Mo_run_1 ti nm xa it vs se rs wk n j t).1, (f_Mo_run_1 ti nm xa it vs se rs wk n j t).2.1, (f_Mo_run_1 ti nm xa it vs se rs wk n j t).2.2.1, (f_Mo_run_1 ti nm xa it vs se rs wk n j t).2.2.2.1, (f_Mo_run_1 ti nm xa it vs se rs wk n j t).2.2.2.2.1, (f_Mo_run_1 ti nm xa it vs se rs wk n j t).2.2.2.2.2.1, (f_Mo_run_1 ti nm xa it vs se rs wk n j t).2.2.2.2.2.2)) = R := hR
  refine lv_aload_n hx hb d_Md_isNotFor_0 rfl (lv_at hl 0 rfl) ?_
  refine lv_iload_n hx hb d_Md_isNotFor_1 rfl (lv_at hl 1 rfl) ?_
  refine lv_iload_n hx hb d_Md_isNotFor_2 rfl (lv_at hl 2 rfl) ?_
  refine ep_callH (W.runV (As := [.int (nI j), .int t]) (rest := []) ⟨hx, hb, hml, hown, hg⟩ (m_Mo_lacks l D cI cJ cZ cO a code kn ed ct ti nm xa xb ma it vs se sm rs wk ors owk j t (by omega) _ rfl) (ep_cwV 2 hg tw_773 tw_775 ts_9 tw_12 tk_Md_lacks rfl rfl (by decide +kernel) ⟨(Nat.le_of_ble_eq_true rfl), (Nat.le_of_ble_eq_true rfl)⟩) ⟨ep_blind, va_recv (q0 := 0) (ci := 9) hK hP rfl rfl, ep_pre hKn (hP)⟩ rfl rfl hl.1 rfl (lv_room (Nat.le_of_ble_eq_true rfl)) d_Md_isNotFor_3 ⟨Nat.zero_le _, Nat.zero_le _⟩) hS (fun q h => h) (fun H locs hsz9 hk1 hP1 hS => ?_)
  refine W.eq (g2 := F0 m 6 ls [.int ((f_Mo_lacks kn j t).1)]) rfl ?_
  have hP : va_P D cls (wMo cI cJ cZ a ((f_Mo_lacks kn j t).2) kn ed ct ti nm xa xb ma it vs se sm rs wk ors owk) H := hP1
  have hD : va_D (blk a 15) (wMo cI cJ cZ a ((f_Mo_lacks kn j t).2) kn ed ct ti nm xa xb ma it vs se sm rs wk ors owk) := (blk_D (wMo_in))
  refine lv_if_eq (tgt := 11) hx hb d_Md_isNotFor_6 (by decide) (fun hc => ?_) (fun hc => absurd hlk hc)
  refine lv_aload_n hx hb d_Md_isNotFor_11 rfl (lv_at hl 0 rfl) ?_
  refine lv_iload_n hx hb d_Md_isNotFor_12 rfl (lv_at hl 3 rfl) ?_
  refine lv_aload_n hx hb d_Md_isNotFor_13 rfl (lv_at hl 0 rfl) ?_
  refine lv_iload_n hx hb d_Md_isNotFor_14 rfl (lv_at hl 1 rfl) ?_
  refine ep_callP (W.runV (As := [.int (nI j)]) (rest := [.int 3, .ref a]) ⟨hx, hb, hml, hown, hg⟩ (m_Mo_kindOf l D cI cJ cZ cO a ((f_Mo_lacks kn j t).2) kn ed ct ti nm xa xb ma it vs se sm rs wk ors owk j (by omega) _ rfl) (ep_cwV 1 hg tw_789 tw_791 ts_11 tw_12 tk_Md_kindOf rfl rfl (by decide +kernel) ⟨(Nat.le_of_ble_eq_true rfl), (Nat.le_of_ble_eq_true rfl)⟩) ⟨ep_blind, va_recv (q0 := 0) (ci := 9) hK hP rfl rfl, ep_pre hKn (hP)⟩ rfl rfl hl.1 rfl (lv_room (Nat.le_of_ble_eq_true rfl)) d_Md_isNotFor_15 ⟨Nat.zero_le _, Nat.zero_le _⟩) ?_
  refine W.eq (g2 := F0 m 18 ls [.int (f_Mo_kindOf kn j), .int 3, .ref a]) rfl ?_
  refine lv_topi (fun z9 e_z9 => ?_)
  obtain rfl : z9 = 1 := by rw [e_z9]; exact (by rw [show f_Mo_kindOf kn j = kn j - 1 from rfl, hk]; decide)
  refine lv_ishr hx hb d_Md_isNotFor_18 ?_
  refine lv_topi (fun z9 e_z9 => ?_)
  obtain rfl : z9 = 1 := by rw [e_z9]; exact (by decide)
  refine lv_iconst (v := 1) hx hb d_Md_isNotFor_19 (by decide) ?_
  refine lv_iand hx hb d_Md_isNotFor_20 ?_
  refine lv_topi (fun z9 e_z9 => ?_)
  obtain rfl : z9 = 1 := by rw [e_z9]; exact (by decide)
  refine lv_iconst (v := 1) hx hb d_Md_isNotFor_21 (by decide) ?_
  refine lv_icmp_ne (tgt := 29) hx hb d_Md_isNotFor_22 (by decide) (fun hc => False.elim (by revert hc; decide)) (fun hc => ?_)
  refine lv_iconst (v := 0) hx hb d_Md_isNotFor_25 (by decide) ?_
  refine lv_goto (tgt := 30) hx hb d_Md_isNotFor_26 (by decide) ?_
  refine va_put (D := D) (ci := 9) (v := .int 0) (ty := .int) (C := R_Md) (T := F_Md) (N := 17) hx hb hg in_Md t_Md t_Md_ok n_Md hown hK hP hD hS 0 rfl rfl 0 (Nat.le_of_ble_eq_true rfl) (hg _ tw_706) (fun _ h9 => h9) rfl (by decide +kernel) rfl rfl (Nat.le_of_ble_eq_true rfl) d_Md_isNotFor_30 (fun H locs hP hD hS => ?_)
  have hP : va_P D cls (wMo cI cJ cZ a 0 kn ed ct ti nm xa xb ma it vs se sm rs wk ors owk) H := hP
  have hD : va_D (blk a 15) (wMo cI cJ cZ a 0 kn ed ct ti nm xa xb ma it vs se sm rs wk ors owk) := hD
  refine lv_aload_n hx hb d_Md_isNotFor_33 rfl (lv_at hl 0 rfl) ?_
  refine va_get (D := D) (ci := 9) (v := .int 0) (C := R_Md) (T := F_Md) (N := 17) hx hb hg in_Md hown hK hP 0 rfl rfl 0 (Nat.le_of_ble_eq_true rfl) (hg _ tw_706) (fun _ h9 => h9) rfl d_Md_isNotFor_34 ?_
  refine lv_if_ne (tgt := 51) hx hb d_Md_isNotFor_37 (by decide) (fun hc => False.elim (by revert hc; decide)) (fun hc => ?_)
  refine lv_aload_n hx hb d_Md_isNotFor_40 rfl (lv_at hl 0 rfl) ?_
  refine lv_iload_n hx hb d_Md_isNotFor_41 rfl (lv_at hl 1 rfl) ?_
  refine lv_aload_n hx hb d_Md_isNotFor_42 rfl (lv_at hl 0 rfl) ?_
  refine lv_iload_n hx hb d_Md_isNotFor_43 rfl (lv_at hl 1 rfl) ?_
  refine ep_callP (W.runV (As := [.int (nI j)]) (rest := [.int (nI j), .ref a]) ⟨hx, hb, hml, hown, hg⟩ (m_Mo_kindOf l D cI cJ cZ cO a 0 kn ed ct ti nm xa xb ma it vs se sm rs wk ors owk j (by omega) _ rfl) (ep_cwV 1 hg tw_789 tw_791 ts_11 tw_12 tk_Md_kindOf rfl rfl (by decide +kernel) ⟨(Nat.le_of_ble_eq_true rfl), (Nat.le_of_ble_eq_true rfl)⟩) ⟨ep_blind, va_recv (q0 := 0) (ci := 9) hK hP rfl rfl, ep_pre hKn (hP)⟩ rfl rfl hl.1 rfl (lv_room (Nat.le_of_ble_eq_true rfl)) d_Md_isNotFor_44 ⟨Nat.zero_le _, Nat.zero_le _⟩) ?_
  refine W.eq (g2 := F0 m 47 ls [.int (f_Mo_kindOf kn j), .int (nI j), .ref a]) rfl ?_
  refine lv_topi (fun z9 e_z9 => ?_)
  obtain rfl : z9 = 1 := by rw [e_z9]; exact (by rw [show f_Mo_kindOf kn j = kn j - 1 from rfl, hk]; decide)
  refine lv_iload_n hx hb d_Md_isNotFor_47 rfl (lv_at hl 2 rfl) ?_
  refine ep_callH (W.runV (As := [.int (nI j), .int 1, .int t]) (rest := []) ⟨hx, hb, hml, hown, hg⟩ (m_Mo_run_1 l D cI cJ cZ cO a 0 kn ed ct ti nm xa xb ma it vs se sm rs wk ors owk n j t (by omega) hct (by omega) _ rfl) (ep_cwV 3 hg tw_832 tw_834 ts_17 tw_12 tk_Md_run rfl rfl (by decide +kernel) ⟨(Nat.le_of_ble_eq_true rfl), (Nat.le_of_ble_eq_true rfl)⟩) ⟨ep_blind, va_recv (q0 := 0) (ci := 9) hK hP rfl rfl, ep_pre hKn (hP)⟩ rfl rfl hl.1 rfl (lv_room (Nat.le_of_ble_eq_true rfl)) d_Md_isNotFor_48 ⟨Nat.zero_le _, Nat.zero_le _⟩) hS (fun q h => h) (fun H locs hsz9 hk1 hP1 hS => ?_)
  refine W.eq (g2 := F0 m 51 ls []) rfl ?_
  have hP : va_P D cls (wMo cI cJ cZ a 0 kn ed ct ti nm xa xb (nI ((f_Mo_run_1 ti nm xa it vs se rs wk n j t).1)) ((f_Mo_run_1 ti nm xa it vs se rs wk n j t).2.1) ((f_Mo_run_1 ti nm xa it vs se rs wk n j t).2.2.1) ((f_Mo_run_1 ti nm xa it vs se rs wk n j t).2.2.2.1) ((f_Mo_run_1 ti nm xa it vs se rs wk n j t).2.2.2.2.1) ((f_Mo_run_1 ti nm xa it vs se rs wk n j t).2.2.2.2.2.1) ((f_Mo_run_1 ti nm xa it vs se rs wk n j t).2.2.2.2.2.2) ors owk) H := hP1
  have hD : va_D (blk a 15) (wMo cI cJ cZ a 0 kn ed ct ti nm xa xb (nI ((f_Mo_run_1 ti nm xa it vs se rs wk n j t).1)) ((f_Mo_run_1 ti nm xa it vs se rs wk n j t).2.1) ((f_Mo_run_1 ti nm xa it vs se rs wk n j t).2.2.1) ((f_Mo_run_1 ti nm xa it vs se rs wk n j t).2.2.2.1) ((f_Mo_run_1 ti nm xa it vs se rs wk n j t).2.2.2.2.1) ((f_Mo_run_1 ti nm xa it vs se rs wk n j t).2.2.2.2.2.1) ((f_Mo_run_1 ti nm xa it vs se rs wk n j t).2.2.2.2.2.2) ors owk) := (blk_D (wMo_in))
  refine lv_aload_n hx hb d_Md_isNotFor_51 rfl (lv_at hl 0 rfl) ?_
  refine va_get (D := D) (ci := 9) (v := .int 0) (C := R_Md) (T := F_Md) (N := 17) hx hb hg in_Md hown hK hP 0 rfl rfl 0 (Nat.le_of_ble_eq_true rfl) (hg _ tw_706) (fun _ h9 => h9) rfl d_Md_isNotFor_52 ?_
  refine lv_if_le (tgt := 62) hx hb d_Md_isNotFor_55 (by decide) (fun hc => ?_) (fun hc => False.elim (by revert hc; decide))
  refine lv_iconst (v := 0) hx hb d_Md_isNotFor_62 (by decide) ?_
  subst hR
  exact W.zret (v := 0) hx hb hr (by decide) (fun t9 ht hW => ⟨rfl, hS.F ht, by rw [ht]; exact hP⟩) hS.2.2 d_Md_isNotFor_63

def f_Mo_isNotFor_0_47 (ti : Nat → Int32) (nm : Nat → Int32) (xa : Nat → Int32) (it : Nat → Int32) (vs : Nat → Int32) (se : Nat → Int32) (rs : Nat → Int64) (wk : Nat → Int32) (n : Nat) (j : Nat) (t : Int32) : Nat × (Nat → Int32) × (Nat → Int32) × (Nat → Int32) × Int64 × (Nat → Int64) × (Nat → Int32) := ((f_Mo_run_0 ti nm xa it vs se rs wk n j t).1, (f_Mo_run_0 ti nm xa it vs se rs wk n j t).2.1, (f_Mo_run_0 ti nm xa it vs se rs wk n j t).2.2.1, (f_Mo_run_0 ti nm xa it vs se rs wk n j t).2.2.2.1, (f_Mo_run_0 ti nm xa it vs se rs wk n j t).2.2.2.2.1, (f_Mo_run_0 ti nm xa it vs se rs wk n j t).2.2.2.2.2.1, (f_Mo_run_0 ti nm xa it vs se rs wk n j t).2.2.2.2.2.2)
set_option maxHeartbeats 4000000 in
set_option maxRecDepth 100000 in
theorem m_Mo_isNotFor_0_47 (l : Launch) (D : va_G) (cI cJ cZ cO : ClassId) (a : Nat) (code : Int32) (kn : Nat → Int32) (ed : Nat → Int32) (ct : Nat → Int32) (ti : Nat → Int32) (nm : Nat → Int32) (xa : Nat → Int32) (xb : Nat → Int32) (ma : Int32) (it : Nat → Int32) (vs : Nat → Int32) (se : Nat → Int32) (sm : Int64) (rs : Nat → Int64) (wk : Nat → Int32) (ors : Nat → Int64) (owk : Nat → Int32) (n : Nat) (j : Nat) (t : Int32) (hj : j < 4) (hlk : (f_Mo_lacks kn j t).1 = 0) (hk : kn j = 1) (hct : ct j = nI n) (hn : n ≤ 32) (R : Nat × (Nat → Int32) × (Nat → Int32) × (Nat → Int32) × Int64 × (Nat → Int64) × (Nat → Int32)) (hR : f_Mo_isNotFor_0_47 ti nm xa it vs se rs wk n j t = R) : Met l y_Md_isNotFor (k_Md_isNotFor :: gt) rm_Md_isNotFor (Pc0 D cI cJ cZ cO [.ref a, .int (nI j), .int t, .int 47] (fun H => va_P D cls (wMo cI cJ cZ a code kn ed ct ti nm xa xb ma it vs se sm rs wk ors owk) H)) (Qd (blk a 15) (some (.int 0)) (fun H => va_P D cls (wMo cI cJ cZ a 0 kn ed ct ti nm xa xb (nI R.1) R.2.1 R.2.2.1 R.2.2.2.1 R.2.2.2.2.1 R.2.2.2.2.2.1 R.2.2.2.2.2.2 ors owk) H)) 0 0 (blk a 15) := by
  refine Met.ofW (cc := c_Md_isNotFor) (maxL := 4) (ret := (Option.some FieldType.boolean)) (by decide) rfl ?_
  intro p e s m args below meth c s₁ B hml hv
  obtain ⟨rfl, hKn, hP⟩ := hv
  have hx := B.exec
  have hb := B.bytes
  have hr := B.returns
  have hts := atoms_spec (ws := k_Md_isNotFor :: gt) B.pre
  have hg : ∀ w ∈ gt, w.before _ s = true := fun w h => hts w (List.mem_cons_of_mem _ h)
  have hown : s.vm.findClass R_Md = some m.cls := findClass_of_methodNamed B.named
  have hlocks := B.notSynchronized
  have hK := hKn.1
  have hl := lv_entry ([.ref a, .int (nI j), .int t, .int 47]) (n := 4) (Nat.le_of_ble_eq_true rfl)
  rw [lg_entry_eq]
  generalize (lg_sl ([.ref a, .int (nI j), .int t, .int 47]) ++ List.replicate (4 - (lg_sl ([.ref a, .int (nI j), .int t, .int 47])).length) Slot.unset).toArray = ls at hl ⊢
  have hl : lv_has ls 4 [(0, .ref a), (1, .int (nI j)), (2, .int t), (3, .int 47)] := hl
  have hS : va_S (blk a 15) s.heap s.heap [] := va_S.rf
  have hD : va_D (blk a 15) (wMo cI cJ cZ a code kn ed ct ti nm xa xb ma it vs se sm rs wk ors owk) := (blk_D (wMo_in))
  have hR : (((f_Mo_run_0 ti nm xa it vs se rs wk n j t).1, (f_Mo_run_0 ti nm xa it vs se rs wk n j t).2.1, (f_Mo_run_0 ti nm xa it vs se rs wk n j t).2.2.1, (f_Mo_run_0 ti nm xa it vs se rs wk n j t).2.2.2.1, (f_Mo_run_0 ti nm xa it vs se rs wk n j t).2.2.2.2.1, (f_Mo_run_0 ti nm xa it vs se rs wk n j t).2.2.2.2.2.1, (f_Mo_run_0 ti nm xa it vs se rs wk n j t).2.2.2.2.2.2)) = R := hR
  refine lv_aload_n hx hb d_Md_isNotFor_0 rfl (lv_at hl 0 rfl) ?_
  refine lv_iload_n hx hb d_Md_isNotFor_1 rfl (lv_at hl 1 rfl) ?_
  refine lv_iload_n hx hb d_Md_isNotFor_2 rfl (lv_at hl 2 rfl) ?_
  refine ep_callH (W.runV (As := [.int (nI j), .int t]) (rest := []) ⟨hx, hb, hml, hown, hg⟩ (m_Mo_lacks l D cI cJ cZ cO a code kn ed ct ti nm xa xb ma it vs se sm rs wk ors owk j t (by omega) _ rfl) (ep_cwV 2 hg tw_773 tw_775 ts_9 tw_12 tk_Md_lacks rfl rfl (by decide +kernel) ⟨(Nat.le_of_ble_eq_true rfl), (Nat.le_of_ble_eq_true rfl)⟩) ⟨ep_blind, va_recv (q0 := 0) (ci := 9) hK hP rfl rfl, ep_pre hKn (hP)⟩ rfl rfl hl.1 rfl (lv_room (Nat.le_of_ble_eq_true rfl)) d_Md_isNotFor_3 ⟨Nat.zero_le _, Nat.zero_le _⟩) hS (fun q h => h) (fun H locs hsz9 hk1 hP1 hS => ?_)
  refine W.eq (g2 := F0 m 6 ls [.int ((f_Mo_lacks kn j t).1)]) rfl ?_
  have hP : va_P D cls (wMo cI cJ cZ a ((f_Mo_lacks kn j t).2) kn ed ct ti nm xa xb ma it vs se sm rs wk ors owk) H := hP1
  have hD : va_D (blk a 15) (wMo cI cJ cZ a ((f_Mo_lacks kn j t).2) kn ed ct ti nm xa xb ma it vs se sm rs wk ors owk) := (blk_D (wMo_in))
  refine lv_if_eq (tgt := 11) hx hb d_Md_isNotFor_6 (by decide) (fun hc => ?_) (fun hc => absurd hlk hc)
  refine lv_aload_n hx hb d_Md_isNotFor_11 rfl (lv_at hl 0 rfl) ?_
  refine lv_iload_n hx hb d_Md_isNotFor_12 rfl (lv_at hl 3 rfl) ?_
  refine lv_aload_n hx hb d_Md_isNotFor_13 rfl (lv_at hl 0 rfl) ?_
  refine lv_iload_n hx hb d_Md_isNotFor_14 rfl (lv_at hl 1 rfl) ?_
  refine ep_callP (W.runV (As := [.int (nI j)]) (rest := [.int 47, .ref a]) ⟨hx, hb, hml, hown, hg⟩ (m_Mo_kindOf l D cI cJ cZ cO a ((f_Mo_lacks kn j t).2) kn ed ct ti nm xa xb ma it vs se sm rs wk ors owk j (by omega) _ rfl) (ep_cwV 1 hg tw_789 tw_791 ts_11 tw_12 tk_Md_kindOf rfl rfl (by decide +kernel) ⟨(Nat.le_of_ble_eq_true rfl), (Nat.le_of_ble_eq_true rfl)⟩) ⟨ep_blind, va_recv (q0 := 0) (ci := 9) hK hP rfl rfl, ep_pre hKn (hP)⟩ rfl rfl hl.1 rfl (lv_room (Nat.le_of_ble_eq_true rfl)) d_Md_isNotFor_15 ⟨Nat.zero_le _, Nat.zero_le _⟩) ?_
  refine W.eq (g2 := F0 m 18 ls [.int (f_Mo_kindOf kn j), .int 47, .ref a]) rfl ?_
  refine lv_topi (fun z9 e_z9 => ?_)
  obtain rfl : z9 = 0 := by rw [e_z9]; exact (by rw [show f_Mo_kindOf kn j = kn j - 1 from rfl, hk]; decide)
  refine lv_ishr hx hb d_Md_isNotFor_18 ?_
  refine lv_topi (fun z9 e_z9 => ?_)
  obtain rfl : z9 = 47 := by rw [e_z9]; exact (by decide)
  refine lv_iconst (v := 1) hx hb d_Md_isNotFor_19 (by decide) ?_
  refine lv_iand hx hb d_Md_isNotFor_20 ?_
  refine lv_topi (fun z9 e_z9 => ?_)
  obtain rfl : z9 = 1 := by rw [e_z9]; exact (by decide)
  refine lv_iconst (v := 1) hx hb d_Md_isNotFor_21 (by decide) ?_
  refine lv_icmp_ne (tgt := 29) hx hb d_Md_isNotFor_22 (by decide) (fun hc => False.elim (by revert hc; decide)) (fun hc => ?_)
  refine lv_iconst (v := 0) hx hb d_Md_isNotFor_25 (by decide) ?_
  refine lv_goto (tgt := 30) hx hb d_Md_isNotFor_26 (by decide) ?_
  refine va_put (D := D) (ci := 9) (v := .int 0) (ty := .int) (C := R_Md) (T := F_Md) (N := 17) hx hb hg in_Md t_Md t_Md_ok n_Md hown hK hP hD hS 0 rfl rfl 0 (Nat.le_of_ble_eq_true rfl) (hg _ tw_706) (fun _ h9 => h9) rfl (by decide +kernel) rfl rfl (Nat.le_of_ble_eq_true rfl) d_Md_isNotFor_30 (fun H locs hP hD hS => ?_)
  have hP : va_P D cls (wMo cI cJ cZ a 0 kn ed ct ti nm xa xb ma it vs se sm rs wk ors owk) H := hP
  have hD : va_D (blk a 15) (wMo cI cJ cZ a 0 kn ed ct ti nm xa xb ma it vs se sm rs wk ors owk) := hD
  refine lv_aload_n hx hb d_Md_isNotFor_33 rfl (lv_at hl 0 rfl) ?_
  refine va_get (D := D) (ci := 9) (v := .int 0) (C := R_Md) (T := F_Md) (N := 17) hx hb hg in_Md hown hK hP 0 rfl rfl 0 (Nat.le_of_ble_eq_true rfl) (hg _ tw_706) (fun _ h9 => h9) rfl d_Md_isNotFor_34 ?_
  refine lv_if_ne (tgt := 51) hx hb d_Md_isNotFor_37 (by decide) (fun hc => False.elim (by revert hc; decide)) (fun hc => ?_)
  refine lv_aload_n hx hb d_Md_isNotFor_40 rfl (lv_at hl 0 rfl) ?_
  refine lv_iload_n hx hb d_Md_isNotFor_41 rfl (lv_at hl 1 rfl) ?_
  refine lv_aload_n hx hb d_Md_isNotFor_42 rfl (lv_at hl 0 rfl) ?_
  refine lv_iload_n hx hb d_Md_isNotFor_43 rfl (lv_at hl 1 rfl) ?_
  refine ep_callP (W.runV (As := [.int (nI j)]) (rest := [.int (nI j), .ref a]) ⟨hx, hb, hml, hown, hg⟩ (m_Mo_kindOf l D cI cJ cZ cO a 0 kn ed ct ti nm xa xb ma it vs se sm rs wk ors owk j (by omega) _ rfl) (ep_cwV 1 hg tw_789 tw_791 ts_11 tw_12 tk_Md_kindOf rfl rfl (by decide +kernel) ⟨(Nat.le_of_ble_eq_true rfl), (Nat.le_of_ble_eq_true rfl)⟩) ⟨ep_blind, va_recv (q0 := 0) (ci := 9) hK hP rfl rfl, ep_pre hKn (hP)⟩ rfl rfl hl.1 rfl (lv_room (Nat.le_of_ble_eq_true rfl)) d_Md_isNotFor_44 ⟨Nat.zero_le _, Nat.zero_le _⟩) ?_
  refine W.eq (g2 := F0 m 47 ls [.int (f_Mo_kindOf kn j), .int (nI j), .ref a]) rfl ?_
  refine lv_topi (fun z9 e_z9 => ?_)
  obtain rfl : z9 = 0 := by rw [e_z9]; exact (by rw [show f_Mo_kindOf kn j = kn j - 1 from rfl, hk]; decide)
  refine lv_iload_n hx hb d_Md_isNotFor_47 rfl (lv_at hl 2 rfl) ?_
  refine ep_callH (W.runV (As := [.int (nI j), .int 0, .int t]) (rest := []) ⟨hx, hb, hml, hown, hg⟩ (m_Mo_run_0 l D cI cJ cZ cO a 0 kn ed ct ti nm xa xb ma it vs se sm rs wk ors owk n j t (by omega) hct (by omega) _ rfl) (ep_cwV 3 hg tw_832 tw_834 ts_17 tw_12 tk_Md_run rfl rfl (by decide +kernel) ⟨(Nat.le_of_ble_eq_true rfl), (Nat.le_of_ble_eq_true rfl)⟩) ⟨ep_blind, va_recv (q0 := 0) (ci := 9) hK hP rfl rfl, ep_pre hKn (hP)⟩ rfl rfl hl.1 rfl (lv_room (Nat.le_of_ble_eq_true rfl)) d_Md_isNotFor_48 ⟨Nat.zero_le _, Nat.zero_le _⟩) hS (fun q h => h) (fun H locs hsz9 hk1 hP1 hS => ?_)
  refine W.eq (g2 := F0 m 51 ls []) rfl ?_
  have hP : va_P D cls (wMo cI cJ cZ a 0 kn ed ct ti nm xa xb (nI ((f_Mo_run_0 ti nm xa it vs se rs wk n j t).1)) ((f_Mo_run_0 ti nm xa it vs se rs wk n j t).2.1) ((f_Mo_run_0 ti nm xa it vs se rs wk n j t).2.2.1) ((f_Mo_run_0 ti nm xa it vs se rs wk n j t).2.2.2.1) ((f_Mo_run_0 ti nm xa it vs se rs wk n j t).2.2.2.2.1) ((f_Mo_run_0 ti nm xa it vs se rs wk n j t).2.2.2.2.2.1) ((f_Mo_run_0 ti nm xa it vs se rs wk n j t).2.2.2.2.2.2) ors owk) H := hP1
  have hD : va_D (blk a 15) (wMo cI cJ cZ a 0 kn ed ct ti nm xa xb (nI ((f_Mo_run_0 ti nm xa it vs se rs wk n j t).1)) ((f_Mo_run_0 ti nm xa it vs se rs wk n j t).2.1) ((f_Mo_run_0 ti nm xa it vs se rs wk n j t).2.2.1) ((f_Mo_run_0 ti nm xa it vs se rs wk n j t).2.2.2.1) ((f_Mo_run_0 ti nm xa it vs se rs wk n j t).2.2.2.2.1) ((f_Mo_run_0 ti nm xa it vs se rs wk n j t).2.2.2.2.2.1) ((f_Mo_run_0 ti nm xa it vs se rs wk n j t).2.2.2.2.2.2) ors owk) := (blk_D (wMo_in))
  refine lv_aload_n hx hb d_Md_isNotFor_51 rfl (lv_at hl 0 rfl) ?_
  refine va_get (D := D) (ci := 9) (v := .int 0) (C := R_Md) (T := F_Md) (N := 17) hx hb hg in_Md hown hK hP 0 rfl rfl 0 (Nat.le_of_ble_eq_true rfl) (hg _ tw_706) (fun _ h9 => h9) rfl d_Md_isNotFor_52 ?_
  refine lv_if_le (tgt := 62) hx hb d_Md_isNotFor_55 (by decide) (fun hc => ?_) (fun hc => False.elim (by revert hc; decide))
  refine lv_iconst (v := 0) hx hb d_Md_isNotFor_62 (by decide) ?_
  subst hR
  exact W.zret (v := 0) hx hb hr (by decide) (fun t9 ht hW => ⟨rfl, hS.F ht, by rw [ht]; exact hP⟩) hS.2.2 d_Md_isNotFor_63

def f_Mo_isNotFor_1_47 (ti : Nat → Int32) (nm : Nat → Int32) (xa : Nat → Int32) (it : Nat → Int32) (vs : Nat → Int32) (se : Nat → Int32) (rs : Nat → Int64) (wk : Nat → Int32) (n : Nat) (j : Nat) (t : Int32) : Nat × (Nat → Int32) × (Nat → Int32) × (Nat → Int32) × Int64 × (Nat → Int64) × (Nat → Int32) := ((f_Mo_run_1 ti nm xa it vs se rs wk n j t).1, (f_Mo_run_1 ti nm xa it vs se rs wk n j t).2.1, (f_Mo_run_1 ti nm xa it vs se rs wk n j t).2.2.1, (f_Mo_run_1 ti nm xa it vs se rs wk n j t).2.2.2.1, (f_Mo_run_1 ti nm xa it vs se rs wk n j t).2.2.2.2.1, (f_Mo_run_1 ti nm xa it vs se rs wk n j t).2.2.2.2.2.1, (f_Mo_run_1 ti nm xa it vs se rs wk n j t).2.2.2.2.2.2)
set_option maxHeartbeats 4000000 in
set_option maxRecDepth 100000 in
theorem m_Mo_isNotFor_1_47 (l : Launch) (D : va_G) (cI cJ cZ cO : ClassId) (a : Nat) (code : Int32) (kn : Nat → Int32) (ed : Nat → Int32) (ct : Nat → Int32) (ti : Nat → Int32) (nm : Nat → Int32) (xa : Nat → Int32) (xb : Nat → Int32) (ma : Int32) (it : Nat → Int32) (vs : Nat → Int32) (se : Nat → Int32) (sm : Int64) (rs : Nat → Int64) (wk : Nat → Int32) (ors : Nat → Int64) (owk : Nat → Int32) (n : Nat) (j : Nat) (t : Int32) (hj : j < 4) (hlk : (f_Mo_lacks kn j t).1 = 0) (hk : kn j = 2) (hct : ct j = nI n) (hn : n ≤ 32) (R : Nat × (Nat → Int32) × (Nat → Int32) × (Nat → Int32) × Int64 × (Nat → Int64) × (Nat → Int32)) (hR : f_Mo_isNotFor_1_47 ti nm xa it vs se rs wk n j t = R) : Met l y_Md_isNotFor (k_Md_isNotFor :: gt) rm_Md_isNotFor (Pc0 D cI cJ cZ cO [.ref a, .int (nI j), .int t, .int 47] (fun H => va_P D cls (wMo cI cJ cZ a code kn ed ct ti nm xa xb ma it vs se sm rs wk ors owk) H)) (Qd (blk a 15) (some (.int 0)) (fun H => va_P D cls (wMo cI cJ cZ a 0 kn ed ct ti nm xa xb (nI R.1) R.2.1 R.2.2.1 R.2.2.2.1 R.2.2.2.2.1 R.2.2.2.2.2.1 R.2.2.2.2.2.2 ors owk) H)) 0 0 (blk a 15) := by
  refine Met.ofW (cc := c_Md_isNotFor) (maxL := 4) (ret := (Option.some FieldType.boolean)) (by decide) rfl ?_
  intro p e s m args below meth c s₁ B hml hv
  obtain ⟨rfl, hKn, hP⟩ := hv
  have hx := B.exec
  have hb := B.bytes
  have hr := B.returns
  have hts := atoms_spec (ws := k_Md_isNotFor :: gt) B.pre
  have hg : ∀ w ∈ gt, w.before _ s = true := fun w h => hts w (List.mem_cons_of_mem _ h)
  have hown : s.vm.findClass R_Md = some m.cls := findClass_of_methodNamed B.named
  have hlocks := B.notSynchronized
  have hK := hKn.1
  have hl := lv_entry ([.ref a, .int (nI j), .int t, .int 47]) (n := 4) (Nat.le_of_ble_eq_true rfl)
  rw [lg_entry_eq]
  generalize (lg_sl ([.ref a, .int (nI j), .int t, .int 47]) ++ List.replicate (4 - (lg_sl ([.ref a, .int (nI j), .int t, .int 47])).length) Slot.unset).toArray = ls at hl ⊢
  have hl : lv_has ls 4 [(0, .ref a), (1, .int (nI j)), (2, .int t), (3, .int 47)] := hl
  have hS : va_S (blk a 15) s.heap s.heap [] := va_S.rf
  have hD : va_D (blk a 15) (wMo cI cJ cZ a code kn ed ct ti nm xa xb ma it vs se sm rs wk ors owk) := (blk_D (wMo_in))
  have hR : (((f_Mo_run_1 ti nm xa it vs se rs wk n j t).1, (f_Mo_run_1 ti nm xa it vs se rs wk n j t).2.1, (f_Mo_run_1 ti nm xa it vs se rs wk n j t).2.2.1, (f_Mo_run_1 ti nm xa it vs se rs wk n j t).2.2.2.1, (f_Mo_run_1 ti nm xa it vs se rs wk n j t).2.2.2.2.1, (f_Mo_run_1 ti nm xa it vs se rs wk n j t).2.2.2.2.2.1, (f_Mo_run_1 ti nm xa it vs se rs wk n j t).2.2.2.2.2.2)) = R := hR
  refine lv_aload_n hx hb d_Md_isNotFor_0 rfl (lv_at hl 0 rfl) ?_
  refine lv_iload_n hx hb d_Md_isNotFor_1 rfl (lv_at hl 1 rfl) ?_
  refine lv_iload_n hx hb d_Md_isNotFor_2 rfl (lv_at hl 2 rfl) ?_
  refine ep_callH (W.runV (As := [.int (nI j), .int t]) (rest := []) ⟨hx, hb, hml, hown, hg⟩ (m_Mo_lacks l D cI cJ cZ cO a code kn ed ct ti nm xa xb ma it vs se sm rs wk ors owk j t (by omega) _ rfl) (ep_cwV 2 hg tw_773 tw_775 ts_9 tw_12 tk_Md_lacks rfl rfl (by decide +kernel) ⟨(Nat.le_of_ble_eq_true rfl), (Nat.le_of_ble_eq_true rfl)⟩) ⟨ep_blind, va_recv (q0 := 0) (ci := 9) hK hP rfl rfl, ep_pre hKn (hP)⟩ rfl rfl hl.1 rfl (lv_room (Nat.le_of_ble_eq_true rfl)) d_Md_isNotFor_3 ⟨Nat.zero_le _, Nat.zero_le _⟩) hS (fun q h => h) (fun H locs hsz9 hk1 hP1 hS => ?_)
  refine W.eq (g2 := F0 m 6 ls [.int ((f_Mo_lacks kn j t).1)]) rfl ?_
  have hP : va_P D cls (wMo cI cJ cZ a ((f_Mo_lacks kn j t).2) kn ed ct ti nm xa xb ma it vs se sm rs wk ors owk) H := hP1
  have hD : va_D (blk a 15) (wMo cI cJ cZ a ((f_Mo_lacks kn j t).2) kn ed ct ti nm xa xb ma it vs se sm rs wk ors owk) := (blk_D (wMo_in))
  refine lv_if_eq (tgt := 11) hx hb d_Md_isNotFor_6 (by decide) (fun hc => ?_) (fun hc => absurd hlk hc)
  refine lv_aload_n hx hb d_Md_isNotFor_11 rfl (lv_at hl 0 rfl) ?_
  refine lv_iload_n hx hb d_Md_isNotFor_12 rfl (lv_at hl 3 rfl) ?_
  refine lv_aload_n hx hb d_Md_isNotFor_13 rfl (lv_at hl 0 rfl) ?_
  refine lv_iload_n hx hb d_Md_isNotFor_14 rfl (lv_at hl 1 rfl) ?_
  refine ep_callP (W.runV (As := [.int (nI j)]) (rest := [.int 47, .ref a]) ⟨hx, hb, hml, hown, hg⟩ (m_Mo_kindOf l D cI cJ cZ cO a ((f_Mo_lacks kn j t).2) kn ed ct ti nm xa xb ma it vs se sm rs wk ors owk j (by omega) _ rfl) (ep_cwV 1 hg tw_789 tw_791 ts_11 tw_12 tk_Md_kindOf rfl rfl (by decide +kernel) ⟨(Nat.le_of_ble_eq_true rfl), (Nat.le_of_ble_eq_true rfl)⟩) ⟨ep_blind, va_recv (q0 := 0) (ci := 9) hK hP rfl rfl, ep_pre hKn (hP)⟩ rfl rfl hl.1 rfl (lv_room (Nat.le_of_ble_eq_true rfl)) d_Md_isNotFor_15 ⟨Nat.zero_le _, Nat.zero_le _⟩) ?_
  refine W.eq (g2 := F0 m 18 ls [.int (f_Mo_kindOf kn j), .int 47, .ref a]) rfl ?_
  refine lv_topi (fun z9 e_z9 => ?_)
  obtain rfl : z9 = 1 := by rw [e_z9]; exact (by rw [show f_Mo_kindOf kn j = kn j - 1 from rfl, hk]; decide)
  refine lv_ishr hx hb d_Md_isNotFor_18 ?_
  refine lv_topi (fun z9 e_z9 => ?_)
  obtain rfl : z9 = 23 := by rw [e_z9]; exact (by decide)
  refine lv_iconst (v := 1) hx hb d_Md_isNotFor_19 (by decide) ?_
  refine lv_iand hx hb d_Md_isNotFor_20 ?_
  refine lv_topi (fun z9 e_z9 => ?_)
  obtain rfl : z9 = 1 := by rw [e_z9]; exact (by decide)
  refine lv_iconst (v := 1) hx hb d_Md_isNotFor_21 (by decide) ?_
  refine lv_icmp_ne (tgt := 29) hx hb d_Md_isNotFor_22 (by decide) (fun hc => False.elim (by revert hc; decide)) (fun hc => ?_)
  refine lv_iconst (v := 0) hx hb d_Md_isNotFor_25 (by decide) ?_
  refine lv_goto (tgt := 30) hx hb d_Md_isNotFor_26 (by decide) ?_
  refine va_put (D := D) (ci := 9) (v := .int 0) (ty := .int) (C := R_Md) (T := F_Md) (N := 17) hx hb hg in_Md t_Md t_Md_ok n_Md hown hK hP hD hS 0 rfl rfl 0 (Nat.le_of_ble_eq_true rfl) (hg _ tw_706) (fun _ h9 => h9) rfl (by decide +kernel) rfl rfl (Nat.le_of_ble_eq_true rfl) d_Md_isNotFor_30 (fun H locs hP hD hS => ?_)
  have hP : va_P D cls (wMo cI cJ cZ a 0 kn ed ct ti nm xa xb ma it vs se sm rs wk ors owk) H := hP
  have hD : va_D (blk a 15) (wMo cI cJ cZ a 0 kn ed ct ti nm xa xb ma it vs se sm rs wk ors owk) := hD
  refine lv_aload_n hx hb d_Md_isNotFor_33 rfl (lv_at hl 0 rfl) ?_
  refine va_get (D := D) (ci := 9) (v := .int 0) (C := R_Md) (T := F_Md) (N := 17) hx hb hg in_Md hown hK hP 0 rfl rfl 0 (Nat.le_of_ble_eq_true rfl) (hg _ tw_706) (fun _ h9 => h9) rfl d_Md_isNotFor_34 ?_
  refine lv_if_ne (tgt := 51) hx hb d_Md_isNotFor_37 (by decide) (fun hc => False.elim (by revert hc; decide)) (fun hc => ?_)
  refine lv_aload_n hx hb d_Md_isNotFor_40 rfl (lv_at hl 0 rfl) ?_
  refine lv_iload_n hx hb d_Md_isNotFor_41 rfl (lv_at hl 1 rfl) ?_
  refine lv_aload_n hx hb d_Md_isNotFor_42 rfl (lv_at hl 0 rfl) ?_
  refine lv_iload_n hx hb d_Md_isNotFor_43 rfl (lv_at hl 1 rfl) ?_
  refine ep_callP (W.runV (As := [.int (nI j)]) (rest := [.int (nI j), .ref a]) ⟨hx, hb, hml, hown, hg⟩ (m_Mo_kindOf l D cI cJ cZ cO a 0 kn ed ct ti nm xa xb ma it vs se sm rs wk ors owk j (by omega) _ rfl) (ep_cwV 1 hg tw_789 tw_791 ts_11 tw_12 tk_Md_kindOf rfl rfl (by decide +kernel) ⟨(Nat.le_of_ble_eq_true rfl), (Nat.le_of_ble_eq_true rfl)⟩) ⟨ep_blind, va_recv (q0 := 0) (ci := 9) hK hP rfl rfl, ep_pre hKn (hP)⟩ rfl rfl hl.1 rfl (lv_room (Nat.le_of_ble_eq_true rfl)) d_Md_isNotFor_44 ⟨Nat.zero_le _, Nat.zero_le _⟩) ?_
  refine W.eq (g2 := F0 m 47 ls [.int (f_Mo_kindOf kn j), .int (nI j), .ref a]) rfl ?_
  refine lv_topi (fun z9 e_z9 => ?_)
  obtain rfl : z9 = 1 := by rw [e_z9]; exact (by rw [show f_Mo_kindOf kn j = kn j - 1 from rfl, hk]; decide)
  refine lv_iload_n hx hb d_Md_isNotFor_47 rfl (lv_at hl 2 rfl) ?_
  refine ep_callH (W.runV (As := [.int (nI j), .int 1, .int t]) (rest := []) ⟨hx, hb, hml, hown, hg⟩ (m_Mo_run_1 l D cI cJ cZ cO a 0 kn ed ct ti nm xa xb ma it vs se sm rs wk ors owk n j t (by omega) hct (by omega) _ rfl) (ep_cwV 3 hg tw_832 tw_834 ts_17 tw_12 tk_Md_run rfl rfl (by decide +kernel) ⟨(Nat.le_of_ble_eq_true rfl), (Nat.le_of_ble_eq_true rfl)⟩) ⟨ep_blind, va_recv (q0 := 0) (ci := 9) hK hP rfl rfl, ep_pre hKn (hP)⟩ rfl rfl hl.1 rfl (lv_room (Nat.le_of_ble_eq_true rfl)) d_Md_isNotFor_48 ⟨Nat.zero_le _, Nat.zero_le _⟩) hS (fun q h => h) (fun H locs hsz9 hk1 hP1 hS => ?_)
  refine W.eq (g2 := F0 m 51 ls []) rfl ?_
  have hP : va_P D cls (wMo cI cJ cZ a 0 kn ed ct ti nm xa xb (nI ((f_Mo_run_1 ti nm xa it vs se rs wk n j t).1)) ((f_Mo_run_1 ti nm xa it vs se rs wk n j t).2.1) ((f_Mo_run_1 ti nm xa it vs se rs wk n j t).2.2.1) ((f_Mo_run_1 ti nm xa it vs se rs wk n j t).2.2.2.1) ((f_Mo_run_1 ti nm xa it vs se rs wk n j t).2.2.2.2.1) ((f_Mo_run_1 ti nm xa it vs se rs wk n j t).2.2.2.2.2.1) ((f_Mo_run_1 ti nm xa it vs se rs wk n j t).2.2.2.2.2.2) ors owk) H := hP1
  have hD : va_D (blk a 15) (wMo cI cJ cZ a 0 kn ed ct ti nm xa xb (nI ((f_Mo_run_1 ti nm xa it vs se rs wk n j t).1)) ((f_Mo_run_1 ti nm xa it vs se rs wk n j t).2.1) ((f_Mo_run_1 ti nm xa it vs se rs wk n j t).2.2.1) ((f_Mo_run_1 ti nm xa it vs se rs wk n j t).2.2.2.1) ((f_Mo_run_1 ti nm xa it vs se rs wk n j t).2.2.2.2.1) ((f_Mo_run_1 ti nm xa it vs se rs wk n j t).2.2.2.2.2.1) ((f_Mo_run_1 ti nm xa it vs se rs wk n j t).2.2.2.2.2.2) ors owk) := (blk_D (wMo_in))
  refine lv_aload_n hx hb d_Md_isNotFor_51 rfl (lv_at hl 0 rfl) ?_
  refine va_get (D := D) (ci := 9) (v := .int 0) (C := R_Md) (T := F_Md) (N := 17) hx hb hg in_Md hown hK hP 0 rfl rfl 0 (Nat.le_of_ble_eq_true rfl) (hg _ tw_706) (fun _ h9 => h9) rfl d_Md_isNotFor_52 ?_
  refine lv_if_le (tgt := 62) hx hb d_Md_isNotFor_55 (by decide) (fun hc => ?_) (fun hc => False.elim (by revert hc; decide))
  refine lv_iconst (v := 0) hx hb d_Md_isNotFor_62 (by decide) ?_
  subst hR
  exact W.zret (v := 0) hx hb hr (by decide) (fun t9 ht hW => ⟨rfl, hS.F ht, by rw [ht]; exact hP⟩) hS.2.2 d_Md_isNotFor_63

def f_Mo_isNotFor_2_47 (ti : Nat → Int32) (nm : Nat → Int32) (xa : Nat → Int32) (xb : Nat → Int32) (it : Nat → Int32) (vs : Nat → Int32) (se : Nat → Int32) (rs : Nat → Int64) (wk : Nat → Int32) (n : Nat) (j : Nat) (t : Int32) : Nat × (Nat → Int32) × (Nat → Int32) × (Nat → Int32) × Int64 × (Nat → Int64) × (Nat → Int32) := ((f_Mo_run_2 ti nm xa xb it vs se rs wk n j t).1, (f_Mo_run_2 ti nm xa xb it vs se rs wk n j t).2.1, (f_Mo_run_2 ti nm xa xb it vs se rs wk n j t).2.2.1, (f_Mo_run_2 ti nm xa xb it vs se rs wk n j t).2.2.2.1, (f_Mo_run_2 ti nm xa xb it vs se rs wk n j t).2.2.2.2.1, (f_Mo_run_2 ti nm xa xb it vs se rs wk n j t).2.2.2.2.2.1, (f_Mo_run_2 ti nm xa xb it vs se rs wk n j t).2.2.2.2.2.2)
set_option maxHeartbeats 4000000 in
set_option maxRecDepth 100000 in
theorem m_Mo_isNotFor_2_47 (l : Launch) (D : va_G) (cI cJ cZ cO : ClassId) (a : Nat) (code : Int32) (kn : Nat → Int32) (ed : Nat → Int32) (ct : Nat → Int32) (ti : Nat → Int32) (nm : Nat → Int32) (xa : Nat → Int32) (xb : Nat → Int32) (ma : Int32) (it : Nat → Int32) (vs : Nat → Int32) (se : Nat → Int32) (sm : Int64) (rs : Nat → Int64) (wk : Nat → Int32) (ors : Nat → Int64) (owk : Nat → Int32) (n : Nat) (j : Nat) (t : Int32) (hj : j < 4) (hlk : (f_Mo_lacks kn j t).1 = 0) (hk : kn j = 3) (hct : ct j = nI n) (hn : n ≤ 32) (R : Nat × (Nat → Int32) × (Nat → Int32) × (Nat → Int32) × Int64 × (Nat → Int64) × (Nat → Int32)) (hR : f_Mo_isNotFor_2_47 ti nm xa xb it vs se rs wk n j t = R) : Met l y_Md_isNotFor (k_Md_isNotFor :: gt) rm_Md_isNotFor (Pc0 D cI cJ cZ cO [.ref a, .int (nI j), .int t, .int 47] (fun H => va_P D cls (wMo cI cJ cZ a code kn ed ct ti nm xa xb ma it vs se sm rs wk ors owk) H)) (Qd (blk a 15) (some (.int 0)) (fun H => va_P D cls (wMo cI cJ cZ a 0 kn ed ct ti nm xa xb (nI R.1) R.2.1 R.2.2.1 R.2.2.2.1 R.2.2.2.2.1 R.2.2.2.2.2.1 R.2.2.2.2.2.2 ors owk) H)) 0 0 (blk a 15) := by
  refine Met.ofW (cc := c_Md_isNotFor) (maxL := 4) (ret := (Option.some FieldType.boolean)) (by decide) rfl ?_
  intro p e s m args below meth c s₁ B hml hv
  obtain ⟨rfl, hKn, hP⟩ := hv
  have hx := B.exec
  have hb := B.bytes
  have hr := B.returns
  have hts := atoms_spec (ws := k_Md_isNotFor :: gt) B.pre
  have hg : ∀ w ∈ gt, w.before _ s = true := fun w h => hts w (List.mem_cons_of_mem _ h)
  have hown : s.vm.findClass R_Md = some m.cls := findClass_of_methodNamed B.named
  have hlocks := B.notSynchronized
  have hK := hKn.1
  have hl := lv_entry ([.ref a, .int (nI j), .int t, .int 47]) (n := 4) (Nat.le_of_ble_eq_true rfl)
  rw [lg_entry_eq]
  generalize (lg_sl ([.ref a, .int (nI j), .int t, .int 47]) ++ List.replicate (4 - (lg_sl ([.ref a, .int (nI j), .int t, .int 47])).length) Slot.unset).toArray = ls at hl ⊢
  have hl : lv_has ls 4 [(0, .ref a), (1, .int (nI j)), (2, .int t), (3, .int 47)] := hl
  have hS : va_S (blk a 15) s.heap s.heap [] := va_S.rf
  have hD : va_D (blk a 15) (wMo cI cJ cZ a code kn ed ct ti nm xa xb ma it vs se sm rs wk ors owk) := (blk_D (wMo_in))
  have hR : (((f_Mo_run_2 ti nm xa xb it vs se rs wk n j t).1, (f_Mo_run_2 ti nm xa xb it vs se rs wk n j t).2.1, (f_Mo_run_2 ti nm xa xb it vs se rs wk n j t).2.2.1, (f_Mo_run_2 ti nm xa xb it vs se rs wk n j t).2.2.2.1, (f_Mo_run_2 ti nm xa xb it vs se rs wk n j t).2.2.2.2.1, (f_Mo_run_2 ti nm xa xb it vs se rs wk n j t).2.2.2.2.2.1, (f_Mo_run_2 ti nm xa xb it vs se rs wk n j t).2.2.2.2.2.2)) = R := hR
  refine lv_aload_n hx hb d_Md_isNotFor_0 rfl (lv_at hl 0 rfl) ?_
  refine lv_iload_n hx hb d_Md_isNotFor_1 rfl (lv_at hl 1 rfl) ?_
  refine lv_iload_n hx hb d_Md_isNotFor_2 rfl (lv_at hl 2 rfl) ?_
  refine ep_callH (W.runV (As := [.int (nI j), .int t]) (rest := []) ⟨hx, hb, hml, hown, hg⟩ (m_Mo_lacks l D cI cJ cZ cO a code kn ed ct ti nm xa xb ma it vs se sm rs wk ors owk j t (by omega) _ rfl) (ep_cwV 2 hg tw_773 tw_775 ts_9 tw_12 tk_Md_lacks rfl rfl (by decide +kernel) ⟨(Nat.le_of_ble_eq_true rfl), (Nat.le_of_ble_eq_true rfl)⟩) ⟨ep_blind, va_recv (q0 := 0) (ci := 9) hK hP rfl rfl, ep_pre hKn (hP)⟩ rfl rfl hl.1 rfl (lv_room (Nat.le_of_ble_eq_true rfl)) d_Md_isNotFor_3 ⟨Nat.zero_le _, Nat.zero_le _⟩) hS (fun q h => h) (fun H locs hsz9 hk1 hP1 hS => ?_)
  refine W.eq (g2 := F0 m 6 ls [.int ((f_Mo_lacks kn j t).1)]) rfl ?_
  have hP : va_P D cls (wMo cI cJ cZ a ((f_Mo_lacks kn j t).2) kn ed ct ti nm xa xb ma it vs se sm rs wk ors owk) H := hP1
  have hD : va_D (blk a 15) (wMo cI cJ cZ a ((f_Mo_lacks kn j t).2) kn ed ct ti nm xa xb ma it vs se sm rs wk ors owk) := (blk_D (wMo_in))
  refine lv_if_eq (tgt := 11) hx hb d_Md_isNotFor_6 (by decide) (fun hc => ?_) (fun hc => absurd hlk hc)
  refine lv_aload_n hx hb d_Md_isNotFor_11 rfl (lv_at hl 0 rfl) ?_
  refine lv_iload_n hx hb d_Md_isNotFor_12 rfl (lv_at hl 3 rfl) ?_
  refine lv_aload_n hx hb d_Md_isNotFor_13 rfl (lv_at hl 0 rfl) ?_
  refine lv_iload_n hx hb d_Md_isNotFor_14 rfl (lv_at hl 1 rfl) ?_
  refine ep_callP (W.runV (As := [.int (nI j)]) (rest := [.int 47, .ref a]) ⟨hx, hb, hml, hown, hg⟩ (m_Mo_kindOf l D cI cJ cZ cO a ((f_Mo_lacks kn j t).2) kn ed ct ti nm xa xb ma it vs se sm rs wk ors owk j (by omega) _ rfl) (ep_cwV 1 hg tw_789 tw_791 ts_11 tw_12 tk_Md_kindOf rfl rfl (by decide +kernel) ⟨(Nat.le_of_ble_eq_true rfl), (Nat.le_of_ble_eq_true rfl)⟩) ⟨ep_blind, va_recv (q0 := 0) (ci := 9) hK hP rfl rfl, ep_pre hKn (hP)⟩ rfl rfl hl.1 rfl (lv_room (Nat.le_of_ble_eq_true rfl)) d_Md_isNotFor_15 ⟨Nat.zero_le _, Nat.zero_le _⟩) ?_
  refine W.eq (g2 := F0 m 18 ls [.int (f_Mo_kindOf kn j), .int 47, .ref a]) rfl ?_
  refine lv_topi (fun z9 e_z9 => ?_)
  obtain rfl : z9 = 2 := by rw [e_z9]; exact (by rw [show f_Mo_kindOf kn j = kn j - 1 from rfl, hk]; decide)
  refine lv_ishr hx hb d_Md_isNotFor_18 ?_
  refine lv_topi (fun z9 e_z9 => ?_)
  obtain rfl : z9 = 11 := by rw [e_z9]; exact (by decide)
  refine lv_iconst (v := 1) hx hb d_Md_isNotFor_19 (by decide) ?_
  refine lv_iand hx hb d_Md_isNotFor_20 ?_
  refine lv_topi (fun z9 e_z9 => ?_)
  obtain rfl : z9 = 1 := by rw [e_z9]; exact (by decide)
  refine lv_iconst (v := 1) hx hb d_Md_isNotFor_21 (by decide) ?_
  refine lv_icmp_ne (tgt := 29) hx hb d_Md_isNotFor_22 (by decide) (fun hc => False.elim (by revert hc; decide)) (fun hc => ?_)
  refine lv_iconst (v := 0) hx hb d_Md_isNotFor_25 (by decide) ?_
  refine lv_goto (tgt := 30) hx hb d_Md_isNotFor_26 (by decide) ?_
  refine va_put (D := D) (ci := 9) (v := .int 0) (ty := .int) (C := R_Md) (T := F_Md) (N := 17) hx hb hg in_Md t_Md t_Md_ok n_Md hown hK hP hD hS 0 rfl rfl 0 (Nat.le_of_ble_eq_true rfl) (hg _ tw_706) (fun _ h9 => h9) rfl (by decide +kernel) rfl rfl (Nat.le_of_ble_eq_true rfl) d_Md_isNotFor_30 (fun H locs hP hD hS => ?_)
  have hP : va_P D cls (wMo cI cJ cZ a 0 kn ed ct ti nm xa xb ma it vs se sm rs wk ors owk) H := hP
  have hD : va_D (blk a 15) (wMo cI cJ cZ a 0 kn ed ct ti nm xa xb ma it vs se sm rs wk ors owk) := hD
  refine lv_aload_n hx hb d_Md_isNotFor_33 rfl (lv_at hl 0 rfl) ?_
  refine va_get (D := D) (ci := 9) (v := .int 0) (C := R_Md) (T := F_Md) (N := 17) hx hb hg in_Md hown hK hP 0 rfl rfl 0 (Nat.le_of_ble_eq_true rfl) (hg _ tw_706) (fun _ h9 => h9) rfl d_Md_isNotFor_34 ?_
  refine lv_if_ne (tgt := 51) hx hb d_Md_isNotFor_37 (by decide) (fun hc => False.elim (by revert hc; decide)) (fun hc => ?_)
  refine lv_aload_n hx hb d_Md_isNotFor_40 rfl (lv_at hl 0 rfl) ?_
  refine lv_iload_n hx hb d_Md_isNotFor_41 rfl (lv_at hl 1 rfl) ?_
  refine lv_aload_n hx hb d_Md_isNotFor_42 rfl (lv_at hl 0 rfl) ?_
  refine lv_iload_n hx hb d_Md_isNotFor_43 rfl (lv_at hl 1 rfl) ?_
  refine ep_callP (W.runV (As := [.int (nI j)]) (rest := [.int (nI j), .ref a]) ⟨hx, hb, hml, hown, hg⟩ (m_Mo_kindOf l D cI cJ cZ cO a 0 kn ed ct ti nm xa xb ma it vs se sm rs wk ors owk j (by omega) _ rfl) (ep_cwV 1 hg tw_789 tw_791 ts_11 tw_12 tk_Md_kindOf rfl rfl (by decide +kernel) ⟨(Nat.le_of_ble_eq_true rfl), (Nat.le_of_ble_eq_true rfl)⟩) ⟨ep_blind, va_recv (q0 := 0) (ci := 9) hK hP rfl rfl, ep_pre hKn (hP)⟩ rfl rfl hl.1 rfl (lv_room (Nat.le_of_ble_eq_true rfl)) d_Md_isNotFor_44 ⟨Nat.zero_le _, Nat.zero_le _⟩) ?_
  refine W.eq (g2 := F0 m 47 ls [.int (f_Mo_kindOf kn j), .int (nI j), .ref a]) rfl ?_
  refine lv_topi (fun z9 e_z9 => ?_)
  obtain rfl : z9 = 2 := by rw [e_z9]; exact (by rw [show f_Mo_kindOf kn j = kn j - 1 from rfl, hk]; decide)
  refine lv_iload_n hx hb d_Md_isNotFor_47 rfl (lv_at hl 2 rfl) ?_
  refine ep_callH (W.runV (As := [.int (nI j), .int 2, .int t]) (rest := []) ⟨hx, hb, hml, hown, hg⟩ (m_Mo_run_2 l D cI cJ cZ cO a 0 kn ed ct ti nm xa xb ma it vs se sm rs wk ors owk n j t (by omega) hct (by omega) _ rfl) (ep_cwV 3 hg tw_832 tw_834 ts_17 tw_12 tk_Md_run rfl rfl (by decide +kernel) ⟨(Nat.le_of_ble_eq_true rfl), (Nat.le_of_ble_eq_true rfl)⟩) ⟨ep_blind, va_recv (q0 := 0) (ci := 9) hK hP rfl rfl, ep_pre hKn (hP)⟩ rfl rfl hl.1 rfl (lv_room (Nat.le_of_ble_eq_true rfl)) d_Md_isNotFor_48 ⟨Nat.zero_le _, Nat.zero_le _⟩) hS (fun q h => h) (fun H locs hsz9 hk1 hP1 hS => ?_)
  refine W.eq (g2 := F0 m 51 ls []) rfl ?_
  have hP : va_P D cls (wMo cI cJ cZ a 0 kn ed ct ti nm xa xb (nI ((f_Mo_run_2 ti nm xa xb it vs se rs wk n j t).1)) ((f_Mo_run_2 ti nm xa xb it vs se rs wk n j t).2.1) ((f_Mo_run_2 ti nm xa xb it vs se rs wk n j t).2.2.1) ((f_Mo_run_2 ti nm xa xb it vs se rs wk n j t).2.2.2.1) ((f_Mo_run_2 ti nm xa xb it vs se rs wk n j t).2.2.2.2.1) ((f_Mo_run_2 ti nm xa xb it vs se rs wk n j t).2.2.2.2.2.1) ((f_Mo_run_2 ti nm xa xb it vs se rs wk n j t).2.2.2.2.2.2) ors owk) H := hP1
  have hD : va_D (blk a 15) (wMo cI cJ cZ a 0 kn ed ct ti nm xa xb (nI ((f_Mo_run_2 ti nm xa xb it vs se rs wk n j t).1)) ((f_Mo_run_2 ti nm xa xb it vs se rs wk n j t).2.1) ((f_Mo_run_2 ti nm xa xb it vs se rs wk n j t).2.2.1) ((f_Mo_run_2 ti nm xa xb it vs se rs wk n j t).2.2.2.1) ((f_Mo_run_2 ti nm xa xb it vs se rs wk n j t).2.2.2.2.1) ((f_Mo_run_2 ti nm xa xb it vs se rs wk n j t).2.2.2.2.2.1) ((f_Mo_run_2 ti nm xa xb it vs se rs wk n j t).2.2.2.2.2.2) ors owk) := (blk_D (wMo_in))
  refine lv_aload_n hx hb d_Md_isNotFor_51 rfl (lv_at hl 0 rfl) ?_
  refine va_get (D := D) (ci := 9) (v := .int 0) (C := R_Md) (T := F_Md) (N := 17) hx hb hg in_Md hown hK hP 0 rfl rfl 0 (Nat.le_of_ble_eq_true rfl) (hg _ tw_706) (fun _ h9 => h9) rfl d_Md_isNotFor_52 ?_
  refine lv_if_le (tgt := 62) hx hb d_Md_isNotFor_55 (by decide) (fun hc => ?_) (fun hc => False.elim (by revert hc; decide))
  refine lv_iconst (v := 0) hx hb d_Md_isNotFor_62 (by decide) ?_
  subst hR
  exact W.zret (v := 0) hx hb hr (by decide) (fun t9 ht hW => ⟨rfl, hS.F ht, by rw [ht]; exact hP⟩) hS.2.2 d_Md_isNotFor_63

def f_Mo_isNotFor_3_47 (ti : Nat → Int32) (nm : Nat → Int32) (xa : Nat → Int32) (it : Nat → Int32) (vs : Nat → Int32) (se : Nat → Int32) (rs : Nat → Int64) (wk : Nat → Int32) (n : Nat) (j : Nat) (t : Int32) : Nat × (Nat → Int32) × (Nat → Int32) × (Nat → Int32) × Int64 × (Nat → Int64) × (Nat → Int32) := ((f_Mo_run_3 ti nm xa it vs se rs wk n j t).1, (f_Mo_run_3 ti nm xa it vs se rs wk n j t).2.1, (f_Mo_run_3 ti nm xa it vs se rs wk n j t).2.2.1, (f_Mo_run_3 ti nm xa it vs se rs wk n j t).2.2.2.1, (f_Mo_run_3 ti nm xa it vs se rs wk n j t).2.2.2.2.1, (f_Mo_run_3 ti nm xa it vs se rs wk n j t).2.2.2.2.2.1, (f_Mo_run_3 ti nm xa it vs se rs wk n j t).2.2.2.2.2.2)
set_option maxHeartbeats 4000000 in
set_option maxRecDepth 100000 in
theorem m_Mo_isNotFor_3_47 (l : Launch) (D : va_G) (cI cJ cZ cO : ClassId) (a : Nat) (code : Int32) (kn : Nat → Int32) (ed : Nat → Int32) (ct : Nat → Int32) (ti : Nat → Int32) (nm : Nat → Int32) (xa : Nat → Int32) (xb : Nat → Int32) (ma : Int32) (it : Nat → Int32) (vs : Nat → Int32) (se : Nat → Int32) (sm : Int64) (rs : Nat → Int64) (wk : Nat → Int32) (ors : Nat → Int64) (owk : Nat → Int32) (n : Nat) (j : Nat) (t : Int32) (hj : j < 4) (hlk : (f_Mo_lacks kn j t).1 = 0) (hk : kn j = 4) (hct : ct j = nI n) (hn : n ≤ 32) (R : Nat × (Nat → Int32) × (Nat → Int32) × (Nat → Int32) × Int64 × (Nat → Int64) × (Nat → Int32)) (hR : f_Mo_isNotFor_3_47 ti nm xa it vs se rs wk n j t = R) : Met l y_Md_isNotFor (k_Md_isNotFor :: gt) rm_Md_isNotFor (Pc0 D cI cJ cZ cO [.ref a, .int (nI j), .int t, .int 47] (fun H => va_P D cls (wMo cI cJ cZ a code kn ed ct ti nm xa xb ma it vs se sm rs wk ors owk) H)) (Qd (blk a 15) (some (.int 0)) (fun H => va_P D cls (wMo cI cJ cZ a 0 kn ed ct ti nm xa xb (nI R.1) R.2.1 R.2.2.1 R.2.2.2.1 R.2.2.2.2.1 R.2.2.2.2.2.1 R.2.2.2.2.2.2 ors owk) H)) 0 0 (blk a 15) := by
  refine Met.ofW (cc := c_Md_isNotFor) (maxL := 4) (ret := (Option.some FieldType.boolean)) (by decide) rfl ?_
  intro p e s m args below meth c s₁ B hml hv
  obtain ⟨rfl, hKn, hP⟩ := hv
  have hx := B.exec
  have hb := B.bytes
  have hr := B.returns
  have hts := atoms_spec (ws := k_Md_isNotFor :: gt) B.pre
  have hg : ∀ w ∈ gt, w.before _ s = true := fun w h => hts w (List.mem_cons_of_mem _ h)
  have hown : s.vm.findClass R_Md = some m.cls := findClass_of_methodNamed B.named
  have hlocks := B.notSynchronized
  have hK := hKn.1
  have hl := lv_entry ([.ref a, .int (nI j), .int t, .int 47]) (n := 4) (Nat.le_of_ble_eq_true rfl)
  rw [lg_entry_eq]
  generalize (lg_sl ([.ref a, .int (nI j), .int t, .int 47]) ++ List.replicate (4 - (lg_sl ([.ref a, .int (nI j), .int t, .int 47])).length) Slot.unset).toArray = ls at hl ⊢
  have hl : lv_has ls 4 [(0, .ref a), (1, .int (nI j)), (2, .int t), (3, .int 47)] := hl
  have hS : va_S (blk a 15) s.heap s.heap [] := va_S.rf
  have hD : va_D (blk a 15) (wMo cI cJ cZ a code kn ed ct ti nm xa xb ma it vs se sm rs wk ors owk) := (blk_D (wMo_in))
  have hR : (((f_Mo_run_3 ti nm xa it vs se rs wk n j t).1, (f_Mo_run_3 ti nm xa it vs se rs wk n j t).2.1, (f_Mo_run_3 ti nm xa it vs se rs wk n j t).2.2.1, (f_Mo_run_3 ti nm xa it vs se rs wk n j t).2.2.2.1, (f_Mo_run_3 ti nm xa it vs se rs wk n j t).2.2.2.2.1, (f_Mo_run_3 ti nm xa it vs se rs wk n j t).2.2.2.2.2.1, (f_Mo_run_3 ti nm xa it vs se rs wk n j t).2.2.2.2.2.2)) = R := hR
  refine lv_aload_n hx hb d_Md_isNotFor_0 rfl (lv_at hl 0 rfl) ?_
  refine lv_iload_n hx hb d_Md_isNotFor_1 rfl (lv_at hl 1 rfl) ?_
  refine lv_iload_n hx hb d_Md_isNotFor_2 rfl (lv_at hl 2 rfl) ?_
  refine ep_callH (W.runV (As := [.int (nI j), .int t]) (rest := []) ⟨hx, hb, hml, hown, hg⟩ (m_Mo_lacks l D cI cJ cZ cO a code kn ed ct ti nm xa xb ma it vs se sm rs wk ors owk j t (by omega) _ rfl) (ep_cwV 2 hg tw_773 tw_775 ts_9 tw_12 tk_Md_lacks rfl rfl (by decide +kernel) ⟨(Nat.le_of_ble_eq_true rfl), (Nat.le_of_ble_eq_true rfl)⟩) ⟨ep_blind, va_recv (q0 := 0) (ci := 9) hK hP rfl rfl, ep_pre hKn (hP)⟩ rfl rfl hl.1 rfl (lv_room (Nat.le_of_ble_eq_true rfl)) d_Md_isNotFor_3 ⟨Nat.zero_le _, Nat.zero_le _⟩) hS (fun q h => h) (fun H locs hsz9 hk1 hP1 hS => ?_)
  refine W.eq (g2 := F0 m 6 ls [.int ((f_Mo_lacks kn j t).1)]) rfl ?_
  have hP : va_P D cls (wMo cI cJ cZ a ((f_Mo_lacks kn j t).2) kn ed ct ti nm xa xb ma it vs se sm rs wk ors owk) H := hP1
  have hD : va_D (blk a 15) (wMo cI cJ cZ a ((f_Mo_lacks kn j t).2) kn ed ct ti nm xa xb ma it vs se sm rs wk ors owk) := (blk_D (wMo_in))
  refine lv_if_eq (tgt := 11) hx hb d_Md_isNotFor_6 (by decide) (fun hc => ?_) (fun hc => absurd hlk hc)
  refine lv_aload_n hx hb d_Md_isNotFor_11 rfl (lv_at hl 0 rfl) ?_
  refine lv_iload_n hx hb d_Md_isNotFor_12 rfl (lv_at hl 3 rfl) ?_
  refine lv_aload_n hx hb d_Md_isNotFor_13 rfl (lv_at hl 0 rfl) ?_
  refine lv_iload_n hx hb d_Md_isNotFor_14 rfl (lv_at hl 1 rfl) ?_
  refine ep_callP (W.runV (As := [.int (nI j)]) (rest := [.int 47, .ref a]) ⟨hx, hb, hml, hown, hg⟩ (m_Mo_kindOf l D cI cJ cZ cO a ((f_Mo_lacks kn j t).2) kn ed ct ti nm xa xb ma it vs se sm rs wk ors owk j (by omega) _ rfl) (ep_cwV 1 hg tw_789 tw_791 ts_11 tw_12 tk_Md_kindOf rfl rfl (by decide +kernel) ⟨(Nat.le_of_ble_eq_true rfl), (Nat.le_of_ble_eq_true rfl)⟩) ⟨ep_blind, va_recv (q0 := 0) (ci := 9) hK hP rfl rfl, ep_pre hKn (hP)⟩ rfl rfl hl.1 rfl (lv_room (Nat.le_of_ble_eq_true rfl)) d_Md_isNotFor_15 ⟨Nat.zero_le _, Nat.zero_le _⟩) ?_
  refine W.eq (g2 := F0 m 18 ls [.int (f_Mo_kindOf kn j), .int 47, .ref a]) rfl ?_
  refine lv_topi (fun z9 e_z9 => ?_)
  obtain rfl : z9 = 3 := by rw [e_z9]; exact (by rw [show f_Mo_kindOf kn j = kn j - 1 from rfl, hk]; decide)
  refine lv_ishr hx hb d_Md_isNotFor_18 ?_
  refine lv_topi (fun z9 e_z9 => ?_)
  obtain rfl : z9 = 5 := by rw [e_z9]; exact (by decide)
  refine lv_iconst (v := 1) hx hb d_Md_isNotFor_19 (by decide) ?_
  refine lv_iand hx hb d_Md_isNotFor_20 ?_
  refine lv_topi (fun z9 e_z9 => ?_)
  obtain rfl : z9 = 1 := by rw [e_z9]; exact (by decide)
  refine lv_iconst (v := 1) hx hb d_Md_isNotFor_21 (by decide) ?_
  refine lv_icmp_ne (tgt := 29) hx hb d_Md_isNotFor_22 (by decide) (fun hc => False.elim (by revert hc; decide)) (fun hc => ?_)
  refine lv_iconst (v := 0) hx hb d_Md_isNotFor_25 (by decide) ?_
  refine lv_goto (tgt := 30) hx hb d_Md_isNotFor_26 (by decide) ?_
  refine va_put (D := D) (ci := 9) (v := .int 0) (ty := .int) (C := R_Md) (T := F_Md) (N := 17) hx hb hg in_Md t_Md t_Md_ok n_Md hown hK hP hD hS 0 rfl rfl 0 (Nat.le_of_ble_eq_true rfl) (hg _ tw_706) (fun _ h9 => h9) rfl (by decide +kernel) rfl rfl (Nat.le_of_ble_eq_true rfl) d_Md_isNotFor_30 (fun H locs hP hD hS => ?_)
  have hP : va_P D cls (wMo cI cJ cZ a 0 kn ed ct ti nm xa xb ma it vs se sm rs wk ors owk) H := hP
  have hD : va_D (blk a 15) (wMo cI cJ cZ a 0 kn ed ct ti nm xa xb ma it vs se sm rs wk ors owk) := hD
  refine lv_aload_n hx hb d_Md_isNotFor_33 rfl (lv_at hl 0 rfl) ?_
  refine va_get (D := D) (ci := 9) (v := .int 0) (C := R_Md) (T := F_Md) (N := 17) hx hb hg in_Md hown hK hP 0 rfl rfl 0 (Nat.le_of_ble_eq_true rfl) (hg _ tw_706) (fun _ h9 => h9) rfl d_Md_isNotFor_34 ?_
  refine lv_if_ne (tgt := 51) hx hb d_Md_isNotFor_37 (by decide) (fun hc => False.elim (by revert hc; decide)) (fun hc => ?_)
  refine lv_aload_n hx hb d_Md_isNotFor_40 rfl (lv_at hl 0 rfl) ?_
  refine lv_iload_n hx hb d_Md_isNotFor_41 rfl (lv_at hl 1 rfl) ?_
  refine lv_aload_n hx hb d_Md_isNotFor_42 rfl (lv_at hl 0 rfl) ?_
  refine lv_iload_n hx hb d_Md_isNotFor_43 rfl (lv_at hl 1 rfl) ?_
  refine ep_callP (W.runV (As := [.int (nI j)]) (rest := [.int (nI j), .ref a]) ⟨hx, hb, hml, hown, hg⟩ (m_Mo_kindOf l D cI cJ cZ cO a 0 kn ed ct ti nm xa xb ma it vs se sm rs wk ors owk j (by omega) _ rfl) (ep_cwV 1 hg tw_789 tw_791 ts_11 tw_12 tk_Md_kindOf rfl rfl (by decide +kernel) ⟨(Nat.le_of_ble_eq_true rfl), (Nat.le_of_ble_eq_true rfl)⟩) ⟨ep_blind, va_recv (q0 := 0) (ci := 9) hK hP rfl rfl, ep_pre hKn (hP)⟩ rfl rfl hl.1 rfl (lv_room (Nat.le_of_ble_eq_true rfl)) d_Md_isNotFor_44 ⟨Nat.zero_le _, Nat.zero_le _⟩) ?_
  refine W.eq (g2 := F0 m 47 ls [.int (f_Mo_kindOf kn j), .int (nI j), .ref a]) rfl ?_
  refine lv_topi (fun z9 e_z9 => ?_)
  obtain rfl : z9 = 3 := by rw [e_z9]; exact (by rw [show f_Mo_kindOf kn j = kn j - 1 from rfl, hk]; decide)
  refine lv_iload_n hx hb d_Md_isNotFor_47 rfl (lv_at hl 2 rfl) ?_
  refine ep_callH (W.runV (As := [.int (nI j), .int 3, .int t]) (rest := []) ⟨hx, hb, hml, hown, hg⟩ (m_Mo_run_3 l D cI cJ cZ cO a 0 kn ed ct ti nm xa xb ma it vs se sm rs wk ors owk n j t (by omega) hct (by omega) _ rfl) (ep_cwV 3 hg tw_832 tw_834 ts_17 tw_12 tk_Md_run rfl rfl (by decide +kernel) ⟨(Nat.le_of_ble_eq_true rfl), (Nat.le_of_ble_eq_true rfl)⟩) ⟨ep_blind, va_recv (q0 := 0) (ci := 9) hK hP rfl rfl, ep_pre hKn (hP)⟩ rfl rfl hl.1 rfl (lv_room (Nat.le_of_ble_eq_true rfl)) d_Md_isNotFor_48 ⟨Nat.zero_le _, Nat.zero_le _⟩) hS (fun q h => h) (fun H locs hsz9 hk1 hP1 hS => ?_)
  refine W.eq (g2 := F0 m 51 ls []) rfl ?_
  have hP : va_P D cls (wMo cI cJ cZ a 0 kn ed ct ti nm xa xb (nI ((f_Mo_run_3 ti nm xa it vs se rs wk n j t).1)) ((f_Mo_run_3 ti nm xa it vs se rs wk n j t).2.1) ((f_Mo_run_3 ti nm xa it vs se rs wk n j t).2.2.1) ((f_Mo_run_3 ti nm xa it vs se rs wk n j t).2.2.2.1) ((f_Mo_run_3 ti nm xa it vs se rs wk n j t).2.2.2.2.1) ((f_Mo_run_3 ti nm xa it vs se rs wk n j t).2.2.2.2.2.1) ((f_Mo_run_3 ti nm xa it vs se rs wk n j t).2.2.2.2.2.2) ors owk) H := hP1
  have hD : va_D (blk a 15) (wMo cI cJ cZ a 0 kn ed ct ti nm xa xb (nI ((f_Mo_run_3 ti nm xa it vs se rs wk n j t).1)) ((f_Mo_run_3 ti nm xa it vs se rs wk n j t).2.1) ((f_Mo_run_3 ti nm xa it vs se rs wk n j t).2.2.1) ((f_Mo_run_3 ti nm xa it vs se rs wk n j t).2.2.2.1) ((f_Mo_run_3 ti nm xa it vs se rs wk n j t).2.2.2.2.1) ((f_Mo_run_3 ti nm xa it vs se rs wk n j t).2.2.2.2.2.1) ((f_Mo_run_3 ti nm xa it vs se rs wk n j t).2.2.2.2.2.2) ors owk) := (blk_D (wMo_in))
  refine lv_aload_n hx hb d_Md_isNotFor_51 rfl (lv_at hl 0 rfl) ?_
  refine va_get (D := D) (ci := 9) (v := .int 0) (C := R_Md) (T := F_Md) (N := 17) hx hb hg in_Md hown hK hP 0 rfl rfl 0 (Nat.le_of_ble_eq_true rfl) (hg _ tw_706) (fun _ h9 => h9) rfl d_Md_isNotFor_52 ?_
  refine lv_if_le (tgt := 62) hx hb d_Md_isNotFor_55 (by decide) (fun hc => ?_) (fun hc => False.elim (by revert hc; decide))
  refine lv_iconst (v := 0) hx hb d_Md_isNotFor_62 (by decide) ?_
  subst hR
  exact W.zret (v := 0) hx hb hr (by decide) (fun t9 ht hW => ⟨rfl, hS.F ht, by rw [ht]; exact hP⟩) hS.2.2 d_Md_isNotFor_63

def f_Mo_isNotFor_5_47 (ti : Nat → Int32) (xa : Nat → Int32) (xb : Nat → Int32) (it : Nat → Int32) (vs : Nat → Int32) (se : Nat → Int32) (rs : Nat → Int64) (wk : Nat → Int32) (n : Nat) (j : Nat) (t : Int32) : Int32 × (Nat → Int32) × (Nat → Int32) × (Nat → Int32) × Int64 × (Nat → Int64) × (Nat → Int32) := ((f_Mo_run_5 ti xa xb it vs se rs wk n j t).1, (f_Mo_run_5 ti xa xb it vs se rs wk n j t).2.1, (f_Mo_run_5 ti xa xb it vs se rs wk n j t).2.2.1, (f_Mo_run_5 ti xa xb it vs se rs wk n j t).2.2.2.1, (f_Mo_run_5 ti xa xb it vs se rs wk n j t).2.2.2.2.1, (f_Mo_run_5 ti xa xb it vs se rs wk n j t).2.2.2.2.2.1, (f_Mo_run_5 ti xa xb it vs se rs wk n j t).2.2.2.2.2.2)
set_option maxHeartbeats 4000000 in
set_option maxRecDepth 100000 in
theorem m_Mo_isNotFor_5_47 (l : Launch) (D : va_G) (cI cJ cZ cO : ClassId) (a : Nat) (code : Int32) (kn : Nat → Int32) (ed : Nat → Int32) (ct : Nat → Int32) (ti : Nat → Int32) (nm : Nat → Int32) (xa : Nat → Int32) (xb : Nat → Int32) (ma : Int32) (it : Nat → Int32) (vs : Nat → Int32) (se : Nat → Int32) (sm : Int64) (rs : Nat → Int64) (wk : Nat → Int32) (ors : Nat → Int64) (owk : Nat → Int32) (n : Nat) (j : Nat) (t : Int32) (hj : j < 4) (hlk : (f_Mo_lacks kn j t).1 = 0) (hk : kn j = 6) (hct : ct j = nI n) (hn : n ≤ 32) (hop : ∀ i, i < n → (xa (32 * j + i) = nI (xa (32 * j + i)).toNatClampNeg ∧ (xa (32 * j + i)).toNatClampNeg < 16) ∧ (xb (32 * j + i) = nI (xb (32 * j + i)).toNatClampNeg ∧ (xb (32 * j + i)).toNatClampNeg < 16)) (R : Int32 × (Nat → Int32) × (Nat → Int32) × (Nat → Int32) × Int64 × (Nat → Int64) × (Nat → Int32)) (hR : f_Mo_isNotFor_5_47 ti xa xb it vs se rs wk n j t = R) : Met l y_Md_isNotFor (k_Md_isNotFor :: gt) rm_Md_isNotFor (Pc0 D cI cJ cZ cO [.ref a, .int (nI j), .int t, .int 47] (fun H => va_P D cls (wMo cI cJ cZ a code kn ed ct ti nm xa xb ma it vs se sm rs wk ors owk) H)) (Qd (blk a 15) (some (.int 0)) (fun H => va_P D cls (wMo cI cJ cZ a 0 kn ed ct ti nm xa xb R.1 R.2.1 R.2.2.1 R.2.2.2.1 R.2.2.2.2.1 R.2.2.2.2.2.1 R.2.2.2.2.2.2 ors owk) H)) 0 0 (blk a 15) := by
  refine Met.ofW (cc := c_Md_isNotFor) (maxL := 4) (ret := (Option.some FieldType.boolean)) (by decide) rfl ?_
  intro p e s m args below meth c s₁ B hml hv
  obtain ⟨rfl, hKn, hP⟩ := hv
  have hx := B.exec
  have hb := B.bytes
  have hr := B.returns
  have hts := atoms_spec (ws := k_Md_isNotFor :: gt) B.pre
  have hg : ∀ w ∈ gt, w.before _ s = true := fun w h => hts w (List.mem_cons_of_mem _ h)
  have hown : s.vm.findClass R_Md = some m.cls := findClass_of_methodNamed B.named
  have hlocks := B.notSynchronized
  have hK := hKn.1
  have hl := lv_entry ([.ref a, .int (nI j), .int t, .int 47]) (n := 4) (Nat.le_of_ble_eq_true rfl)
  rw [lg_entry_eq]
  generalize (lg_sl ([.ref a, .int (nI j), .int t, .int 47]) ++ List.replicate (4 - (lg_sl ([.ref a, .int (nI j), .int t, .int 47])).length) Slot.unset).toArray = ls at hl ⊢
  have hl : lv_has ls 4 [(0, .ref a), (1, .int (nI j)), (2, .int t), (3, .int 47)] := hl
  have hS : va_S (blk a 15) s.heap s.heap [] := va_S.rf
  have hD : va_D (blk a 15) (wMo cI cJ cZ a code kn ed ct ti nm xa xb ma it vs se sm rs wk ors owk) := (blk_D (wMo_in))
  have hR : (((f_Mo_run_5 ti xa xb it vs se rs wk n j t).1, (f_Mo_run_5 ti xa xb it vs se rs wk n j t).2.1, (f_Mo_run_5 ti xa xb it vs se rs wk n j t).2.2.1, (f_Mo_run_5 ti xa xb it vs se rs wk n j t).2.2.2.1, (f_Mo_run_5 ti xa xb it vs se rs wk n j t).2.2.2.2.1, (f_Mo_run_5 ti xa xb it vs se rs wk n j t).2.2.2.2.2.1, (f_Mo_run_5 ti xa xb it vs se rs wk n j t).2.2.2.2.2.2)) = R := hR
  refine lv_aload_n hx hb d_Md_isNotFor_0 rfl (lv_at hl 0 rfl) ?_
  refine lv_iload_n hx hb d_Md_isNotFor_1 rfl (lv_at hl 1 rfl) ?_
  refine lv_iload_n hx hb d_Md_isNotFor_2 rfl (lv_at hl 2 rfl) ?_
  refine ep_callH (W.runV (As := [.int (nI j), .int t]) (rest := []) ⟨hx, hb, hml, hown, hg⟩ (m_Mo_lacks l D cI cJ cZ cO a code kn ed ct ti nm xa xb ma it vs se sm rs wk ors owk j t (by omega) _ rfl) (ep_cwV 2 hg tw_773 tw_775 ts_9 tw_12 tk_Md_lacks rfl rfl (by decide +kernel) ⟨(Nat.le_of_ble_eq_true rfl), (Nat.le_of_ble_eq_true rfl)⟩) ⟨ep_blind, va_recv (q0 := 0) (ci := 9) hK hP rfl rfl, ep_pre hKn (hP)⟩ rfl rfl hl.1 rfl (lv_room (Nat.le_of_ble_eq_true rfl)) d_Md_isNotFor_3 ⟨Nat.zero_le _, Nat.zero_le _⟩) hS (fun q h => h) (fun H locs hsz9 hk1 hP1 hS => ?_)
  refine W.eq (g2 := F0 m 6 ls [.int ((f_Mo_lacks kn j t).1)]) rfl ?_
  have hP : va_P D cls (wMo cI cJ cZ a ((f_Mo_lacks kn j t).2) kn ed ct ti nm xa xb ma it vs se sm rs wk ors owk) H := hP1
  have hD : va_D (blk a 15) (wMo cI cJ cZ a ((f_Mo_lacks kn j t).2) kn ed ct ti nm xa xb ma it vs se sm rs wk ors owk) := (blk_D (wMo_in))
  refine lv_if_eq (tgt := 11) hx hb d_Md_isNotFor_6 (by decide) (fun hc => ?_) (fun hc => absurd hlk hc)
  refine lv_aload_n hx hb d_Md_isNotFor_11 rfl (lv_at hl 0 rfl) ?_
  refine lv_iload_n hx hb d_Md_isNotFor_12 rfl (lv_at hl 3 rfl) ?_
  refine lv_aload_n hx hb d_Md_isNotFor_13 rfl (lv_at hl 0 rfl) ?_
  refine lv_iload_n hx hb d_Md_isNotFor_14 rfl (lv_at hl 1 rfl) ?_
  refine ep_callP (W.runV (As := [.int (nI j)]) (rest := [.int 47, .ref a]) ⟨hx, hb, hml, hown, hg⟩ (m_Mo_kindOf l D cI cJ cZ cO a ((f_Mo_lacks kn j t).2) kn ed ct ti nm xa xb ma it vs se sm rs wk ors owk j (by omega) _ rfl) (ep_cwV 1 hg tw_789 tw_791 ts_11 tw_12 tk_Md_kindOf rfl rfl (by decide +kernel) ⟨(Nat.le_of_ble_eq_true rfl), (Nat.le_of_ble_eq_true rfl)⟩) ⟨ep_blind, va_recv (q0 := 0) (ci := 9) hK hP rfl rfl, ep_pre hKn (hP)⟩ rfl rfl hl.1 rfl (lv_room (Nat.le_of_ble_eq_true rfl)) d_Md_isNotFor_15 ⟨Nat.zero_le _, Nat.zero_le _⟩) ?_
  refine W.eq (g2 := F0 m 18 ls [.int (f_Mo_kindOf kn j), .int 47, .ref a]) rfl ?_
  refine lv_topi (fun z9 e_z9 => ?_)
  obtain rfl : z9 = 5 := by rw [e_z9]; exact (by rw [show f_Mo_kindOf kn j = kn j - 1 from rfl, hk]; decide)
  refine lv_ishr hx hb d_Md_isNotFor_18 ?_
  refine lv_topi (fun z9 e_z9 => ?_)
  obtain rfl : z9 = 1 := by rw [e_z9]; exact (by decide)
  refine lv_iconst (v := 1) hx hb d_Md_isNotFor_19 (by decide) ?_
  refine lv_iand hx hb d_Md_isNotFor_20 ?_
  refine lv_topi (fun z9 e_z9 => ?_)
  obtain rfl : z9 = 1 := by rw [e_z9]; exact (by decide)
  refine lv_iconst (v := 1) hx hb d_Md_isNotFor_21 (by decide) ?_
  refine lv_icmp_ne (tgt := 29) hx hb d_Md_isNotFor_22 (by decide) (fun hc => False.elim (by revert hc; decide)) (fun hc => ?_)
  refine lv_iconst (v := 0) hx hb d_Md_isNotFor_25 (by decide) ?_
  refine lv_goto (tgt := 30) hx hb d_Md_isNotFor_26 (by decide) ?_
  refine va_put (D := D) (ci := 9) (v := .int 0) (ty := .int) (C := R_Md) (T := F_Md) (N := 17) hx hb hg in_Md t_Md t_Md_ok n_Md hown hK hP hD hS 0 rfl rfl 0 (Nat.le_of_ble_eq_true rfl) (hg _ tw_706) (fun _ h9 => h9) rfl (by decide +kernel) rfl rfl (Nat.le_of_ble_eq_true rfl) d_Md_isNotFor_30 (fun H locs hP hD hS => ?_)
  have hP : va_P D cls (wMo cI cJ cZ a 0 kn ed ct ti nm xa xb ma it vs se sm rs wk ors owk) H := hP
  have hD : va_D (blk a 15) (wMo cI cJ cZ a 0 kn ed ct ti nm xa xb ma it vs se sm rs wk ors owk) := hD
  refine lv_aload_n hx hb d_Md_isNotFor_33 rfl (lv_at hl 0 rfl) ?_
  refine va_get (D := D) (ci := 9) (v := .int 0) (C := R_Md) (T := F_Md) (N := 17) hx hb hg in_Md hown hK hP 0 rfl rfl 0 (Nat.le_of_ble_eq_true rfl) (hg _ tw_706) (fun _ h9 => h9) rfl d_Md_isNotFor_34 ?_
  refine lv_if_ne (tgt := 51) hx hb d_Md_isNotFor_37 (by decide) (fun hc => False.elim (by revert hc; decide)) (fun hc => ?_)
  refine lv_aload_n hx hb d_Md_isNotFor_40 rfl (lv_at hl 0 rfl) ?_
  refine lv_iload_n hx hb d_Md_isNotFor_41 rfl (lv_at hl 1 rfl) ?_
  refine lv_aload_n hx hb d_Md_isNotFor_42 rfl (lv_at hl 0 rfl) ?_
  refine lv_iload_n hx hb d_Md_isNotFor_43 rfl (lv_at hl 1 rfl) ?_
  refine ep_callP (W.runV (As := [.int (nI j)]) (rest := [.int (nI j), .ref a]) ⟨hx, hb, hml, hown, hg⟩ (m_Mo_kindOf l D cI cJ cZ cO a 0 kn ed ct ti nm xa xb ma it vs se sm rs wk ors owk j (by omega) _ rfl) (ep_cwV 1 hg tw_789 tw_791 ts_11 tw_12 tk_Md_kindOf rfl rfl (by decide +kernel) ⟨(Nat.le_of_ble_eq_true rfl), (Nat.le_of_ble_eq_true rfl)⟩) ⟨ep_blind, va_recv (q0 := 0) (ci := 9) hK hP rfl rfl, ep_pre hKn (hP)⟩ rfl rfl hl.1 rfl (lv_room (Nat.le_of_ble_eq_true rfl)) d_Md_isNotFor_44 ⟨Nat.zero_le _, Nat.zero_le _⟩) ?_
  refine W.eq (g2 := F0 m 47 ls [.int (f_Mo_kindOf kn j), .int (nI j), .ref a]) rfl ?_
  refine lv_topi (fun z9 e_z9 => ?_)
  obtain rfl : z9 = 5 := by rw [e_z9]; exact (by rw [show f_Mo_kindOf kn j = kn j - 1 from rfl, hk]; decide)
  refine lv_iload_n hx hb d_Md_isNotFor_47 rfl (lv_at hl 2 rfl) ?_
  refine ep_callH (W.runV (As := [.int (nI j), .int 5, .int t]) (rest := []) ⟨hx, hb, hml, hown, hg⟩ (m_Mo_run_5 l D cI cJ cZ cO a 0 kn ed ct ti nm xa xb ma it vs se sm rs wk ors owk n j t (by omega) hct (by omega) hop _ rfl) (ep_cwV 3 hg tw_832 tw_834 ts_17 tw_12 tk_Md_run rfl rfl (by decide +kernel) ⟨(Nat.le_of_ble_eq_true rfl), (Nat.le_of_ble_eq_true rfl)⟩) ⟨ep_blind, va_recv (q0 := 0) (ci := 9) hK hP rfl rfl, ep_pre hKn (hP)⟩ rfl rfl hl.1 rfl (lv_room (Nat.le_of_ble_eq_true rfl)) d_Md_isNotFor_48 ⟨Nat.zero_le _, Nat.zero_le _⟩) hS (fun q h => h) (fun H locs hsz9 hk1 hP1 hS => ?_)
  refine W.eq (g2 := F0 m 51 ls []) rfl ?_
  have hP : va_P D cls (wMo cI cJ cZ a 0 kn ed ct ti nm xa xb ((f_Mo_run_5 ti xa xb it vs se rs wk n j t).1) ((f_Mo_run_5 ti xa xb it vs se rs wk n j t).2.1) ((f_Mo_run_5 ti xa xb it vs se rs wk n j t).2.2.1) ((f_Mo_run_5 ti xa xb it vs se rs wk n j t).2.2.2.1) ((f_Mo_run_5 ti xa xb it vs se rs wk n j t).2.2.2.2.1) ((f_Mo_run_5 ti xa xb it vs se rs wk n j t).2.2.2.2.2.1) ((f_Mo_run_5 ti xa xb it vs se rs wk n j t).2.2.2.2.2.2) ors owk) H := hP1
  have hD : va_D (blk a 15) (wMo cI cJ cZ a 0 kn ed ct ti nm xa xb ((f_Mo_run_5 ti xa xb it vs se rs wk n j t).1) ((f_Mo_run_5 ti xa xb it vs se rs wk n j t).2.1) ((f_Mo_run_5 ti xa xb it vs se rs wk n j t).2.2.1) ((f_Mo_run_5 ti xa xb it vs se rs wk n j t).2.2.2.1) ((f_Mo_run_5 ti xa xb it vs se rs wk n j t).2.2.2.2.1) ((f_Mo_run_5 ti xa xb it vs se rs wk n j t).2.2.2.2.2.1) ((f_Mo_run_5 ti xa xb it vs se rs wk n j t).2.2.2.2.2.2) ors owk) := (blk_D (wMo_in))
  refine lv_aload_n hx hb d_Md_isNotFor_51 rfl (lv_at hl 0 rfl) ?_
  refine va_get (D := D) (ci := 9) (v := .int 0) (C := R_Md) (T := F_Md) (N := 17) hx hb hg in_Md hown hK hP 0 rfl rfl 0 (Nat.le_of_ble_eq_true rfl) (hg _ tw_706) (fun _ h9 => h9) rfl d_Md_isNotFor_52 ?_
  refine lv_if_le (tgt := 62) hx hb d_Md_isNotFor_55 (by decide) (fun hc => ?_) (fun hc => False.elim (by revert hc; decide))
  refine lv_iconst (v := 0) hx hb d_Md_isNotFor_62 (by decide) ?_
  subst hR
  exact W.zret (v := 0) hx hb hr (by decide) (fun t9 ht hW => ⟨rfl, hS.F ht, by rw [ht]; exact hP⟩) hS.2.2 d_Md_isNotFor_63

def f_Mo_isNotFor_2_4 (ti : Nat → Int32) (nm : Nat → Int32) (xa : Nat → Int32) (xb : Nat → Int32) (it : Nat → Int32) (vs : Nat → Int32) (se : Nat → Int32) (rs : Nat → Int64) (wk : Nat → Int32) (n : Nat) (j : Nat) (t : Int32) : Nat × (Nat → Int32) × (Nat → Int32) × (Nat → Int32) × Int64 × (Nat → Int64) × (Nat → Int32) := ((f_Mo_run_2 ti nm xa xb it vs se rs wk n j t).1, (f_Mo_run_2 ti nm xa xb it vs se rs wk n j t).2.1, (f_Mo_run_2 ti nm xa xb it vs se rs wk n j t).2.2.1, (f_Mo_run_2 ti nm xa xb it vs se rs wk n j t).2.2.2.1, (f_Mo_run_2 ti nm xa xb it vs se rs wk n j t).2.2.2.2.1, (f_Mo_run_2 ti nm xa xb it vs se rs wk n j t).2.2.2.2.2.1, (f_Mo_run_2 ti nm xa xb it vs se rs wk n j t).2.2.2.2.2.2)
set_option maxHeartbeats 4000000 in
set_option maxRecDepth 100000 in
theorem m_Mo_isNotFor_2_4 (l : Launch) (D : va_G) (cI cJ cZ cO : ClassId) (a : Nat) (code : Int32) (kn : Nat → Int32) (ed : Nat → Int32) (ct : Nat → Int32) (ti : Nat → Int32) (nm : Nat → Int32) (xa : Nat → Int32) (xb : Nat → Int32) (ma : Int32) (it : Nat → Int32) (vs : Nat → Int32) (se : Nat → Int32) (sm : Int64) (rs : Nat → Int64) (wk : Nat → Int32) (ors : Nat → Int64) (owk : Nat → Int32) (n : Nat) (j : Nat) (t : Int32) (hj : j < 4) (hlk : (f_Mo_lacks kn j t).1 = 0) (hk : kn j = 3) (hct : ct j = nI n) (hn : n ≤ 32) (R : Nat × (Nat → Int32) × (Nat → Int32) × (Nat → Int32) × Int64 × (Nat → Int64) × (Nat → Int32)) (hR : f_Mo_isNotFor_2_4 ti nm xa xb it vs se rs wk n j t = R) : Met l y_Md_isNotFor (k_Md_isNotFor :: gt) rm_Md_isNotFor (Pc0 D cI cJ cZ cO [.ref a, .int (nI j), .int t, .int 4] (fun H => va_P D cls (wMo cI cJ cZ a code kn ed ct ti nm xa xb ma it vs se sm rs wk ors owk) H)) (Qd (blk a 15) (some (.int 0)) (fun H => va_P D cls (wMo cI cJ cZ a 0 kn ed ct ti nm xa xb (nI R.1) R.2.1 R.2.2.1 R.2.2.2.1 R.2.2.2.2.1 R.2.2.2.2.2.1 R.2.2.2.2.2.2 ors owk) H)) 0 0 (blk a 15) := by
  refine Met.ofW (cc := c_Md_isNotFor) (maxL := 4) (ret := (Option.some FieldType.boolean)) (by decide) rfl ?_
  intro p e s m args below meth c s₁ B hml hv
  obtain ⟨rfl, hKn, hP⟩ := hv
  have hx := B.exec
  have hb := B.bytes
  have hr := B.returns
  have hts := atoms_spec (ws := k_Md_isNotFor :: gt) B.pre
  have hg : ∀ w ∈ gt, w.before _ s = true := fun w h => hts w (List.mem_cons_of_mem _ h)
  have hown : s.vm.findClass R_Md = some m.cls := findClass_of_methodNamed B.named
  have hlocks := B.notSynchronized
  have hK := hKn.1
  have hl := lv_entry ([.ref a, .int (nI j), .int t, .int 4]) (n := 4) (Nat.le_of_ble_eq_true rfl)
  rw [lg_entry_eq]
  generalize (lg_sl ([.ref a, .int (nI j), .int t, .int 4]) ++ List.replicate (4 - (lg_sl ([.ref a, .int (nI j), .int t, .int 4])).length) Slot.unset).toArray = ls at hl ⊢
  have hl : lv_has ls 4 [(0, .ref a), (1, .int (nI j)), (2, .int t), (3, .int 4)] := hl
  have hS : va_S (blk a 15) s.heap s.heap [] := va_S.rf
  have hD : va_D (blk a 15) (wMo cI cJ cZ a code kn ed ct ti nm xa xb ma it vs se sm rs wk ors owk) := (blk_D (wMo_in))
  have hR : (((f_Mo_run_2 ti nm xa xb it vs se rs wk n j t).1, (f_Mo_run_2 ti nm xa xb it vs se rs wk n j t).2.1, (f_Mo_run_2 ti nm xa xb it vs se rs wk n j t).2.2.1, (f_Mo_run_2 ti nm xa xb it vs se rs wk n j t).2.2.2.1, (f_Mo_run_2 ti nm xa xb it vs se rs wk n j t).2.2.2.2.1, (f_Mo_run_2 ti nm xa xb it vs se rs wk n j t).2.2.2.2.2.1, (f_Mo_run_2 ti nm xa xb it vs se rs wk n j t).2.2.2.2.2.2)) = R := hR
  refine lv_aload_n hx hb d_Md_isNotFor_0 rfl (lv_at hl 0 rfl) ?_
  refine lv_iload_n hx hb d_Md_isNotFor_1 rfl (lv_at hl 1 rfl) ?_
  refine lv_iload_n hx hb d_Md_isNotFor_2 rfl (lv_at hl 2 rfl) ?_
  refine ep_callH (W.runV (As := [.int (nI j), .int t]) (rest := []) ⟨hx, hb, hml, hown, hg⟩ (m_Mo_lacks l D cI cJ cZ cO a code kn ed ct ti nm xa xb ma it vs se sm rs wk ors owk j t (by omega) _ rfl) (ep_cwV 2 hg tw_773 tw_775 ts_9 tw_12 tk_Md_lacks rfl rfl (by decide +kernel) ⟨(Nat.le_of_ble_eq_true rfl), (Nat.le_of_ble_eq_true rfl)⟩) ⟨ep_blind, va_recv (q0 := 0) (ci := 9) hK hP rfl rfl, ep_pre hKn (hP)⟩ rfl rfl hl.1 rfl (lv_room (Nat.le_of_ble_eq_true rfl)) d_Md_isNotFor_3 ⟨Nat.zero_le _, Nat.zero_le _⟩) hS (fun q h => h) (fun H locs hsz9 hk1 hP1 hS => ?_)
  refine W.eq (g2 := F0 m 6 ls [.int ((f_Mo_lacks kn j t).1)]) rfl ?_
  have hP : va_P D cls (wMo cI cJ cZ a ((f_Mo_lacks kn j t).2) kn ed ct ti nm xa xb ma it vs se sm rs wk ors owk) H := hP1
  have hD : va_D (blk a 15) (wMo cI cJ cZ a ((f_Mo_lacks kn j t).2) kn ed ct ti nm xa xb ma it vs se sm rs wk ors owk) := (blk_D (wMo_in))
  refine lv_if_eq (tgt := 11) hx hb d_Md_isNotFor_6 (by decide) (fun hc => ?_) (fun hc => absurd hlk hc)
  refine lv_aload_n hx hb d_Md_isNotFor_11 rfl (lv_at hl 0 rfl) ?_
  refine lv_iload_n hx hb d_Md_isNotFor_12 rfl (lv_at hl 3 rfl) ?_
  refine lv_aload_n hx hb d_Md_isNotFor_13 rfl (lv_at hl 0 rfl) ?_
  refine lv_iload_n hx hb d_Md_isNotFor_14 rfl (lv_at hl 1 rfl) ?_
  refine ep_callP (W.runV (As := [.int (nI j)]) (rest := [.int 4, .ref a]) ⟨hx, hb, hml, hown, hg⟩ (m_Mo_kindOf l D cI cJ cZ cO a ((f_Mo_lacks kn j t).2) kn ed ct ti nm xa xb ma it vs se sm rs wk ors owk j (by omega) _ rfl) (ep_cwV 1 hg tw_789 tw_791 ts_11 tw_12 tk_Md_kindOf rfl rfl (by decide +kernel) ⟨(Nat.le_of_ble_eq_true rfl), (Nat.le_of_ble_eq_true rfl)⟩) ⟨ep_blind, va_recv (q0 := 0) (ci := 9) hK hP rfl rfl, ep_pre hKn (hP)⟩ rfl rfl hl.1 rfl (lv_room (Nat.le_of_ble_eq_true rfl)) d_Md_isNotFor_15 ⟨Nat.zero_le _, Nat.zero_le _⟩) ?_
  refine W.eq (g2 := F0 m 18 ls [.int (f_Mo_kindOf kn j), .int 4, .ref a]) rfl ?_
  refine lv_topi (fun z9 e_z9 => ?_)
  obtain rfl : z9 = 2 := by rw [e_z9]; exact (by rw [show f_Mo_kindOf kn j = kn j - 1 from rfl, hk]; decide)
  refine lv_ishr hx hb d_Md_isNotFor_18 ?_
  refine lv_topi (fun z9 e_z9 => ?_)
  obtain rfl : z9 = 1 := by rw [e_z9]; exact (by decide)
  refine lv_iconst (v := 1) hx hb d_Md_isNotFor_19 (by decide) ?_
  refine lv_iand hx hb d_Md_isNotFor_20 ?_
  refine lv_topi (fun z9 e_z9 => ?_)
  obtain rfl : z9 = 1 := by rw [e_z9]; exact (by decide)
  refine lv_iconst (v := 1) hx hb d_Md_isNotFor_21 (by decide) ?_
  refine lv_icmp_ne (tgt := 29) hx hb d_Md_isNotFor_22 (by decide) (fun hc => False.elim (by revert hc; decide)) (fun hc => ?_)
  refine lv_iconst (v := 0) hx hb d_Md_isNotFor_25 (by decide) ?_
  refine lv_goto (tgt := 30) hx hb d_Md_isNotFor_26 (by decide) ?_
  refine va_put (D := D) (ci := 9) (v := .int 0) (ty := .int) (C := R_Md) (T := F_Md) (N := 17) hx hb hg in_Md t_Md t_Md_ok n_Md hown hK hP hD hS 0 rfl rfl 0 (Nat.le_of_ble_eq_true rfl) (hg _ tw_706) (fun _ h9 => h9) rfl (by decide +kernel) rfl rfl (Nat.le_of_ble_eq_true rfl) d_Md_isNotFor_30 (fun H locs hP hD hS => ?_)
  have hP : va_P D cls (wMo cI cJ cZ a 0 kn ed ct ti nm xa xb ma it vs se sm rs wk ors owk) H := hP
  have hD : va_D (blk a 15) (wMo cI cJ cZ a 0 kn ed ct ti nm xa xb ma it vs se sm rs wk ors owk) := hD
  refine lv_aload_n hx hb d_Md_isNotFor_33 rfl (lv_at hl 0 rfl) ?_
  refine va_get (D := D) (ci := 9) (v := .int 0) (C := R_Md) (T := F_Md) (N := 17) hx hb hg in_Md hown hK hP 0 rfl rfl 0 (Nat.le_of_ble_eq_true rfl) (hg _ tw_706) (fun _ h9 => h9) rfl d_Md_isNotFor_34 ?_
  refine lv_if_ne (tgt := 51) hx hb d_Md_isNotFor_37 (by decide) (fun hc => False.elim (by revert hc; decide)) (fun hc => ?_)
  refine lv_aload_n hx hb d_Md_isNotFor_40 rfl (lv_at hl 0 rfl) ?_
  refine lv_iload_n hx hb d_Md_isNotFor_41 rfl (lv_at hl 1 rfl) ?_
  refine lv_aload_n hx hb d_Md_isNotFor_42 rfl (lv_at hl 0 rfl) ?_
  refine lv_iload_n hx hb d_Md_isNotFor_43 rfl (lv_at hl 1 rfl) ?_
  refine ep_callP (W.runV (As := [.int (nI j)]) (rest := [.int (nI j), .ref a]) ⟨hx, hb, hml, hown, hg⟩ (m_Mo_kindOf l D cI cJ cZ cO a 0 kn ed ct ti nm xa xb ma it vs se sm rs wk ors owk j (by omega) _ rfl) (ep_cwV 1 hg tw_789 tw_791 ts_11 tw_12 tk_Md_kindOf rfl rfl (by decide +kernel) ⟨(Nat.le_of_ble_eq_true rfl), (Nat.le_of_ble_eq_true rfl)⟩) ⟨ep_blind, va_recv (q0 := 0) (ci := 9) hK hP rfl rfl, ep_pre hKn (hP)⟩ rfl rfl hl.1 rfl (lv_room (Nat.le_of_ble_eq_true rfl)) d_Md_isNotFor_44 ⟨Nat.zero_le _, Nat.zero_le _⟩) ?_
  refine W.eq (g2 := F0 m 47 ls [.int (f_Mo_kindOf kn j), .int (nI j), .ref a]) rfl ?_
  refine lv_topi (fun z9 e_z9 => ?_)
  obtain rfl : z9 = 2 := by rw [e_z9]; exact (by rw [show f_Mo_kindOf kn j = kn j - 1 from rfl, hk]; decide)
  refine lv_iload_n hx hb d_Md_isNotFor_47 rfl (lv_at hl 2 rfl) ?_
  refine ep_callH (W.runV (As := [.int (nI j), .int 2, .int t]) (rest := []) ⟨hx, hb, hml, hown, hg⟩ (m_Mo_run_2 l D cI cJ cZ cO a 0 kn ed ct ti nm xa xb ma it vs se sm rs wk ors owk n j t (by omega) hct (by omega) _ rfl) (ep_cwV 3 hg tw_832 tw_834 ts_17 tw_12 tk_Md_run rfl rfl (by decide +kernel) ⟨(Nat.le_of_ble_eq_true rfl), (Nat.le_of_ble_eq_true rfl)⟩) ⟨ep_blind, va_recv (q0 := 0) (ci := 9) hK hP rfl rfl, ep_pre hKn (hP)⟩ rfl rfl hl.1 rfl (lv_room (Nat.le_of_ble_eq_true rfl)) d_Md_isNotFor_48 ⟨Nat.zero_le _, Nat.zero_le _⟩) hS (fun q h => h) (fun H locs hsz9 hk1 hP1 hS => ?_)
  refine W.eq (g2 := F0 m 51 ls []) rfl ?_
  have hP : va_P D cls (wMo cI cJ cZ a 0 kn ed ct ti nm xa xb (nI ((f_Mo_run_2 ti nm xa xb it vs se rs wk n j t).1)) ((f_Mo_run_2 ti nm xa xb it vs se rs wk n j t).2.1) ((f_Mo_run_2 ti nm xa xb it vs se rs wk n j t).2.2.1) ((f_Mo_run_2 ti nm xa xb it vs se rs wk n j t).2.2.2.1) ((f_Mo_run_2 ti nm xa xb it vs se rs wk n j t).2.2.2.2.1) ((f_Mo_run_2 ti nm xa xb it vs se rs wk n j t).2.2.2.2.2.1) ((f_Mo_run_2 ti nm xa xb it vs se rs wk n j t).2.2.2.2.2.2) ors owk) H := hP1
  have hD : va_D (blk a 15) (wMo cI cJ cZ a 0 kn ed ct ti nm xa xb (nI ((f_Mo_run_2 ti nm xa xb it vs se rs wk n j t).1)) ((f_Mo_run_2 ti nm xa xb it vs se rs wk n j t).2.1) ((f_Mo_run_2 ti nm xa xb it vs se rs wk n j t).2.2.1) ((f_Mo_run_2 ti nm xa xb it vs se rs wk n j t).2.2.2.1) ((f_Mo_run_2 ti nm xa xb it vs se rs wk n j t).2.2.2.2.1) ((f_Mo_run_2 ti nm xa xb it vs se rs wk n j t).2.2.2.2.2.1) ((f_Mo_run_2 ti nm xa xb it vs se rs wk n j t).2.2.2.2.2.2) ors owk) := (blk_D (wMo_in))
  refine lv_aload_n hx hb d_Md_isNotFor_51 rfl (lv_at hl 0 rfl) ?_
  refine va_get (D := D) (ci := 9) (v := .int 0) (C := R_Md) (T := F_Md) (N := 17) hx hb hg in_Md hown hK hP 0 rfl rfl 0 (Nat.le_of_ble_eq_true rfl) (hg _ tw_706) (fun _ h9 => h9) rfl d_Md_isNotFor_52 ?_
  refine lv_if_le (tgt := 62) hx hb d_Md_isNotFor_55 (by decide) (fun hc => ?_) (fun hc => False.elim (by revert hc; decide))
  refine lv_iconst (v := 0) hx hb d_Md_isNotFor_62 (by decide) ?_
  subst hR
  exact W.zret (v := 0) hx hb hr (by decide) (fun t9 ht hW => ⟨rfl, hS.F ht, by rw [ht]; exact hP⟩) hS.2.2 d_Md_isNotFor_63

def f_Mo_isNotFor_3_8 (ti : Nat → Int32) (nm : Nat → Int32) (xa : Nat → Int32) (it : Nat → Int32) (vs : Nat → Int32) (se : Nat → Int32) (rs : Nat → Int64) (wk : Nat → Int32) (n : Nat) (j : Nat) (t : Int32) : Nat × (Nat → Int32) × (Nat → Int32) × (Nat → Int32) × Int64 × (Nat → Int64) × (Nat → Int32) := ((f_Mo_run_3 ti nm xa it vs se rs wk n j t).1, (f_Mo_run_3 ti nm xa it vs se rs wk n j t).2.1, (f_Mo_run_3 ti nm xa it vs se rs wk n j t).2.2.1, (f_Mo_run_3 ti nm xa it vs se rs wk n j t).2.2.2.1, (f_Mo_run_3 ti nm xa it vs se rs wk n j t).2.2.2.2.1, (f_Mo_run_3 ti nm xa it vs se rs wk n j t).2.2.2.2.2.1, (f_Mo_run_3 ti nm xa it vs se rs wk n j t).2.2.2.2.2.2)
set_option maxHeartbeats 4000000 in
set_option maxRecDepth 100000 in
theorem m_Mo_isNotFor_3_8 (l : Launch) (D : va_G) (cI cJ cZ cO : ClassId) (a : Nat) (code : Int32) (kn : Nat → Int32) (ed : Nat → Int32) (ct : Nat → Int32) (ti : Nat → Int32) (nm : Nat → Int32) (xa : Nat → Int32) (xb : Nat → Int32) (ma : Int32) (it : Nat → Int32) (vs : Nat → Int32) (se : Nat → Int32) (sm : Int64) (rs : Nat → Int64) (wk : Nat → Int32) (ors : Nat → Int64) (owk : Nat → Int32) (n : Nat) (j : Nat) (t : Int32) (hj : j < 4) (hlk : (f_Mo_lacks kn j t).1 = 0) (hk : kn j = 4) (hct : ct j = nI n) (hn : n ≤ 32) (R : Nat × (Nat → Int32) × (Nat → Int32) × (Nat → Int32) × Int64 × (Nat → Int64) × (Nat → Int32)) (hR : f_Mo_isNotFor_3_8 ti nm xa it vs se rs wk n j t = R) : Met l y_Md_isNotFor (k_Md_isNotFor :: gt) rm_Md_isNotFor (Pc0 D cI cJ cZ cO [.ref a, .int (nI j), .int t, .int 8] (fun H => va_P D cls (wMo cI cJ cZ a code kn ed ct ti nm xa xb ma it vs se sm rs wk ors owk) H)) (Qd (blk a 15) (some (.int 0)) (fun H => va_P D cls (wMo cI cJ cZ a 0 kn ed ct ti nm xa xb (nI R.1) R.2.1 R.2.2.1 R.2.2.2.1 R.2.2.2.2.1 R.2.2.2.2.2.1 R.2.2.2.2.2.2 ors owk) H)) 0 0 (blk a 15) := by
  refine Met.ofW (cc := c_Md_isNotFor) (maxL := 4) (ret := (Option.some FieldType.boolean)) (by decide) rfl ?_
  intro p e s m args below meth c s₁ B hml hv
  obtain ⟨rfl, hKn, hP⟩ := hv
  have hx := B.exec
  have hb := B.bytes
  have hr := B.returns
  have hts := atoms_spec (ws := k_Md_isNotFor :: gt) B.pre
  have hg : ∀ w ∈ gt, w.before _ s = true := fun w h => hts w (List.mem_cons_of_mem _ h)
  have hown : s.vm.findClass R_Md = some m.cls := findClass_of_methodNamed B.named
  have hlocks := B.notSynchronized
  have hK := hKn.1
  have hl := lv_entry ([.ref a, .int (nI j), .int t, .int 8]) (n := 4) (Nat.le_of_ble_eq_true rfl)
  rw [lg_entry_eq]
  generalize (lg_sl ([.ref a, .int (nI j), .int t, .int 8]) ++ List.replicate (4 - (lg_sl ([.ref a, .int (nI j), .int t, .int 8])).length) Slot.unset).toArray = ls at hl ⊢
  have hl : lv_has ls 4 [(0, .ref a), (1, .int (nI j)), (2, .int t), (3, .int 8)] := hl
  have hS : va_S (blk a 15) s.heap s.heap [] := va_S.rf
  have hD : va_D (blk a 15) (wMo cI cJ cZ a code kn ed ct ti nm xa xb ma it vs se sm rs wk ors owk) := (blk_D (wMo_in))
  have hR : (((f_Mo_run_3 ti nm xa it vs se rs wk n j t).1, (f_Mo_run_3 ti nm xa it vs se rs wk n j t).2.1, (f_Mo_run_3 ti nm xa it vs se rs wk n j t).2.2.1, (f_Mo_run_3 ti nm xa it vs se rs wk n j t).2.2.2.1, (f_Mo_run_3 ti nm xa it vs se rs wk n j t).2.2.2.2.1, (f_Mo_run_3 ti nm xa it vs se rs wk n j t).2.2.2.2.2.1, (f_Mo_run_3 ti nm xa it vs se rs wk n j t).2.2.2.2.2.2)) = R := hR
  refine lv_aload_n hx hb d_Md_isNotFor_0 rfl (lv_at hl 0 rfl) ?_
  refine lv_iload_n hx hb d_Md_isNotFor_1 rfl (lv_at hl 1 rfl) ?_
  refine lv_iload_n hx hb d_Md_isNotFor_2 rfl (lv_at hl 2 rfl) ?_
  refine ep_callH (W.runV (As := [.int (nI j), .int t]) (rest := []) ⟨hx, hb, hml, hown, hg⟩ (m_Mo_lacks l D cI cJ cZ cO a code kn ed ct ti nm xa xb ma it vs se sm rs wk ors owk j t (by omega) _ rfl) (ep_cwV 2 hg tw_773 tw_775 ts_9 tw_12 tk_Md_lacks rfl rfl (by decide +kernel) ⟨(Nat.le_of_ble_eq_true rfl), (Nat.le_of_ble_eq_true rfl)⟩) ⟨ep_blind, va_recv (q0 := 0) (ci := 9) hK hP rfl rfl, ep_pre hKn (hP)⟩ rfl rfl hl.1 rfl (lv_room (Nat.le_of_ble_eq_true rfl)) d_Md_isNotFor_3 ⟨Nat.zero_le _, Nat.zero_le _⟩) hS (fun q h => h) (fun H locs hsz9 hk1 hP1 hS => ?_)
  refine W.eq (g2 := F0 m 6 ls [.int ((f_Mo_lacks kn j t).1)]) rfl ?_
  have hP : va_P D cls (wMo cI cJ cZ a ((f_Mo_lacks kn j t).2) kn ed ct ti nm xa xb ma it vs se sm rs wk ors owk) H := hP1
  have hD : va_D (blk a 15) (wMo cI cJ cZ a ((f_Mo_lacks kn j t).2) kn ed ct ti nm xa xb ma it vs se sm rs wk ors owk) := (blk_D (wMo_in))
  refine lv_if_eq (tgt := 11) hx hb d_Md_isNotFor_6 (by decide) (fun hc => ?_) (fun hc => absurd hlk hc)
  refine lv_aload_n hx hb d_Md_isNotFor_11 rfl (lv_at hl 0 rfl) ?_
  refine lv_iload_n hx hb d_Md_isNotFor_12 rfl (lv_at hl 3 rfl) ?_
  refine lv_aload_n hx hb d_Md_isNotFor_13 rfl (lv_at hl 0 rfl) ?_
  refine lv_iload_n hx hb d_Md_isNotFor_14 rfl (lv_at hl 1 rfl) ?_
  refine ep_callP (W.runV (As := [.int (nI j)]) (rest := [.int 8, .ref a]) ⟨hx, hb, hml, hown, hg⟩ (m_Mo_kindOf l D cI cJ cZ cO a ((f_Mo_lacks kn j t).2) kn ed ct ti nm xa xb ma it vs se sm rs wk ors owk j (by omega) _ rfl) (ep_cwV 1 hg tw_789 tw_791 ts_11 tw_12 tk_Md_kindOf rfl rfl (by decide +kernel) ⟨(Nat.le_of_ble_eq_true rfl), (Nat.le_of_ble_eq_true rfl)⟩) ⟨ep_blind, va_recv (q0 := 0) (ci := 9) hK hP rfl rfl, ep_pre hKn (hP)⟩ rfl rfl hl.1 rfl (lv_room (Nat.le_of_ble_eq_true rfl)) d_Md_isNotFor_15 ⟨Nat.zero_le _, Nat.zero_le _⟩) ?_
  refine W.eq (g2 := F0 m 18 ls [.int (f_Mo_kindOf kn j), .int 8, .ref a]) rfl ?_
  refine lv_topi (fun z9 e_z9 => ?_)
  obtain rfl : z9 = 3 := by rw [e_z9]; exact (by rw [show f_Mo_kindOf kn j = kn j - 1 from rfl, hk]; decide)
  refine lv_ishr hx hb d_Md_isNotFor_18 ?_
  refine lv_topi (fun z9 e_z9 => ?_)
  obtain rfl : z9 = 1 := by rw [e_z9]; exact (by decide)
  refine lv_iconst (v := 1) hx hb d_Md_isNotFor_19 (by decide) ?_
  refine lv_iand hx hb d_Md_isNotFor_20 ?_
  refine lv_topi (fun z9 e_z9 => ?_)
  obtain rfl : z9 = 1 := by rw [e_z9]; exact (by decide)
  refine lv_iconst (v := 1) hx hb d_Md_isNotFor_21 (by decide) ?_
  refine lv_icmp_ne (tgt := 29) hx hb d_Md_isNotFor_22 (by decide) (fun hc => False.elim (by revert hc; decide)) (fun hc => ?_)
  refine lv_iconst (v := 0) hx hb d_Md_isNotFor_25 (by decide) ?_
  refine lv_goto (tgt := 30) hx hb d_Md_isNotFor_26 (by decide) ?_
  refine va_put (D := D) (ci := 9) (v := .int 0) (ty := .int) (C := R_Md) (T := F_Md) (N := 17) hx hb hg in_Md t_Md t_Md_ok n_Md hown hK hP hD hS 0 rfl rfl 0 (Nat.le_of_ble_eq_true rfl) (hg _ tw_706) (fun _ h9 => h9) rfl (by decide +kernel) rfl rfl (Nat.le_of_ble_eq_true rfl) d_Md_isNotFor_30 (fun H locs hP hD hS => ?_)
  have hP : va_P D cls (wMo cI cJ cZ a 0 kn ed ct ti nm xa xb ma it vs se sm rs wk ors owk) H := hP
  have hD : va_D (blk a 15) (wMo cI cJ cZ a 0 kn ed ct ti nm xa xb ma it vs se sm rs wk ors owk) := hD
  refine lv_aload_n hx hb d_Md_isNotFor_33 rfl (lv_at hl 0 rfl) ?_
  refine va_get (D := D) (ci := 9) (v := .int 0) (C := R_Md) (T := F_Md) (N := 17) hx hb hg in_Md hown hK hP 0 rfl rfl 0 (Nat.le_of_ble_eq_true rfl) (hg _ tw_706) (fun _ h9 => h9) rfl d_Md_isNotFor_34 ?_
  refine lv_if_ne (tgt := 51) hx hb d_Md_isNotFor_37 (by decide) (fun hc => False.elim (by revert hc; decide)) (fun hc => ?_)
  refine lv_aload_n hx hb d_Md_isNotFor_40 rfl (lv_at hl 0 rfl) ?_
  refine lv_iload_n hx hb d_Md_isNotFor_41 rfl (lv_at hl 1 rfl) ?_
  refine lv_aload_n hx hb d_Md_isNotFor_42 rfl (lv_at hl 0 rfl) ?_
  refine lv_iload_n hx hb d_Md_isNotFor_43 rfl (lv_at hl 1 rfl) ?_
  refine ep_callP (W.runV (As := [.int (nI j)]) (rest := [.int (nI j), .ref a]) ⟨hx, hb, hml, hown, hg⟩ (m_Mo_kindOf l D cI cJ cZ cO a 0 kn ed ct ti nm xa xb ma it vs se sm rs wk ors owk j (by omega) _ rfl) (ep_cwV 1 hg tw_789 tw_791 ts_11 tw_12 tk_Md_kindOf rfl rfl (by decide +kernel) ⟨(Nat.le_of_ble_eq_true rfl), (Nat.le_of_ble_eq_true rfl)⟩) ⟨ep_blind, va_recv (q0 := 0) (ci := 9) hK hP rfl rfl, ep_pre hKn (hP)⟩ rfl rfl hl.1 rfl (lv_room (Nat.le_of_ble_eq_true rfl)) d_Md_isNotFor_44 ⟨Nat.zero_le _, Nat.zero_le _⟩) ?_
  refine W.eq (g2 := F0 m 47 ls [.int (f_Mo_kindOf kn j), .int (nI j), .ref a]) rfl ?_
  refine lv_topi (fun z9 e_z9 => ?_)
  obtain rfl : z9 = 3 := by rw [e_z9]; exact (by rw [show f_Mo_kindOf kn j = kn j - 1 from rfl, hk]; decide)
  refine lv_iload_n hx hb d_Md_isNotFor_47 rfl (lv_at hl 2 rfl) ?_
  refine ep_callH (W.runV (As := [.int (nI j), .int 3, .int t]) (rest := []) ⟨hx, hb, hml, hown, hg⟩ (m_Mo_run_3 l D cI cJ cZ cO a 0 kn ed ct ti nm xa xb ma it vs se sm rs wk ors owk n j t (by omega) hct (by omega) _ rfl) (ep_cwV 3 hg tw_832 tw_834 ts_17 tw_12 tk_Md_run rfl rfl (by decide +kernel) ⟨(Nat.le_of_ble_eq_true rfl), (Nat.le_of_ble_eq_true rfl)⟩) ⟨ep_blind, va_recv (q0 := 0) (ci := 9) hK hP rfl rfl, ep_pre hKn (hP)⟩ rfl rfl hl.1 rfl (lv_room (Nat.le_of_ble_eq_true rfl)) d_Md_isNotFor_48 ⟨Nat.zero_le _, Nat.zero_le _⟩) hS (fun q h => h) (fun H locs hsz9 hk1 hP1 hS => ?_)
  refine W.eq (g2 := F0 m 51 ls []) rfl ?_
  have hP : va_P D cls (wMo cI cJ cZ a 0 kn ed ct ti nm xa xb (nI ((f_Mo_run_3 ti nm xa it vs se rs wk n j t).1)) ((f_Mo_run_3 ti nm xa it vs se rs wk n j t).2.1) ((f_Mo_run_3 ti nm xa it vs se rs wk n j t).2.2.1) ((f_Mo_run_3 ti nm xa it vs se rs wk n j t).2.2.2.1) ((f_Mo_run_3 ti nm xa it vs se rs wk n j t).2.2.2.2.1) ((f_Mo_run_3 ti nm xa it vs se rs wk n j t).2.2.2.2.2.1) ((f_Mo_run_3 ti nm xa it vs se rs wk n j t).2.2.2.2.2.2) ors owk) H := hP1
  have hD : va_D (blk a 15) (wMo cI cJ cZ a 0 kn ed ct ti nm xa xb (nI ((f_Mo_run_3 ti nm xa it vs se rs wk n j t).1)) ((f_Mo_run_3 ti nm xa it vs se rs wk n j t).2.1) ((f_Mo_run_3 ti nm xa it vs se rs wk n j t).2.2.1) ((f_Mo_run_3 ti nm xa it vs se rs wk n j t).2.2.2.1) ((f_Mo_run_3 ti nm xa it vs se rs wk n j t).2.2.2.2.1) ((f_Mo_run_3 ti nm xa it vs se rs wk n j t).2.2.2.2.2.1) ((f_Mo_run_3 ti nm xa it vs se rs wk n j t).2.2.2.2.2.2) ors owk) := (blk_D (wMo_in))
  refine lv_aload_n hx hb d_Md_isNotFor_51 rfl (lv_at hl 0 rfl) ?_
  refine va_get (D := D) (ci := 9) (v := .int 0) (C := R_Md) (T := F_Md) (N := 17) hx hb hg in_Md hown hK hP 0 rfl rfl 0 (Nat.le_of_ble_eq_true rfl) (hg _ tw_706) (fun _ h9 => h9) rfl d_Md_isNotFor_52 ?_
  refine lv_if_le (tgt := 62) hx hb d_Md_isNotFor_55 (by decide) (fun hc => ?_) (fun hc => False.elim (by revert hc; decide))
  refine lv_iconst (v := 0) hx hb d_Md_isNotFor_62 (by decide) ?_
  subst hR
  exact W.zret (v := 0) hx hb hr (by decide) (fun t9 ht hW => ⟨rfl, hS.F ht, by rw [ht]; exact hP⟩) hS.2.2 d_Md_isNotFor_63

def f_Mo_isNotFor_4_16 (ti : Nat → Int32) (xa : Nat → Int32) (it : Nat → Int32) (vs : Nat → Int32) (se : Nat → Int32) (rs : Nat → Int64) (wk : Nat → Int32) (n : Nat) (j : Nat) (t : Int32) : Int32 × (Nat → Int32) × (Nat → Int32) × (Nat → Int32) × Int64 × (Nat → Int64) × (Nat → Int32) := ((f_Mo_run_4 ti xa it vs se rs wk n j t).1, (f_Mo_run_4 ti xa it vs se rs wk n j t).2.1, (f_Mo_run_4 ti xa it vs se rs wk n j t).2.2.1, (f_Mo_run_4 ti xa it vs se rs wk n j t).2.2.2.1, (f_Mo_run_4 ti xa it vs se rs wk n j t).2.2.2.2.1, (f_Mo_run_4 ti xa it vs se rs wk n j t).2.2.2.2.2.1, (f_Mo_run_4 ti xa it vs se rs wk n j t).2.2.2.2.2.2)
set_option maxHeartbeats 4000000 in
set_option maxRecDepth 100000 in
theorem m_Mo_isNotFor_4_16 (l : Launch) (D : va_G) (cI cJ cZ cO : ClassId) (a : Nat) (code : Int32) (kn : Nat → Int32) (ed : Nat → Int32) (ct : Nat → Int32) (ti : Nat → Int32) (nm : Nat → Int32) (xa : Nat → Int32) (xb : Nat → Int32) (ma : Int32) (it : Nat → Int32) (vs : Nat → Int32) (se : Nat → Int32) (sm : Int64) (rs : Nat → Int64) (wk : Nat → Int32) (ors : Nat → Int64) (owk : Nat → Int32) (n : Nat) (j : Nat) (t : Int32) (hj : j < 4) (hlk : (f_Mo_lacks kn j t).1 = 0) (hk : kn j = 5) (hct : ct j = nI n) (hn : n ≤ 32) (R : Int32 × (Nat → Int32) × (Nat → Int32) × (Nat → Int32) × Int64 × (Nat → Int64) × (Nat → Int32)) (hR : f_Mo_isNotFor_4_16 ti xa it vs se rs wk n j t = R) : Met l y_Md_isNotFor (k_Md_isNotFor :: gt) rm_Md_isNotFor (Pc0 D cI cJ cZ cO [.ref a, .int (nI j), .int t, .int 16] (fun H => va_P D cls (wMo cI cJ cZ a code kn ed ct ti nm xa xb ma it vs se sm rs wk ors owk) H)) (Qd (blk a 15) (some (.int 0)) (fun H => va_P D cls (wMo cI cJ cZ a 0 kn ed ct ti nm xa xb R.1 R.2.1 R.2.2.1 R.2.2.2.1 R.2.2.2.2.1 R.2.2.2.2.2.1 R.2.2.2.2.2.2 ors owk) H)) 0 0 (blk a 15) := by
  refine Met.ofW (cc := c_Md_isNotFor) (maxL := 4) (ret := (Option.some FieldType.boolean)) (by decide) rfl ?_
  intro p e s m args below meth c s₁ B hml hv
  obtain ⟨rfl, hKn, hP⟩ := hv
  have hx := B.exec
  have hb := B.bytes
  have hr := B.returns
  have hts := atoms_spec (ws := k_Md_isNotFor :: gt) B.pre
  have hg : ∀ w ∈ gt, w.before _ s = true := fun w h => hts w (List.mem_cons_of_mem _ h)
  have hown : s.vm.findClass R_Md = some m.cls := findClass_of_methodNamed B.named
  have hlocks := B.notSynchronized
  have hK := hKn.1
  have hl := lv_entry ([.ref a, .int (nI j), .int t, .int 16]) (n := 4) (Nat.le_of_ble_eq_true rfl)
  rw [lg_entry_eq]
  generalize (lg_sl ([.ref a, .int (nI j), .int t, .int 16]) ++ List.replicate (4 - (lg_sl ([.ref a, .int (nI j), .int t, .int 16])).length) Slot.unset).toArray = ls at hl ⊢
  have hl : lv_has ls 4 [(0, .ref a), (1, .int (nI j)), (2, .int t), (3, .int 16)] := hl
  have hS : va_S (blk a 15) s.heap s.heap [] := va_S.rf
  have hD : va_D (blk a 15) (wMo cI cJ cZ a code kn ed ct ti nm xa xb ma it vs se sm rs wk ors owk) := (blk_D (wMo_in))
  have hR : (((f_Mo_run_4 ti xa it vs se rs wk n j t).1, (f_Mo_run_4 ti xa it vs se rs wk n j t).2.1, (f_Mo_run_4 ti xa it vs se rs wk n j t).2.2.1, (f_Mo_run_4 ti xa it vs se rs wk n j t).2.2.2.1, (f_Mo_run_4 ti xa it vs se rs wk n j t).2.2.2.2.1, (f_Mo_run_4 ti xa it vs se rs wk n j t).2.2.2.2.2.1, (f_Mo_run_4 ti xa it vs se rs wk n j t).2.2.2.2.2.2)) = R := hR
  refine lv_aload_n hx hb d_Md_isNotFor_0 rfl (lv_at hl 0 rfl) ?_
  refine lv_iload_n hx hb d_Md_isNotFor_1 rfl (lv_at hl 1 rfl) ?_
  refine lv_iload_n hx hb d_Md_isNotFor_2 rfl (lv_at hl 2 rfl) ?_
  refine ep_callH (W.runV (As := [.int (nI j), .int t]) (rest := []) ⟨hx, hb, hml, hown, hg⟩ (m_Mo_lacks l D cI cJ cZ cO a code kn ed ct ti nm xa xb ma it vs se sm rs wk ors owk j t (by omega) _ rfl) (ep_cwV 2 hg tw_773 tw_775 ts_9 tw_12 tk_Md_lacks rfl rfl (by decide +kernel) ⟨(Nat.le_of_ble_eq_true rfl), (Nat.le_of_ble_eq_true rfl)⟩) ⟨ep_blind, va_recv (q0 := 0) (ci := 9) hK hP rfl rfl, ep_pre hKn (hP)⟩ rfl rfl hl.1 rfl (lv_room (Nat.le_of_ble_eq_true rfl)) d_Md_isNotFor_3 ⟨Nat.zero_le _, Nat.zero_le _⟩) hS (fun q h => h) (fun H locs hsz9 hk1 hP1 hS => ?_)
  refine W.eq (g2 := F0 m 6 ls [.int ((f_Mo_lacks kn j t).1)]) rfl ?_
  have hP : va_P D cls (wMo cI cJ cZ a ((f_Mo_lacks kn j t).2) kn ed ct ti nm xa xb ma it vs se sm rs wk ors owk) H := hP1
  have hD : va_D (blk a 15) (wMo cI cJ cZ a ((f_Mo_lacks kn j t).2) kn ed ct ti nm xa xb ma it vs se sm rs wk ors owk) := (blk_D (wMo_in))
  refine lv_if_eq (tgt := 11) hx hb d_Md_isNotFor_6 (by decide) (fun hc => ?_) (fun hc => absurd hlk hc)
  refine lv_aload_n hx hb d_Md_isNotFor_11 rfl (lv_at hl 0 rfl) ?_
  refine lv_iload_n hx hb d_Md_isNotFor_12 rfl (lv_at hl 3 rfl) ?_
  refine lv_aload_n hx hb d_Md_isNotFor_13 rfl (lv_at hl 0 rfl) ?_
  refine lv_iload_n hx hb d_Md_isNotFor_14 rfl (lv_at hl 1 rfl) ?_
  refine ep_callP (W.runV (As := [.int (nI j)]) (rest := [.int 16, .ref a]) ⟨hx, hb, hml, hown, hg⟩ (m_Mo_kindOf l D cI cJ cZ cO a ((f_Mo_lacks kn j t).2) kn ed ct ti nm xa xb ma it vs se sm rs wk ors owk j (by omega) _ rfl) (ep_cwV 1 hg tw_789 tw_791 ts_11 tw_12 tk_Md_kindOf rfl rfl (by decide +kernel) ⟨(Nat.le_of_ble_eq_true rfl), (Nat.le_of_ble_eq_true rfl)⟩) ⟨ep_blind, va_recv (q0 := 0) (ci := 9) hK hP rfl rfl, ep_pre hKn (hP)⟩ rfl rfl hl.1 rfl (lv_room (Nat.le_of_ble_eq_true rfl)) d_Md_isNotFor_15 ⟨Nat.zero_le _, Nat.zero_le _⟩) ?_
  refine W.eq (g2 := F0 m 18 ls [.int (f_Mo_kindOf kn j), .int 16, .ref a]) rfl ?_
  refine lv_topi (fun z9 e_z9 => ?_)
  obtain rfl : z9 = 4 := by rw [e_z9]; exact (by rw [show f_Mo_kindOf kn j = kn j - 1 from rfl, hk]; decide)
  refine lv_ishr hx hb d_Md_isNotFor_18 ?_
  refine lv_topi (fun z9 e_z9 => ?_)
  obtain rfl : z9 = 1 := by rw [e_z9]; exact (by decide)
  refine lv_iconst (v := 1) hx hb d_Md_isNotFor_19 (by decide) ?_
  refine lv_iand hx hb d_Md_isNotFor_20 ?_
  refine lv_topi (fun z9 e_z9 => ?_)
  obtain rfl : z9 = 1 := by rw [e_z9]; exact (by decide)
  refine lv_iconst (v := 1) hx hb d_Md_isNotFor_21 (by decide) ?_
  refine lv_icmp_ne (tgt := 29) hx hb d_Md_isNotFor_22 (by decide) (fun hc => False.elim (by revert hc; decide)) (fun hc => ?_)
  refine lv_iconst (v := 0) hx hb d_Md_isNotFor_25 (by decide) ?_
  refine lv_goto (tgt := 30) hx hb d_Md_isNotFor_26 (by decide) ?_
  refine va_put (D := D) (ci := 9) (v := .int 0) (ty := .int) (C := R_Md) (T := F_Md) (N := 17) hx hb hg in_Md t_Md t_Md_ok n_Md hown hK hP hD hS 0 rfl rfl 0 (Nat.le_of_ble_eq_true rfl) (hg _ tw_706) (fun _ h9 => h9) rfl (by decide +kernel) rfl rfl (Nat.le_of_ble_eq_true rfl) d_Md_isNotFor_30 (fun H locs hP hD hS => ?_)
  have hP : va_P D cls (wMo cI cJ cZ a 0 kn ed ct ti nm xa xb ma it vs se sm rs wk ors owk) H := hP
  have hD : va_D (blk a 15) (wMo cI cJ cZ a 0 kn ed ct ti nm xa xb ma it vs se sm rs wk ors owk) := hD
  refine lv_aload_n hx hb d_Md_isNotFor_33 rfl (lv_at hl 0 rfl) ?_
  refine va_get (D := D) (ci := 9) (v := .int 0) (C := R_Md) (T := F_Md) (N := 17) hx hb hg in_Md hown hK hP 0 rfl rfl 0 (Nat.le_of_ble_eq_true rfl) (hg _ tw_706) (fun _ h9 => h9) rfl d_Md_isNotFor_34 ?_
  refine lv_if_ne (tgt := 51) hx hb d_Md_isNotFor_37 (by decide) (fun hc => False.elim (by revert hc; decide)) (fun hc => ?_)
  refine lv_aload_n hx hb d_Md_isNotFor_40 rfl (lv_at hl 0 rfl) ?_
  refine lv_iload_n hx hb d_Md_isNotFor_41 rfl (lv_at hl 1 rfl) ?_
  refine lv_aload_n hx hb d_Md_isNotFor_42 rfl (lv_at hl 0 rfl) ?_
  refine lv_iload_n hx hb d_Md_isNotFor_43 rfl (lv_at hl 1 rfl) ?_
  refine ep_callP (W.runV (As := [.int (nI j)]) (rest := [.int (nI j), .ref a]) ⟨hx, hb, hml, hown, hg⟩ (m_Mo_kindOf l D cI cJ cZ cO a 0 kn ed ct ti nm xa xb ma it vs se sm rs wk ors owk j (by omega) _ rfl) (ep_cwV 1 hg tw_789 tw_791 ts_11 tw_12 tk_Md_kindOf rfl rfl (by decide +kernel) ⟨(Nat.le_of_ble_eq_true rfl), (Nat.le_of_ble_eq_true rfl)⟩) ⟨ep_blind, va_recv (q0 := 0) (ci := 9) hK hP rfl rfl, ep_pre hKn (hP)⟩ rfl rfl hl.1 rfl (lv_room (Nat.le_of_ble_eq_true rfl)) d_Md_isNotFor_44 ⟨Nat.zero_le _, Nat.zero_le _⟩) ?_
  refine W.eq (g2 := F0 m 47 ls [.int (f_Mo_kindOf kn j), .int (nI j), .ref a]) rfl ?_
  refine lv_topi (fun z9 e_z9 => ?_)
  obtain rfl : z9 = 4 := by rw [e_z9]; exact (by rw [show f_Mo_kindOf kn j = kn j - 1 from rfl, hk]; decide)
  refine lv_iload_n hx hb d_Md_isNotFor_47 rfl (lv_at hl 2 rfl) ?_
  refine ep_callH (W.runV (As := [.int (nI j), .int 4, .int t]) (rest := []) ⟨hx, hb, hml, hown, hg⟩ (m_Mo_run_4 l D cI cJ cZ cO a 0 kn ed ct ti nm xa xb ma it vs se sm rs wk ors owk n j t (by omega) hct (by omega) _ rfl) (ep_cwV 3 hg tw_832 tw_834 ts_17 tw_12 tk_Md_run rfl rfl (by decide +kernel) ⟨(Nat.le_of_ble_eq_true rfl), (Nat.le_of_ble_eq_true rfl)⟩) ⟨ep_blind, va_recv (q0 := 0) (ci := 9) hK hP rfl rfl, ep_pre hKn (hP)⟩ rfl rfl hl.1 rfl (lv_room (Nat.le_of_ble_eq_true rfl)) d_Md_isNotFor_48 ⟨Nat.zero_le _, Nat.zero_le _⟩) hS (fun q h => h) (fun H locs hsz9 hk1 hP1 hS => ?_)
  refine W.eq (g2 := F0 m 51 ls []) rfl ?_
  have hP : va_P D cls (wMo cI cJ cZ a 0 kn ed ct ti nm xa xb ((f_Mo_run_4 ti xa it vs se rs wk n j t).1) ((f_Mo_run_4 ti xa it vs se rs wk n j t).2.1) ((f_Mo_run_4 ti xa it vs se rs wk n j t).2.2.1) ((f_Mo_run_4 ti xa it vs se rs wk n j t).2.2.2.1) ((f_Mo_run_4 ti xa it vs se rs wk n j t).2.2.2.2.1) ((f_Mo_run_4 ti xa it vs se rs wk n j t).2.2.2.2.2.1) ((f_Mo_run_4 ti xa it vs se rs wk n j t).2.2.2.2.2.2) ors owk) H := hP1
  have hD : va_D (blk a 15) (wMo cI cJ cZ a 0 kn ed ct ti nm xa xb ((f_Mo_run_4 ti xa it vs se rs wk n j t).1) ((f_Mo_run_4 ti xa it vs se rs wk n j t).2.1) ((f_Mo_run_4 ti xa it vs se rs wk n j t).2.2.1) ((f_Mo_run_4 ti xa it vs se rs wk n j t).2.2.2.1) ((f_Mo_run_4 ti xa it vs se rs wk n j t).2.2.2.2.1) ((f_Mo_run_4 ti xa it vs se rs wk n j t).2.2.2.2.2.1) ((f_Mo_run_4 ti xa it vs se rs wk n j t).2.2.2.2.2.2) ors owk) := (blk_D (wMo_in))
  refine lv_aload_n hx hb d_Md_isNotFor_51 rfl (lv_at hl 0 rfl) ?_
  refine va_get (D := D) (ci := 9) (v := .int 0) (C := R_Md) (T := F_Md) (N := 17) hx hb hg in_Md hown hK hP 0 rfl rfl 0 (Nat.le_of_ble_eq_true rfl) (hg _ tw_706) (fun _ h9 => h9) rfl d_Md_isNotFor_52 ?_
  refine lv_if_le (tgt := 62) hx hb d_Md_isNotFor_55 (by decide) (fun hc => ?_) (fun hc => False.elim (by revert hc; decide))
  refine lv_iconst (v := 0) hx hb d_Md_isNotFor_62 (by decide) ?_
  subst hR
  exact W.zret (v := 0) hx hb hr (by decide) (fun t9 ht hW => ⟨rfl, hS.F ht, by rw [ht]; exact hP⟩) hS.2.2 d_Md_isNotFor_63

def f_Mo_isNotFor_5_32 (ti : Nat → Int32) (xa : Nat → Int32) (xb : Nat → Int32) (it : Nat → Int32) (vs : Nat → Int32) (se : Nat → Int32) (rs : Nat → Int64) (wk : Nat → Int32) (n : Nat) (j : Nat) (t : Int32) : Int32 × (Nat → Int32) × (Nat → Int32) × (Nat → Int32) × Int64 × (Nat → Int64) × (Nat → Int32) := ((f_Mo_run_5 ti xa xb it vs se rs wk n j t).1, (f_Mo_run_5 ti xa xb it vs se rs wk n j t).2.1, (f_Mo_run_5 ti xa xb it vs se rs wk n j t).2.2.1, (f_Mo_run_5 ti xa xb it vs se rs wk n j t).2.2.2.1, (f_Mo_run_5 ti xa xb it vs se rs wk n j t).2.2.2.2.1, (f_Mo_run_5 ti xa xb it vs se rs wk n j t).2.2.2.2.2.1, (f_Mo_run_5 ti xa xb it vs se rs wk n j t).2.2.2.2.2.2)
set_option maxHeartbeats 4000000 in
set_option maxRecDepth 100000 in
theorem m_Mo_isNotFor_5_32 (l : Launch) (D : va_G) (cI cJ cZ cO : ClassId) (a : Nat) (code : Int32) (kn : Nat → Int32) (ed : Nat → Int32) (ct : Nat → Int32) (ti : Nat → Int32) (nm : Nat → Int32) (xa : Nat → Int32) (xb : Nat → Int32) (ma : Int32) (it : Nat → Int32) (vs : Nat → Int32) (se : Nat → Int32) (sm : Int64) (rs : Nat → Int64) (wk : Nat → Int32) (ors : Nat → Int64) (owk : Nat → Int32) (n : Nat) (j : Nat) (t : Int32) (hj : j < 4) (hlk : (f_Mo_lacks kn j t).1 = 0) (hk : kn j = 6) (hct : ct j = nI n) (hn : n ≤ 32) (hop : ∀ i, i < n → (xa (32 * j + i) = nI (xa (32 * j + i)).toNatClampNeg ∧ (xa (32 * j + i)).toNatClampNeg < 16) ∧ (xb (32 * j + i) = nI (xb (32 * j + i)).toNatClampNeg ∧ (xb (32 * j + i)).toNatClampNeg < 16)) (R : Int32 × (Nat → Int32) × (Nat → Int32) × (Nat → Int32) × Int64 × (Nat → Int64) × (Nat → Int32)) (hR : f_Mo_isNotFor_5_32 ti xa xb it vs se rs wk n j t = R) : Met l y_Md_isNotFor (k_Md_isNotFor :: gt) rm_Md_isNotFor (Pc0 D cI cJ cZ cO [.ref a, .int (nI j), .int t, .int 32] (fun H => va_P D cls (wMo cI cJ cZ a code kn ed ct ti nm xa xb ma it vs se sm rs wk ors owk) H)) (Qd (blk a 15) (some (.int 0)) (fun H => va_P D cls (wMo cI cJ cZ a 0 kn ed ct ti nm xa xb R.1 R.2.1 R.2.2.1 R.2.2.2.1 R.2.2.2.2.1 R.2.2.2.2.2.1 R.2.2.2.2.2.2 ors owk) H)) 0 0 (blk a 15) := by
  refine Met.ofW (cc := c_Md_isNotFor) (maxL := 4) (ret := (Option.some FieldType.boolean)) (by decide) rfl ?_
  intro p e s m args below meth c s₁ B hml hv
  obtain ⟨rfl, hKn, hP⟩ := hv
  have hx := B.exec
  have hb := B.bytes
  have hr := B.returns
  have hts := atoms_spec (ws := k_Md_isNotFor :: gt) B.pre
  have hg : ∀ w ∈ gt, w.before _ s = true := fun w h => hts w (List.mem_cons_of_mem _ h)
  have hown : s.vm.findClass R_Md = some m.cls := findClass_of_methodNamed B.named
  have hlocks := B.notSynchronized
  have hK := hKn.1
  have hl := lv_entry ([.ref a, .int (nI j), .int t, .int 32]) (n := 4) (Nat.le_of_ble_eq_true rfl)
  rw [lg_entry_eq]
  generalize (lg_sl ([.ref a, .int (nI j), .int t, .int 32]) ++ List.replicate (4 - (lg_sl ([.ref a, .int (nI j), .int t, .int 32])).length) Slot.unset).toArray = ls at hl ⊢
  have hl : lv_has ls 4 [(0, .ref a), (1, .int (nI j)), (2, .int t), (3, .int 32)] := hl
  have hS : va_S (blk a 15) s.heap s.heap [] := va_S.rf
  have hD : va_D (blk a 15) (wMo cI cJ cZ a code kn ed ct ti nm xa xb ma it vs se sm rs wk ors owk) := (blk_D (wMo_in))
  have hR : (((f_Mo_run_5 ti xa xb it vs se rs wk n j t).1, (f_Mo_run_5 ti xa xb it vs se rs wk n j t).2.1, (f_Mo_run_5 ti xa xb it vs se rs wk n j t).2.2.1, (f_Mo_run_5 ti xa xb it vs se rs wk n j t).2.2.2.1, (f_Mo_run_5 ti xa xb it vs se rs wk n j t).2.2.2.2.1, (f_Mo_run_5 ti xa xb it vs se rs wk n j t).2.2.2.2.2.1, (f_Mo_run_5 ti xa xb it vs se rs wk n j t).2.2.2.2.2.2)) = R := hR
  refine lv_aload_n hx hb d_Md_isNotFor_0 rfl (lv_at hl 0 rfl) ?_
  refine lv_iload_n hx hb d_Md_isNotFor_1 rfl (lv_at hl 1 rfl) ?_
  refine lv_iload_n hx hb d_Md_isNotFor_2 rfl (lv_at hl 2 rfl) ?_
  refine ep_callH (W.runV (As := [.int (nI j), .int t]) (rest := []) ⟨hx, hb, hml, hown, hg⟩ (m_Mo_lacks l D cI cJ cZ cO a code kn ed ct ti nm xa xb ma it vs se sm rs wk ors owk j t (by omega) _ rfl) (ep_cwV 2 hg tw_773 tw_775 ts_9 tw_12 tk_Md_lacks rfl rfl (by decide +kernel) ⟨(Nat.le_of_ble_eq_true rfl), (Nat.le_of_ble_eq_true rfl)⟩) ⟨ep_blind, va_recv (q0 := 0) (ci := 9) hK hP rfl rfl, ep_pre hKn (hP)⟩ rfl rfl hl.1 rfl (lv_room (Nat.le_of_ble_eq_true rfl)) d_Md_isNotFor_3 ⟨Nat.zero_le _, Nat.zero_le _⟩) hS (fun q h => h) (fun H locs hsz9 hk1 hP1 hS => ?_)
  refine W.eq (g2 := F0 m 6 ls [.int ((f_Mo_lacks kn j t).1)]) rfl ?_
  have hP : va_P D cls (wMo cI cJ cZ a ((f_Mo_lacks kn j t).2) kn ed ct ti nm xa xb ma it vs se sm rs wk ors owk) H := hP1
  have hD : va_D (blk a 15) (wMo cI cJ cZ a ((f_Mo_lacks kn j t).2) kn ed ct ti nm xa xb ma it vs se sm rs wk ors owk) := (blk_D (wMo_in))
  refine lv_if_eq (tgt := 11) hx hb d_Md_isNotFor_6 (by decide) (fun hc => ?_) (fun hc => absurd hlk hc)
  refine lv_aload_n hx hb d_Md_isNotFor_11 rfl (lv_at hl 0 rfl) ?_
  refine lv_iload_n hx hb d_Md_isNotFor_12 rfl (lv_at hl 3 rfl) ?_
  refine lv_aload_n hx hb d_Md_isNotFor_13 rfl (lv_at hl 0 rfl) ?_
  refine lv_iload_n hx hb d_Md_isNotFor_14 rfl (lv_at hl 1 rfl) ?_
  refine ep_callP (W.runV (As := [.int (nI j)]) (rest := [.int 32, .ref a]) ⟨hx, hb, hml, hown, hg⟩ (m_Mo_kindOf l D cI cJ cZ cO a ((f_Mo_lacks kn j t).2) kn ed ct ti nm xa xb ma it vs se sm rs wk ors owk j (by omega) _ rfl) (ep_cwV 1 hg tw_789 tw_791 ts_11 tw_12 tk_Md_kindOf rfl rfl (by decide +kernel) ⟨(Nat.le_of_ble_eq_true rfl), (Nat.le_of_ble_eq_true rfl)⟩) ⟨ep_blind, va_recv (q0 := 0) (ci := 9) hK hP rfl rfl, ep_pre hKn (hP)⟩ rfl rfl hl.1 rfl (lv_room (Nat.le_of_ble_eq_true rfl)) d_Md_isNotFor_15 ⟨Nat.zero_le _, Nat.zero_le _⟩) ?_
  refine W.eq (g2 := F0 m 18 ls [.int (f_Mo_kindOf kn j), .int 32, .ref a]) rfl ?_
  refine lv_topi (fun z9 e_z9 => ?_)
  obtain rfl : z9 = 5 := by rw [e_z9]; exact (by rw [show f_Mo_kindOf kn j = kn j - 1 from rfl, hk]; decide)
  refine lv_ishr hx hb d_Md_isNotFor_18 ?_
  refine lv_topi (fun z9 e_z9 => ?_)
  obtain rfl : z9 = 1 := by rw [e_z9]; exact (by decide)
  refine lv_iconst (v := 1) hx hb d_Md_isNotFor_19 (by decide) ?_
  refine lv_iand hx hb d_Md_isNotFor_20 ?_
  refine lv_topi (fun z9 e_z9 => ?_)
  obtain rfl : z9 = 1 := by rw [e_z9]; exact (by decide)
  refine lv_iconst (v := 1) hx hb d_Md_isNotFor_21 (by decide) ?_
  refine lv_icmp_ne (tgt := 29) hx hb d_Md_isNotFor_22 (by decide) (fun hc => False.elim (by revert hc; decide)) (fun hc => ?_)
  refine lv_iconst (v := 0) hx hb d_Md_isNotFor_25 (by decide) ?_
  refine lv_goto (tgt := 30) hx hb d_Md_isNotFor_26 (by decide) ?_
  refine va_put (D := D) (ci := 9) (v := .int 0) (ty := .int) (C := R_Md) (T := F_Md) (N := 17) hx hb hg in_Md t_Md t_Md_ok n_Md hown hK hP hD hS 0 rfl rfl 0 (Nat.le_of_ble_eq_true rfl) (hg _ tw_706) (fun _ h9 => h9) rfl (by decide +kernel) rfl rfl (Nat.le_of_ble_eq_true rfl) d_Md_isNotFor_30 (fun H locs hP hD hS => ?_)
  have hP : va_P D cls (wMo cI cJ cZ a 0 kn ed ct ti nm xa xb ma it vs se sm rs wk ors owk) H := hP
  have hD : va_D (blk a 15) (wMo cI cJ cZ a 0 kn ed ct ti nm xa xb ma it vs se sm rs wk ors owk) := hD
  refine lv_aload_n hx hb d_Md_isNotFor_33 rfl (lv_at hl 0 rfl) ?_
  refine va_get (D := D) (ci := 9) (v := .int 0) (C := R_Md) (T := F_Md) (N := 17) hx hb hg in_Md hown hK hP 0 rfl rfl 0 (Nat.le_of_ble_eq_true rfl) (hg _ tw_706) (fun _ h9 => h9) rfl d_Md_isNotFor_34 ?_
  refine lv_if_ne (tgt := 51) hx hb d_Md_isNotFor_37 (by decide) (fun hc => False.elim (by revert hc; decide)) (fun hc => ?_)
  refine lv_aload_n hx hb d_Md_isNotFor_40 rfl (lv_at hl 0 rfl) ?_
  refine lv_iload_n hx hb d_Md_isNotFor_41 rfl (lv_at hl 1 rfl) ?_
  refine lv_aload_n hx hb d_Md_isNotFor_42 rfl (lv_at hl 0 rfl) ?_
  refine lv_iload_n hx hb d_Md_isNotFor_43 rfl (lv_at hl 1 rfl) ?_
  refine ep_callP (W.runV (As := [.int (nI j)]) (rest := [.int (nI j), .ref a]) ⟨hx, hb, hml, hown, hg⟩ (m_Mo_kindOf l D cI cJ cZ cO a 0 kn ed ct ti nm xa xb ma it vs se sm rs wk ors owk j (by omega) _ rfl) (ep_cwV 1 hg tw_789 tw_791 ts_11 tw_12 tk_Md_kindOf rfl rfl (by decide +kernel) ⟨(Nat.le_of_ble_eq_true rfl), (Nat.le_of_ble_eq_true rfl)⟩) ⟨ep_blind, va_recv (q0 := 0) (ci := 9) hK hP rfl rfl, ep_pre hKn (hP)⟩ rfl rfl hl.1 rfl (lv_room (Nat.le_of_ble_eq_true rfl)) d_Md_isNotFor_44 ⟨Nat.zero_le _, Nat.zero_le _⟩) ?_
  refine W.eq (g2 := F0 m 47 ls [.int (f_Mo_kindOf kn j), .int (nI j), .ref a]) rfl ?_
  refine lv_topi (fun z9 e_z9 => ?_)
  obtain rfl : z9 = 5 := by rw [e_z9]; exact (by rw [show f_Mo_kindOf kn j = kn j - 1 from rfl, hk]; decide)
  refine lv_iload_n hx hb d_Md_isNotFor_47 rfl (lv_at hl 2 rfl) ?_
  refine ep_callH (W.runV (As := [.int (nI j), .int 5, .int t]) (rest := []) ⟨hx, hb, hml, hown, hg⟩ (m_Mo_run_5 l D cI cJ cZ cO a 0 kn ed ct ti nm xa xb ma it vs se sm rs wk ors owk n j t (by omega) hct (by omega) hop _ rfl) (ep_cwV 3 hg tw_832 tw_834 ts_17 tw_12 tk_Md_run rfl rfl (by decide +kernel) ⟨(Nat.le_of_ble_eq_true rfl), (Nat.le_of_ble_eq_true rfl)⟩) ⟨ep_blind, va_recv (q0 := 0) (ci := 9) hK hP rfl rfl, ep_pre hKn (hP)⟩ rfl rfl hl.1 rfl (lv_room (Nat.le_of_ble_eq_true rfl)) d_Md_isNotFor_48 ⟨Nat.zero_le _, Nat.zero_le _⟩) hS (fun q h => h) (fun H locs hsz9 hk1 hP1 hS => ?_)
  refine W.eq (g2 := F0 m 51 ls []) rfl ?_
  have hP : va_P D cls (wMo cI cJ cZ a 0 kn ed ct ti nm xa xb ((f_Mo_run_5 ti xa xb it vs se rs wk n j t).1) ((f_Mo_run_5 ti xa xb it vs se rs wk n j t).2.1) ((f_Mo_run_5 ti xa xb it vs se rs wk n j t).2.2.1) ((f_Mo_run_5 ti xa xb it vs se rs wk n j t).2.2.2.1) ((f_Mo_run_5 ti xa xb it vs se rs wk n j t).2.2.2.2.1) ((f_Mo_run_5 ti xa xb it vs se rs wk n j t).2.2.2.2.2.1) ((f_Mo_run_5 ti xa xb it vs se rs wk n j t).2.2.2.2.2.2) ors owk) H := hP1
  have hD : va_D (blk a 15) (wMo cI cJ cZ a 0 kn ed ct ti nm xa xb ((f_Mo_run_5 ti xa xb it vs se rs wk n j t).1) ((f_Mo_run_5 ti xa xb it vs se rs wk n j t).2.1) ((f_Mo_run_5 ti xa xb it vs se rs wk n j t).2.2.1) ((f_Mo_run_5 ti xa xb it vs se rs wk n j t).2.2.2.1) ((f_Mo_run_5 ti xa xb it vs se rs wk n j t).2.2.2.2.1) ((f_Mo_run_5 ti xa xb it vs se rs wk n j t).2.2.2.2.2.1) ((f_Mo_run_5 ti xa xb it vs se rs wk n j t).2.2.2.2.2.2) ors owk) := (blk_D (wMo_in))
  refine lv_aload_n hx hb d_Md_isNotFor_51 rfl (lv_at hl 0 rfl) ?_
  refine va_get (D := D) (ci := 9) (v := .int 0) (C := R_Md) (T := F_Md) (N := 17) hx hb hg in_Md hown hK hP 0 rfl rfl 0 (Nat.le_of_ble_eq_true rfl) (hg _ tw_706) (fun _ h9 => h9) rfl d_Md_isNotFor_52 ?_
  refine lv_if_le (tgt := 62) hx hb d_Md_isNotFor_55 (by decide) (fun hc => ?_) (fun hc => False.elim (by revert hc; decide))
  refine lv_iconst (v := 0) hx hb d_Md_isNotFor_62 (by decide) ?_
  subst hR
  exact W.zret (v := 0) hx hb hr (by decide) (fun t9 ht hW => ⟨rfl, hS.F ht, by rw [ht]; exact hP⟩) hS.2.2 d_Md_isNotFor_63

def f_Mo_isNotFor_0_63 (ti : Nat → Int32) (nm : Nat → Int32) (xa : Nat → Int32) (it : Nat → Int32) (vs : Nat → Int32) (se : Nat → Int32) (rs : Nat → Int64) (wk : Nat → Int32) (n : Nat) (j : Nat) (t : Int32) : Nat × (Nat → Int32) × (Nat → Int32) × (Nat → Int32) × Int64 × (Nat → Int64) × (Nat → Int32) := ((f_Mo_run_0 ti nm xa it vs se rs wk n j t).1, (f_Mo_run_0 ti nm xa it vs se rs wk n j t).2.1, (f_Mo_run_0 ti nm xa it vs se rs wk n j t).2.2.1, (f_Mo_run_0 ti nm xa it vs se rs wk n j t).2.2.2.1, (f_Mo_run_0 ti nm xa it vs se rs wk n j t).2.2.2.2.1, (f_Mo_run_0 ti nm xa it vs se rs wk n j t).2.2.2.2.2.1, (f_Mo_run_0 ti nm xa it vs se rs wk n j t).2.2.2.2.2.2)
set_option maxHeartbeats 4000000 in
set_option maxRecDepth 100000 in
theorem m_Mo_isNotFor_0_63 (l : Launch) (D : va_G) (cI cJ cZ cO : ClassId) (a : Nat) (code : Int32) (kn : Nat → Int32) (ed : Nat → Int32) (ct : Nat → Int32) (ti : Nat → Int32) (nm : Nat → Int32) (xa : Nat → Int32) (xb : Nat → Int32) (ma : Int32) (it : Nat → Int32) (vs : Nat → Int32) (se : Nat → Int32) (sm : Int64) (rs : Nat → Int64) (wk : Nat → Int32) (ors : Nat → Int64) (owk : Nat → Int32) (n : Nat) (j : Nat) (t : Int32) (hj : j < 4) (hlk : (f_Mo_lacks kn j t).1 = 0) (hk : kn j = 1) (hct : ct j = nI n) (hn : n ≤ 32) (R : Nat × (Nat → Int32) × (Nat → Int32) × (Nat → Int32) × Int64 × (Nat → Int64) × (Nat → Int32)) (hR : f_Mo_isNotFor_0_63 ti nm xa it vs se rs wk n j t = R) : Met l y_Md_isNotFor (k_Md_isNotFor :: gt) rm_Md_isNotFor (Pc0 D cI cJ cZ cO [.ref a, .int (nI j), .int t, .int 63] (fun H => va_P D cls (wMo cI cJ cZ a code kn ed ct ti nm xa xb ma it vs se sm rs wk ors owk) H)) (Qd (blk a 15) (some (.int 0)) (fun H => va_P D cls (wMo cI cJ cZ a 0 kn ed ct ti nm xa xb (nI R.1) R.2.1 R.2.2.1 R.2.2.2.1 R.2.2.2.2.1 R.2.2.2.2.2.1 R.2.2.2.2.2.2 ors owk) H)) 0 0 (blk a 15) := by
  refine Met.ofW (cc := c_Md_isNotFor) (maxL := 4) (ret := (Option.some FieldType.boolean)) (by decide) rfl ?_
  intro p e s m args below meth c s₁ B hml hv
  obtain ⟨rfl, hKn, hP⟩ := hv
  have hx := B.exec
  have hb := B.bytes
  have hr := B.returns
  have hts := atoms_spec (ws := k_Md_isNotFor :: gt) B.pre
  have hg : ∀ w ∈ gt, w.before _ s = true := fun w h => hts w (List.mem_cons_of_mem _ h)
  have hown : s.vm.findClass R_Md = some m.cls := findClass_of_methodNamed B.named
  have hlocks := B.notSynchronized
  have hK := hKn.1
  have hl := lv_entry ([.ref a, .int (nI j), .int t, .int 63]) (n := 4) (Nat.le_of_ble_eq_true rfl)
  rw [lg_entry_eq]
  generalize (lg_sl ([.ref a, .int (nI j), .int t, .int 63]) ++ List.replicate (4 - (lg_sl ([.ref a, .int (nI j), .int t, .int 63])).length) Slot.unset).toArray = ls at hl ⊢
  have hl : lv_has ls 4 [(0, .ref a), (1, .int (nI j)), (2, .int t), (3, .int 63)] := hl
  have hS : va_S (blk a 15) s.heap s.heap [] := va_S.rf
  have hD : va_D (blk a 15) (wMo cI cJ cZ a code kn ed ct ti nm xa xb ma it vs se sm rs wk ors owk) := (blk_D (wMo_in))
  have hR : (((f_Mo_run_0 ti nm xa it vs se rs wk n j t).1, (f_Mo_run_0 ti nm xa it vs se rs wk n j t).2.1, (f_Mo_run_0 ti nm xa it vs se rs wk n j t).2.2.1, (f_Mo_run_0 ti nm xa it vs se rs wk n j t).2.2.2.1, (f_Mo_run_0 ti nm xa it vs se rs wk n j t).2.2.2.2.1, (f_Mo_run_0 ti nm xa it vs se rs wk n j t).2.2.2.2.2.1, (f_Mo_run_0 ti nm xa it vs se rs wk n j t).2.2.2.2.2.2)) = R := hR
  refine lv_aload_n hx hb d_Md_isNotFor_0 rfl (lv_at hl 0 rfl) ?_
  refine lv_iload_n hx hb d_Md_isNotFor_1 rfl (lv_at hl 1 rfl) ?_
  refine lv_iload_n hx hb d_Md_isNotFor_2 rfl (lv_at hl 2 rfl) ?_
  refine ep_callH (W.runV (As := [.int (nI j), .int t]) (rest := []) ⟨hx, hb, hml, hown, hg⟩ (m_Mo_lacks l D cI cJ cZ cO a code kn ed ct ti nm xa xb ma it vs se sm rs wk ors owk j t (by omega) _ rfl) (ep_cwV 2 hg tw_773 tw_775 ts_9 tw_12 tk_Md_lacks rfl rfl (by decide +kernel) ⟨(Nat.le_of_ble_eq_true rfl), (Nat.le_of_ble_eq_true rfl)⟩) ⟨ep_blind, va_recv (q0 := 0) (ci := 9) hK hP rfl rfl, ep_pre hKn (hP)⟩ rfl rfl hl.1 rfl (lv_room (Nat.le_of_ble_eq_true rfl)) d_Md_isNotFor_3 ⟨Nat.zero_le _, Nat.zero_le _⟩) hS (fun q h => h) (fun H locs hsz9 hk1 hP1 hS => ?_)
  refine W.eq (g2 := F0 m 6 ls [.int ((f_Mo_lacks kn j t).1)]) rfl ?_
  have hP : va_P D cls (wMo cI cJ cZ a ((f_Mo_lacks kn j t).2) kn ed ct ti nm xa xb ma it vs se sm rs wk ors owk) H := hP1
  have hD : va_D (blk a 15) (wMo cI cJ cZ a ((f_Mo_lacks kn j t).2) kn ed ct ti nm xa xb ma it vs se sm rs wk ors owk) := (blk_D (wMo_in))
  refine lv_if_eq (tgt := 11) hx hb d_Md_isNotFor_6 (by decide) (fun hc => ?_) (fun hc => absurd hlk hc)
  refine lv_aload_n hx hb d_Md_isNotFor_11 rfl (lv_at hl 0 rfl) ?_
  refine lv_iload_n hx hb d_Md_isNotFor_12 rfl (lv_at hl 3 rfl) ?_
  refine lv_aload_n hx hb d_Md_isNotFor_13 rfl (lv_at hl 0 rfl) ?_
  refine lv_iload_n hx hb d_Md_isNotFor_14 rfl (lv_at hl 1 rfl) ?_
  refine ep_callP (W.runV (As := [.int (nI j)]) (rest := [.int 63, .ref a]) ⟨hx, hb, hml, hown, hg⟩ (m_Mo_kindOf l D cI cJ cZ cO a ((f_Mo_lacks kn j t).2) kn ed ct ti nm xa xb ma it vs se sm rs wk ors owk j (by omega) _ rfl) (ep_cwV 1 hg tw_789 tw_791 ts_11 tw_12 tk_Md_kindOf rfl rfl (by decide +kernel) ⟨(Nat.le_of_ble_eq_true rfl), (Nat.le_of_ble_eq_true rfl)⟩) ⟨ep_blind, va_recv (q0 := 0) (ci := 9) hK hP rfl rfl, ep_pre hKn (hP)⟩ rfl rfl hl.1 rfl (lv_room (Nat.le_of_ble_eq_true rfl)) d_Md_isNotFor_15 ⟨Nat.zero_le _, Nat.zero_le _⟩) ?_
  refine W.eq (g2 := F0 m 18 ls [.int (f_Mo_kindOf kn j), .int 63, .ref a]) rfl ?_
  refine lv_topi (fun z9 e_z9 => ?_)
  obtain rfl : z9 = 0 := by rw [e_z9]; exact (by rw [show f_Mo_kindOf kn j = kn j - 1 from rfl, hk]; decide)
  refine lv_ishr hx hb d_Md_isNotFor_18 ?_
  refine lv_topi (fun z9 e_z9 => ?_)
  obtain rfl : z9 = 63 := by rw [e_z9]; exact (by decide)
  refine lv_iconst (v := 1) hx hb d_Md_isNotFor_19 (by decide) ?_
  refine lv_iand hx hb d_Md_isNotFor_20 ?_
  refine lv_topi (fun z9 e_z9 => ?_)
  obtain rfl : z9 = 1 := by rw [e_z9]; exact (by decide)
  refine lv_iconst (v := 1) hx hb d_Md_isNotFor_21 (by decide) ?_
  refine lv_icmp_ne (tgt := 29) hx hb d_Md_isNotFor_22 (by decide) (fun hc => False.elim (by revert hc; decide)) (fun hc => ?_)
  refine lv_iconst (v := 0) hx hb d_Md_isNotFor_25 (by decide) ?_
  refine lv_goto (tgt := 30) hx hb d_Md_isNotFor_26 (by decide) ?_
  refine va_put (D := D) (ci := 9) (v := .int 0) (ty := .int) (C := R_Md) (T := F_Md) (N := 17) hx hb hg in_Md t_Md t_Md_ok n_Md hown hK hP hD hS 0 rfl rfl 0 (Nat.le_of_ble_eq_true rfl) (hg _ tw_706) (fun _ h9 => h9) rfl (by decide +kernel) rfl rfl (Nat.le_of_ble_eq_true rfl) d_Md_isNotFor_30 (fun H locs hP hD hS => ?_)
  have hP : va_P D cls (wMo cI cJ cZ a 0 kn ed ct ti nm xa xb ma it vs se sm rs wk ors owk) H := hP
  have hD : va_D (blk a 15) (wMo cI cJ cZ a 0 kn ed ct ti nm xa xb ma it vs se sm rs wk ors owk) := hD
  refine lv_aload_n hx hb d_Md_isNotFor_33 rfl (lv_at hl 0 rfl) ?_
  refine va_get (D := D) (ci := 9) (v := .int 0) (C := R_Md) (T := F_Md) (N := 17) hx hb hg in_Md hown hK hP 0 rfl rfl 0 (Nat.le_of_ble_eq_true rfl) (hg _ tw_706) (fun _ h9 => h9) rfl d_Md_isNotFor_34 ?_
  refine lv_if_ne (tgt := 51) hx hb d_Md_isNotFor_37 (by decide) (fun hc => False.elim (by revert hc; decide)) (fun hc => ?_)
  refine lv_aload_n hx hb d_Md_isNotFor_40 rfl (lv_at hl 0 rfl) ?_
  refine lv_iload_n hx hb d_Md_isNotFor_41 rfl (lv_at hl 1 rfl) ?_
  refine lv_aload_n hx hb d_Md_isNotFor_42 rfl (lv_at hl 0 rfl) ?_
  refine lv_iload_n hx hb d_Md_isNotFor_43 rfl (lv_at hl 1 rfl) ?_
  refine ep_callP (W.runV (As := [.int (nI j)]) (rest := [.int (nI j), .ref a]) ⟨hx, hb, hml, hown, hg⟩ (m_Mo_kindOf l D cI cJ cZ cO a 0 kn ed ct ti nm xa xb ma it vs se sm rs wk ors owk j (by omega) _ rfl) (ep_cwV 1 hg tw_789 tw_791 ts_11 tw_12 tk_Md_kindOf rfl rfl (by decide +kernel) ⟨(Nat.le_of_ble_eq_true rfl), (Nat.le_of_ble_eq_true rfl)⟩) ⟨ep_blind, va_recv (q0 := 0) (ci := 9) hK hP rfl rfl, ep_pre hKn (hP)⟩ rfl rfl hl.1 rfl (lv_room (Nat.le_of_ble_eq_true rfl)) d_Md_isNotFor_44 ⟨Nat.zero_le _, Nat.zero_le _⟩) ?_
  refine W.eq (g2 := F0 m 47 ls [.int (f_Mo_kindOf kn j), .int (nI j), .ref a]) rfl ?_
  refine lv_topi (fun z9 e_z9 => ?_)
  obtain rfl : z9 = 0 := by rw [e_z9]; exact (by rw [show f_Mo_kindOf kn j = kn j - 1 from rfl, hk]; decide)
  refine lv_iload_n hx hb d_Md_isNotFor_47 rfl (lv_at hl 2 rfl) ?_
  refine ep_callH (W.runV (As := [.int (nI j), .int 0, .int t]) (rest := []) ⟨hx, hb, hml, hown, hg⟩ (m_Mo_run_0 l D cI cJ cZ cO a 0 kn ed ct ti nm xa xb ma it vs se sm rs wk ors owk n j t (by omega) hct (by omega) _ rfl) (ep_cwV 3 hg tw_832 tw_834 ts_17 tw_12 tk_Md_run rfl rfl (by decide +kernel) ⟨(Nat.le_of_ble_eq_true rfl), (Nat.le_of_ble_eq_true rfl)⟩) ⟨ep_blind, va_recv (q0 := 0) (ci := 9) hK hP rfl rfl, ep_pre hKn (hP)⟩ rfl rfl hl.1 rfl (lv_room (Nat.le_of_ble_eq_true rfl)) d_Md_isNotFor_48 ⟨Nat.zero_le _, Nat.zero_le _⟩) hS (fun q h => h) (fun H locs hsz9 hk1 hP1 hS => ?_)
  refine W.eq (g2 := F0 m 51 ls []) rfl ?_
  have hP : va_P D cls (wMo cI cJ cZ a 0 kn ed ct ti nm xa xb (nI ((f_Mo_run_0 ti nm xa it vs se rs wk n j t).1)) ((f_Mo_run_0 ti nm xa it vs se rs wk n j t).2.1) ((f_Mo_run_0 ti nm xa it vs se rs wk n j t).2.2.1) ((f_Mo_run_0 ti nm xa it vs se rs wk n j t).2.2.2.1) ((f_Mo_run_0 ti nm xa it vs se rs wk n j t).2.2.2.2.1) ((f_Mo_run_0 ti nm xa it vs se rs wk n j t).2.2.2.2.2.1) ((f_Mo_run_0 ti nm xa it vs se rs wk n j t).2.2.2.2.2.2) ors owk) H := hP1
  have hD : va_D (blk a 15) (wMo cI cJ cZ a 0 kn ed ct ti nm xa xb (nI ((f_Mo_run_0 ti nm xa it vs se rs wk n j t).1)) ((f_Mo_run_0 ti nm xa it vs se rs wk n j t).2.1) ((f_Mo_run_0 ti nm xa it vs se rs wk n j t).2.2.1) ((f_Mo_run_0 ti nm xa it vs se rs wk n j t).2.2.2.1) ((f_Mo_run_0 ti nm xa it vs se rs wk n j t).2.2.2.2.1) ((f_Mo_run_0 ti nm xa it vs se rs wk n j t).2.2.2.2.2.1) ((f_Mo_run_0 ti nm xa it vs se rs wk n j t).2.2.2.2.2.2) ors owk) := (blk_D (wMo_in))
  refine lv_aload_n hx hb d_Md_isNotFor_51 rfl (lv_at hl 0 rfl) ?_
  refine va_get (D := D) (ci := 9) (v := .int 0) (C := R_Md) (T := F_Md) (N := 17) hx hb hg in_Md hown hK hP 0 rfl rfl 0 (Nat.le_of_ble_eq_true rfl) (hg _ tw_706) (fun _ h9 => h9) rfl d_Md_isNotFor_52 ?_
  refine lv_if_le (tgt := 62) hx hb d_Md_isNotFor_55 (by decide) (fun hc => ?_) (fun hc => False.elim (by revert hc; decide))
  refine lv_iconst (v := 0) hx hb d_Md_isNotFor_62 (by decide) ?_
  subst hR
  exact W.zret (v := 0) hx hb hr (by decide) (fun t9 ht hW => ⟨rfl, hS.F ht, by rw [ht]; exact hP⟩) hS.2.2 d_Md_isNotFor_63

def f_Mo_isNotFor_1_63 (ti : Nat → Int32) (nm : Nat → Int32) (xa : Nat → Int32) (it : Nat → Int32) (vs : Nat → Int32) (se : Nat → Int32) (rs : Nat → Int64) (wk : Nat → Int32) (n : Nat) (j : Nat) (t : Int32) : Nat × (Nat → Int32) × (Nat → Int32) × (Nat → Int32) × Int64 × (Nat → Int64) × (Nat → Int32) := ((f_Mo_run_1 ti nm xa it vs se rs wk n j t).1, (f_Mo_run_1 ti nm xa it vs se rs wk n j t).2.1, (f_Mo_run_1 ti nm xa it vs se rs wk n j t).2.2.1, (f_Mo_run_1 ti nm xa it vs se rs wk n j t).2.2.2.1, (f_Mo_run_1 ti nm xa it vs se rs wk n j t).2.2.2.2.1, (f_Mo_run_1 ti nm xa it vs se rs wk n j t).2.2.2.2.2.1, (f_Mo_run_1 ti nm xa it vs se rs wk n j t).2.2.2.2.2.2)
set_option maxHeartbeats 4000000 in
set_option maxRecDepth 100000 in
theorem m_Mo_isNotFor_1_63 (l : Launch) (D : va_G) (cI cJ cZ cO : ClassId) (a : Nat) (code : Int32) (kn : Nat → Int32) (ed : Nat → Int32) (ct : Nat → Int32) (ti : Nat → Int32) (nm : Nat → Int32) (xa : Nat → Int32) (xb : Nat → Int32) (ma : Int32) (it : Nat → Int32) (vs : Nat → Int32) (se : Nat → Int32) (sm : Int64) (rs : Nat → Int64) (wk : Nat → Int32) (ors : Nat → Int64) (owk : Nat → Int32) (n : Nat) (j : Nat) (t : Int32) (hj : j < 4) (hlk : (f_Mo_lacks kn j t).1 = 0) (hk : kn j = 2) (hct : ct j = nI n) (hn : n ≤ 32) (R : Nat × (Nat → Int32) × (Nat → Int32) × (Nat → Int32) × Int64 × (Nat → Int64) × (Nat → Int32)) (hR : f_Mo_isNotFor_1_63 ti nm xa it vs se rs wk n j t = R) : Met l y_Md_isNotFor (k_Md_isNotFor :: gt) rm_Md_isNotFor (Pc0 D cI cJ cZ cO [.ref a, .int (nI j), .int t, .int 63] (fun H => va_P D cls (wMo cI cJ cZ a code kn ed ct ti nm xa xb ma it vs se sm rs wk ors owk) H)) (Qd (blk a 15) (some (.int 0)) (fun H => va_P D cls (wMo cI cJ cZ a 0 kn ed ct ti nm xa xb (nI R.1) R.2.1 R.2.2.1 R.2.2.2.1 R.2.2.2.2.1 R.2.2.2.2.2.1 R.2.2.2.2.2.2 ors owk) H)) 0 0 (blk a 15) := by
  refine Met.ofW (cc := c_Md_isNotFor) (maxL := 4) (ret := (Option.some FieldType.boolean)) (by decide) rfl ?_
  intro p e s m args below meth c s₁ B hml hv
  obtain ⟨rfl, hKn, hP⟩ := hv
  have hx := B.exec
  have hb := B.bytes
  have hr := B.returns
  have hts := atoms_spec (ws := k_Md_isNotFor :: gt) B.pre
  have hg : ∀ w ∈ gt, w.before _ s = true := fun w h => hts w (List.mem_cons_of_mem _ h)
  have hown : s.vm.findClass R_Md = some m.cls := findClass_of_methodNamed B.named
  have hlocks := B.notSynchronized
  have hK := hKn.1
  have hl := lv_entry ([.ref a, .int (nI j), .int t, .int 63]) (n := 4) (Nat.le_of_ble_eq_true rfl)
  rw [lg_entry_eq]
  generalize (lg_sl ([.ref a, .int (nI j), .int t, .int 63]) ++ List.replicate (4 - (lg_sl ([.ref a, .int (nI j), .int t, .int 63])).length) Slot.unset).toArray = ls at hl ⊢
  have hl : lv_has ls 4 [(0, .ref a), (1, .int (nI j)), (2, .int t), (3, .int 63)] := hl
  have hS : va_S (blk a 15) s.heap s.heap [] := va_S.rf
  have hD : va_D (blk a 15) (wMo cI cJ cZ a code kn ed ct ti nm xa xb ma it vs se sm rs wk ors owk) := (blk_D (wMo_in))
  have hR : (((f_Mo_run_1 ti nm xa it vs se rs wk n j t).1, (f_Mo_run_1 ti nm xa it vs se rs wk n j t).2.1, (f_Mo_run_1 ti nm xa it vs se rs wk n j t).2.2.1, (f_Mo_run_1 ti nm xa it vs se rs wk n j t).2.2.2.1, (f_Mo_run_1 ti nm xa it vs se rs wk n j t).2.2.2.2.1, (f_Mo_run_1 ti nm xa it vs se rs wk n j t).2.2.2.2.2.1, (f_Mo_run_1 ti nm xa it vs se rs wk n j t).2.2.2.2.2.2)) = R := hR
  refine lv_aload_n hx hb d_Md_isNotFor_0 rfl (lv_at hl 0 rfl) ?_
  refine lv_iload_n hx hb d_Md_isNotFor_1 rfl (lv_at hl 1 rfl) ?_
  refine lv_iload_n hx hb d_Md_isNotFor_2 rfl (lv_at hl 2 rfl) ?_
  refine ep_callH (W.runV (As := [.int (nI j), .int t]) (rest := []) ⟨hx, hb, hml, hown, hg⟩ (m_Mo_lacks l D cI cJ cZ cO a code kn ed ct ti nm xa xb ma it vs se sm rs wk ors owk j t (by omega) _ rfl) (ep_cwV 2 hg tw_773 tw_775 ts_9 tw_12 tk_Md_lacks rfl rfl (by decide +kernel) ⟨(Nat.le_of_ble_eq_true rfl), (Nat.le_of_ble_eq_true rfl)⟩) ⟨ep_blind, va_recv (q0 := 0) (ci := 9) hK hP rfl rfl, ep_pre hKn (hP)⟩ rfl rfl hl.1 rfl (lv_room (Nat.le_of_ble_eq_true rfl)) d_Md_isNotFor_3 ⟨Nat.zero_le _, Nat.zero_le _⟩) hS (fun q h => h) (fun H locs hsz9 hk1 hP1 hS => ?_)
  refine W.eq (g2 := F0 m 6 ls [.int ((f_Mo_lacks kn j t).1)]) rfl ?_
  have hP : va_P D cls (wMo cI cJ cZ a ((f_Mo_lacks kn j t).2) kn ed ct ti nm xa xb ma it vs se sm rs wk ors owk) H := hP1
  have hD : va_D (blk a 15) (wMo cI cJ cZ a ((f_Mo_lacks kn j t).2) kn ed ct ti nm xa xb ma it vs se sm rs wk ors owk) := (blk_D (wMo_in))
  refine lv_if_eq (tgt := 11) hx hb d_Md_isNotFor_6 (by decide) (fun hc => ?_) (fun hc => absurd hlk hc)
  refine lv_aload_n hx hb d_Md_isNotFor_11 rfl (lv_at hl 0 rfl) ?_
  refine lv_iload_n hx hb d_Md_isNotFor_12 rfl (lv_at hl 3 rfl) ?_
  refine lv_aload_n hx hb d_Md_isNotFor_13 rfl (lv_at hl 0 rfl) ?_
  refine lv_iload_n hx hb d_Md_isNotFor_14 rfl (lv_at hl 1 rfl) ?_
  refine ep_callP (W.runV (As := [.int (nI j)]) (rest := [.int 63, .ref a]) ⟨hx, hb, hml, hown, hg⟩ (m_Mo_kindOf l D cI cJ cZ cO a ((f_Mo_lacks kn j t).2) kn ed ct ti nm xa xb ma it vs se sm rs wk ors owk j (by omega) _ rfl) (ep_cwV 1 hg tw_789 tw_791 ts_11 tw_12 tk_Md_kindOf rfl rfl (by decide +kernel) ⟨(Nat.le_of_ble_eq_true rfl), (Nat.le_of_ble_eq_true rfl)⟩) ⟨ep_blind, va_recv (q0 := 0) (ci := 9) hK hP rfl rfl, ep_pre hKn (hP)⟩ rfl rfl hl.1 rfl (lv_room (Nat.le_of_ble_eq_true rfl)) d_Md_isNotFor_15 ⟨Nat.zero_le _, Nat.zero_le _⟩) ?_
  refine W.eq (g2 := F0 m 18 ls [.int (f_Mo_kindOf kn j), .int 63, .ref a]) rfl ?_
  refine lv_topi (fun z9 e_z9 => ?_)
  obtain rfl : z9 = 1 := by rw [e_z9]; exact (by rw [show f_Mo_kindOf kn j = kn j - 1 from rfl, hk]; decide)
  refine lv_ishr hx hb d_Md_isNotFor_18 ?_
  refine lv_topi (fun z9 e_z9 => ?_)
  obtain rfl : z9 = 31 := by rw [e_z9]; exact (by decide)
  refine lv_iconst (v := 1) hx hb d_Md_isNotFor_19 (by decide) ?_
  refine lv_iand hx hb d_Md_isNotFor_20 ?_
  refine lv_topi (fun z9 e_z9 => ?_)
  obtain rfl : z9 = 1 := by rw [e_z9]; exact (by decide)
  refine lv_iconst (v := 1) hx hb d_Md_isNotFor_21 (by decide) ?_
  refine lv_icmp_ne (tgt := 29) hx hb d_Md_isNotFor_22 (by decide) (fun hc => False.elim (by revert hc; decide)) (fun hc => ?_)
  refine lv_iconst (v := 0) hx hb d_Md_isNotFor_25 (by decide) ?_
  refine lv_goto (tgt := 30) hx hb d_Md_isNotFor_26 (by decide) ?_
  refine va_put (D := D) (ci := 9) (v := .int 0) (ty := .int) (C := R_Md) (T := F_Md) (N := 17) hx hb hg in_Md t_Md t_Md_ok n_Md hown hK hP hD hS 0 rfl rfl 0 (Nat.le_of_ble_eq_true rfl) (hg _ tw_706) (fun _ h9 => h9) rfl (by decide +kernel) rfl rfl (Nat.le_of_ble_eq_true rfl) d_Md_isNotFor_30 (fun H locs hP hD hS => ?_)
  have hP : va_P D cls (wMo cI cJ cZ a 0 kn ed ct ti nm xa xb ma it vs se sm rs wk ors owk) H := hP
  have hD : va_D (blk a 15) (wMo cI cJ cZ a 0 kn ed ct ti nm xa xb ma it vs se sm rs wk ors owk) := hD
  refine lv_aload_n hx hb d_Md_isNotFor_33 rfl (lv_at hl 0 rfl) ?_
  refine va_get (D := D) (ci := 9) (v := .int 0) (C := R_Md) (T := F_Md) (N := 17) hx hb hg in_Md hown hK hP 0 rfl rfl 0 (Nat.le_of_ble_eq_true rfl) (hg _ tw_706) (fun _ h9 => h9) rfl d_Md_isNotFor_34 ?_
  refine lv_if_ne (tgt := 51) hx hb d_Md_isNotFor_37 (by decide) (fun hc => False.elim (by revert hc; decide)) (fun hc => ?_)
  refine lv_aload_n hx hb d_Md_isNotFor_40 rfl (lv_at hl 0 rfl) ?_
  refine lv_iload_n hx hb d_Md_isNotFor_41 rfl (lv_at hl 1 rfl) ?_
  refine lv_aload_n hx hb d_Md_isNotFor_42 rfl (lv_at hl 0 rfl) ?_
  refine lv_iload_n hx hb d_Md_isNotFor_43 rfl (lv_at hl 1 rfl) ?_
  refine ep_callP (W.runV (As := [.int (nI j)]) (rest := [.int (nI j), .ref a]) ⟨hx, hb, hml, hown, hg⟩ (m_Mo_kindOf l D cI cJ cZ cO a 0 kn ed ct ti nm xa xb ma it vs se sm rs wk ors owk j (by omega) _ rfl) (ep_cwV 1 hg tw_789 tw_791 ts_11 tw_12 tk_Md_kindOf rfl rfl (by decide +kernel) ⟨(Nat.le_of_ble_eq_true rfl), (Nat.le_of_ble_eq_true rfl)⟩) ⟨ep_blind, va_recv (q0 := 0) (ci := 9) hK hP rfl rfl, ep_pre hKn (hP)⟩ rfl rfl hl.1 rfl (lv_room (Nat.le_of_ble_eq_true rfl)) d_Md_isNotFor_44 ⟨Nat.zero_le _, Nat.zero_le _⟩) ?_
  refine W.eq (g2 := F0 m 47 ls [.int (f_Mo_kindOf kn j), .int (nI j), .ref a]) rfl ?_
  refine lv_topi (fun z9 e_z9 => ?_)
  obtain rfl : z9 = 1 := by rw [e_z9]; exact (by rw [show f_Mo_kindOf kn j = kn j - 1 from rfl, hk]; decide)
  refine lv_iload_n hx hb d_Md_isNotFor_47 rfl (lv_at hl 2 rfl) ?_
  refine ep_callH (W.runV (As := [.int (nI j), .int 1, .int t]) (rest := []) ⟨hx, hb, hml, hown, hg⟩ (m_Mo_run_1 l D cI cJ cZ cO a 0 kn ed ct ti nm xa xb ma it vs se sm rs wk ors owk n j t (by omega) hct (by omega) _ rfl) (ep_cwV 3 hg tw_832 tw_834 ts_17 tw_12 tk_Md_run rfl rfl (by decide +kernel) ⟨(Nat.le_of_ble_eq_true rfl), (Nat.le_of_ble_eq_true rfl)⟩) ⟨ep_blind, va_recv (q0 := 0) (ci := 9) hK hP rfl rfl, ep_pre hKn (hP)⟩ rfl rfl hl.1 rfl (lv_room (Nat.le_of_ble_eq_true rfl)) d_Md_isNotFor_48 ⟨Nat.zero_le _, Nat.zero_le _⟩) hS (fun q h => h) (fun H locs hsz9 hk1 hP1 hS => ?_)
  refine W.eq (g2 := F0 m 51 ls []) rfl ?_
  have hP : va_P D cls (wMo cI cJ cZ a 0 kn ed ct ti nm xa xb (nI ((f_Mo_run_1 ti nm xa it vs se rs wk n j t).1)) ((f_Mo_run_1 ti nm xa it vs se rs wk n j t).2.1) ((f_Mo_run_1 ti nm xa it vs se rs wk n j t).2.2.1) ((f_Mo_run_1 ti nm xa it vs se rs wk n j t).2.2.2.1) ((f_Mo_run_1 ti nm xa it vs se rs wk n j t).2.2.2.2.1) ((f_Mo_run_1 ti nm xa it vs se rs wk n j t).2.2.2.2.2.1) ((f_Mo_run_1 ti nm xa it vs se rs wk n j t).2.2.2.2.2.2) ors owk) H := hP1
  have hD : va_D (blk a 15) (wMo cI cJ cZ a 0 kn ed ct ti nm xa xb (nI ((f_Mo_run_1 ti nm xa it vs se rs wk n j t).1)) ((f_Mo_run_1 ti nm xa it vs se rs wk n j t).2.1) ((f_Mo_run_1 ti nm xa it vs se rs wk n j t).2.2.1) ((f_Mo_run_1 ti nm xa it vs se rs wk n j t).2.2.2.1) ((f_Mo_run_1 ti nm xa it vs se rs wk n j t).2.2.2.2.1) ((f_Mo_run_1 ti nm xa it vs se rs wk n j t).2.2.2.2.2.1) ((f_Mo_run_1 ti nm xa it vs se rs wk n j t).2.2.2.2.2.2) ors owk) := (blk_D (wMo_in))
  refine lv_aload_n hx hb d_Md_isNotFor_51 rfl (lv_at hl 0 rfl) ?_
  refine va_get (D := D) (ci := 9) (v := .int 0) (C := R_Md) (T := F_Md) (N := 17) hx hb hg in_Md hown hK hP 0 rfl rfl 0 (Nat.le_of_ble_eq_true rfl) (hg _ tw_706) (fun _ h9 => h9) rfl d_Md_isNotFor_52 ?_
  refine lv_if_le (tgt := 62) hx hb d_Md_isNotFor_55 (by decide) (fun hc => ?_) (fun hc => False.elim (by revert hc; decide))
  refine lv_iconst (v := 0) hx hb d_Md_isNotFor_62 (by decide) ?_
  subst hR
  exact W.zret (v := 0) hx hb hr (by decide) (fun t9 ht hW => ⟨rfl, hS.F ht, by rw [ht]; exact hP⟩) hS.2.2 d_Md_isNotFor_63

def f_Mo_isNotFor_2_63 (ti : Nat → Int32) (nm : Nat → Int32) (xa : Nat → Int32) (xb : Nat → Int32) (it : Nat → Int32) (vs : Nat → Int32) (se : Nat → Int32) (rs : Nat → Int64) (wk : Nat → Int32) (n : Nat) (j : Nat) (t : Int32) : Nat × (Nat → Int32) × (Nat → Int32) × (Nat → Int32) × Int64 × (Nat → Int64) × (Nat → Int32) := ((f_Mo_run_2 ti nm xa xb it vs se rs wk n j t).1, (f_Mo_run_2 ti nm xa xb it vs se rs wk n j t).2.1, (f_Mo_run_2 ti nm xa xb it vs se rs wk n j t).2.2.1, (f_Mo_run_2 ti nm xa xb it vs se rs wk n j t).2.2.2.1, (f_Mo_run_2 ti nm xa xb it vs se rs wk n j t).2.2.2.2.1, (f_Mo_run_2 ti nm xa xb it vs se rs wk n j t).2.2.2.2.2.1, (f_Mo_run_2 ti nm xa xb it vs se rs wk n j t).2.2.2.2.2.2)
set_option maxHeartbeats 4000000 in
set_option maxRecDepth 100000 in
theorem m_Mo_isNotFor_2_63 (l : Launch) (D : va_G) (cI cJ cZ cO : ClassId) (a : Nat) (code : Int32) (kn : Nat → Int32) (ed : Nat → Int32) (ct : Nat → Int32) (ti : Nat → Int32) (nm : Nat → Int32) (xa : Nat → Int32) (xb : Nat → Int32) (ma : Int32) (it : Nat → Int32) (vs : Nat → Int32) (se : Nat → Int32) (sm : Int64) (rs : Nat → Int64) (wk : Nat → Int32) (ors : Nat → Int64) (owk : Nat → Int32) (n : Nat) (j : Nat) (t : Int32) (hj : j < 4) (hlk : (f_Mo_lacks kn j t).1 = 0) (hk : kn j = 3) (hct : ct j = nI n) (hn : n ≤ 32) (R : Nat × (Nat → Int32) × (Nat → Int32) × (Nat → Int32) × Int64 × (Nat → Int64) × (Nat → Int32)) (hR : f_Mo_isNotFor_2_63 ti nm xa xb it vs se rs wk n j t = R) : Met l y_Md_isNotFor (k_Md_isNotFor :: gt) rm_Md_isNotFor (Pc0 D cI cJ cZ cO [.ref a, .int (nI j), .int t, .int 63] (fun H => va_P D cls (wMo cI cJ cZ a code kn ed ct ti nm xa xb ma it vs se sm rs wk ors owk) H)) (Qd (blk a 15) (some (.int 0)) (fun H => va_P D cls (wMo cI cJ cZ a 0 kn ed ct ti nm xa xb (nI R.1) R.2.1 R.2.2.1 R.2.2.2.1 R.2.2.2.2.1 R.2.2.2.2.2.1 R.2.2.2.2.2.2 ors owk) H)) 0 0 (blk a 15) := by
  refine Met.ofW (cc := c_Md_isNotFor) (maxL := 4) (ret := (Option.some FieldType.boolean)) (by decide) rfl ?_
  intro p e s m args below meth c s₁ B hml hv
  obtain ⟨rfl, hKn, hP⟩ := hv
  have hx := B.exec
  have hb := B.bytes
  have hr := B.returns
  have hts := atoms_spec (ws := k_Md_isNotFor :: gt) B.pre
  have hg : ∀ w ∈ gt, w.before _ s = true := fun w h => hts w (List.mem_cons_of_mem _ h)
  have hown : s.vm.findClass R_Md = some m.cls := findClass_of_methodNamed B.named
  have hlocks := B.notSynchronized
  have hK := hKn.1
  have hl := lv_entry ([.ref a, .int (nI j), .int t, .int 63]) (n := 4) (Nat.le_of_ble_eq_true rfl)
  rw [lg_entry_eq]
  generalize (lg_sl ([.ref a, .int (nI j), .int t, .int 63]) ++ List.replicate (4 - (lg_sl ([.ref a, .int (nI j), .int t, .int 63])).length) Slot.unset).toArray = ls at hl ⊢
  have hl : lv_has ls 4 [(0, .ref a), (1, .int (nI j)), (2, .int t), (3, .int 63)] := hl
  have hS : va_S (blk a 15) s.heap s.heap [] := va_S.rf
  have hD : va_D (blk a 15) (wMo cI cJ cZ a code kn ed ct ti nm xa xb ma it vs se sm rs wk ors owk) := (blk_D (wMo_in))
  have hR : (((f_Mo_run_2 ti nm xa xb it vs se rs wk n j t).1, (f_Mo_run_2 ti nm xa xb it vs se rs wk n j t).2.1, (f_Mo_run_2 ti nm xa xb it vs se rs wk n j t).2.2.1, (f_Mo_run_2 ti nm xa xb it vs se rs wk n j t).2.2.2.1, (f_Mo_run_2 ti nm xa xb it vs se rs wk n j t).2.2.2.2.1, (f_Mo_run_2 ti nm xa xb it vs se rs wk n j t).2.2.2.2.2.1, (f_Mo_run_2 ti nm xa xb it vs se rs wk n j t).2.2.2.2.2.2)) = R := hR
  refine lv_aload_n hx hb d_Md_isNotFor_0 rfl (lv_at hl 0 rfl) ?_
  refine lv_iload_n hx hb d_Md_isNotFor_1 rfl (lv_at hl 1 rfl) ?_
  refine lv_iload_n hx hb d_Md_isNotFor_2 rfl (lv_at hl 2 rfl) ?_
  refine ep_callH (W.runV (As := [.int (nI j), .int t]) (rest := []) ⟨hx, hb, hml, hown, hg⟩ (m_Mo_lacks l D cI cJ cZ cO a code kn ed ct ti nm xa xb ma it vs se sm rs wk ors owk j t (by omega) _ rfl) (ep_cwV 2 hg tw_773 tw_775 ts_9 tw_12 tk_Md_lacks rfl rfl (by decide +kernel) ⟨(Nat.le_of_ble_eq_true rfl), (Nat.le_of_ble_eq_true rfl)⟩) ⟨ep_blind, va_recv (q0 := 0) (ci := 9) hK hP rfl rfl, ep_pre hKn (hP)⟩ rfl rfl hl.1 rfl (lv_room (Nat.le_of_ble_eq_true rfl)) d_Md_isNotFor_3 ⟨Nat.zero_le _, Nat.zero_le _⟩) hS (fun q h => h) (fun H locs hsz9 hk1 hP1 hS => ?_)
  refine W.eq (g2 := F0 m 6 ls [.int ((f_Mo_lacks kn j t).1)]) rfl ?_
  have hP : va_P D cls (wMo cI cJ cZ a ((f_Mo_lacks kn j t).2) kn ed ct ti nm xa xb ma it vs se sm rs wk ors owk) H := hP1
  have hD : va_D (blk a 15) (wMo cI cJ cZ a ((f_Mo_lacks kn j t).2) kn ed ct ti nm xa xb ma it vs se sm rs wk ors owk) := (blk_D (wMo_in))
  refine lv_if_eq (tgt := 11) hx hb d_Md_isNotFor_6 (by decide) (fun hc => ?_) (fun hc => absurd hlk hc)
  refine lv_aload_n hx hb d_Md_isNotFor_11 rfl (lv_at hl 0 rfl) ?_
  refine lv_iload_n hx hb d_Md_isNotFor_12 rfl (lv_at hl 3 rfl) ?_
  refine lv_aload_n hx hb d_Md_isNotFor_13 rfl (lv_at hl 0 rfl) ?_
  refine lv_iload_n hx hb d_Md_isNotFor_14 rfl (lv_at hl 1 rfl) ?_
  refine ep_callP (W.runV (As := [.int (nI j)]) (rest := [.int 63, .ref a]) ⟨hx, hb, hml, hown, hg⟩ (m_Mo_kindOf l D cI cJ cZ cO a ((f_Mo_lacks kn j t).2) kn ed ct ti nm xa xb ma it vs se sm rs wk ors owk j (by omega) _ rfl) (ep_cwV 1 hg tw_789 tw_791 ts_11 tw_12 tk_Md_kindOf rfl rfl (by decide +kernel) ⟨(Nat.le_of_ble_eq_true rfl), (Nat.le_of_ble_eq_true rfl)⟩) ⟨ep_blind, va_recv (q0 := 0) (ci := 9) hK hP rfl rfl, ep_pre hKn (hP)⟩ rfl rfl hl.1 rfl (lv_room (Nat.le_of_ble_eq_true rfl)) d_Md_isNotFor_15 ⟨Nat.zero_le _, Nat.zero_le _⟩) ?_
  refine W.eq (g2 := F0 m 18 ls [.int (f_Mo_kindOf kn j), .int 63, .ref a]) rfl ?_
  refine lv_topi (fun z9 e_z9 => ?_)
  obtain rfl : z9 = 2 := by rw [e_z9]; exact (by rw [show f_Mo_kindOf kn j = kn j - 1 from rfl, hk]; decide)
  refine lv_ishr hx hb d_Md_isNotFor_18 ?_
  refine lv_topi (fun z9 e_z9 => ?_)
  obtain rfl : z9 = 15 := by rw [e_z9]; exact (by decide)
  refine lv_iconst (v := 1) hx hb d_Md_isNotFor_19 (by decide) ?_
  refine lv_iand hx hb d_Md_isNotFor_20 ?_
  refine lv_topi (fun z9 e_z9 => ?_)
  obtain rfl : z9 = 1 := by rw [e_z9]; exact (by decide)
  refine lv_iconst (v := 1) hx hb d_Md_isNotFor_21 (by decide) ?_
  refine lv_icmp_ne (tgt := 29) hx hb d_Md_isNotFor_22 (by decide) (fun hc => False.elim (by revert hc; decide)) (fun hc => ?_)
  refine lv_iconst (v := 0) hx hb d_Md_isNotFor_25 (by decide) ?_
  refine lv_goto (tgt := 30) hx hb d_Md_isNotFor_26 (by decide) ?_
  refine va_put (D := D) (ci := 9) (v := .int 0) (ty := .int) (C := R_Md) (T := F_Md) (N := 17) hx hb hg in_Md t_Md t_Md_ok n_Md hown hK hP hD hS 0 rfl rfl 0 (Nat.le_of_ble_eq_true rfl) (hg _ tw_706) (fun _ h9 => h9) rfl (by decide +kernel) rfl rfl (Nat.le_of_ble_eq_true rfl) d_Md_isNotFor_30 (fun H locs hP hD hS => ?_)
  have hP : va_P D cls (wMo cI cJ cZ a 0 kn ed ct ti nm xa xb ma it vs se sm rs wk ors owk) H := hP
  have hD : va_D (blk a 15) (wMo cI cJ cZ a 0 kn ed ct ti nm xa xb ma it vs se sm rs wk ors owk) := hD
  refine lv_aload_n hx hb d_Md_isNotFor_33 rfl (lv_at hl 0 rfl) ?_
  refine va_get (D := D) (ci := 9) (v := .int 0) (C := R_Md) (T := F_Md) (N := 17) hx hb hg in_Md hown hK hP 0 rfl rfl 0 (Nat.le_of_ble_eq_true rfl) (hg _ tw_706) (fun _ h9 => h9) rfl d_Md_isNotFor_34 ?_
  refine lv_if_ne (tgt := 51) hx hb d_Md_isNotFor_37 (by decide) (fun hc => False.elim (by revert hc; decide)) (fun hc => ?_)
  refine lv_aload_n hx hb d_Md_isNotFor_40 rfl (lv_at hl 0 rfl) ?_
  refine lv_iload_n hx hb d_Md_isNotFor_41 rfl (lv_at hl 1 rfl) ?_
  refine lv_aload_n hx hb d_Md_isNotFor_42 rfl (lv_at hl 0 rfl) ?_
  refine lv_iload_n hx hb d_Md_isNotFor_43 rfl (lv_at hl 1 rfl) ?_
  refine ep_callP (W.runV (As := [.int (nI j)]) (rest := [.int (nI j), .ref a]) ⟨hx, hb, hml, hown, hg⟩ (m_Mo_kindOf l D cI cJ cZ cO a 0 kn ed ct ti nm xa xb ma it vs se sm rs wk ors owk j (by omega) _ rfl) (ep_cwV 1 hg tw_789 tw_791 ts_11 tw_12 tk_Md_kindOf rfl rfl (by decide +kernel) ⟨(Nat.le_of_ble_eq_true rfl), (Nat.le_of_ble_eq_true rfl)⟩) ⟨ep_blind, va_recv (q0 := 0) (ci := 9) hK hP rfl rfl, ep_pre hKn (hP)⟩ rfl rfl hl.1 rfl (lv_room (Nat.le_of_ble_eq_true rfl)) d_Md_isNotFor_44 ⟨Nat.zero_le _, Nat.zero_le _⟩) ?_
  refine W.eq (g2 := F0 m 47 ls [.int (f_Mo_kindOf kn j), .int (nI j), .ref a]) rfl ?_
  refine lv_topi (fun z9 e_z9 => ?_)
  obtain rfl : z9 = 2 := by rw [e_z9]; exact (by rw [show f_Mo_kindOf kn j = kn j - 1 from rfl, hk]; decide)
  refine lv_iload_n hx hb d_Md_isNotFor_47 rfl (lv_at hl 2 rfl) ?_
  refine ep_callH (W.runV (As := [.int (nI j), .int 2, .int t]) (rest := []) ⟨hx, hb, hml, hown, hg⟩ (m_Mo_run_2 l D cI cJ cZ cO a 0 kn ed ct ti nm xa xb ma it vs se sm rs wk ors owk n j t (by omega) hct (by omega) _ rfl) (ep_cwV 3 hg tw_832 tw_834 ts_17 tw_12 tk_Md_run rfl rfl (by decide +kernel) ⟨(Nat.le_of_ble_eq_true rfl), (Nat.le_of_ble_eq_true rfl)⟩) ⟨ep_blind, va_recv (q0 := 0) (ci := 9) hK hP rfl rfl, ep_pre hKn (hP)⟩ rfl rfl hl.1 rfl (lv_room (Nat.le_of_ble_eq_true rfl)) d_Md_isNotFor_48 ⟨Nat.zero_le _, Nat.zero_le _⟩) hS (fun q h => h) (fun H locs hsz9 hk1 hP1 hS => ?_)
  refine W.eq (g2 := F0 m 51 ls []) rfl ?_
  have hP : va_P D cls (wMo cI cJ cZ a 0 kn ed ct ti nm xa xb (nI ((f_Mo_run_2 ti nm xa xb it vs se rs wk n j t).1)) ((f_Mo_run_2 ti nm xa xb it vs se rs wk n j t).2.1) ((f_Mo_run_2 ti nm xa xb it vs se rs wk n j t).2.2.1) ((f_Mo_run_2 ti nm xa xb it vs se rs wk n j t).2.2.2.1) ((f_Mo_run_2 ti nm xa xb it vs se rs wk n j t).2.2.2.2.1) ((f_Mo_run_2 ti nm xa xb it vs se rs wk n j t).2.2.2.2.2.1) ((f_Mo_run_2 ti nm xa xb it vs se rs wk n j t).2.2.2.2.2.2) ors owk) H := hP1
  have hD : va_D (blk a 15) (wMo cI cJ cZ a 0 kn ed ct ti nm xa xb (nI ((f_Mo_run_2 ti nm xa xb it vs se rs wk n j t).1)) ((f_Mo_run_2 ti nm xa xb it vs se rs wk n j t).2.1) ((f_Mo_run_2 ti nm xa xb it vs se rs wk n j t).2.2.1) ((f_Mo_run_2 ti nm xa xb it vs se rs wk n j t).2.2.2.1) ((f_Mo_run_2 ti nm xa xb it vs se rs wk n j t).2.2.2.2.1) ((f_Mo_run_2 ti nm xa xb it vs se rs wk n j t).2.2.2.2.2.1) ((f_Mo_run_2 ti nm xa xb it vs se rs wk n j t).2.2.2.2.2.2) ors owk) := (blk_D (wMo_in))
  refine lv_aload_n hx hb d_Md_isNotFor_51 rfl (lv_at hl 0 rfl) ?_
  refine va_get (D := D) (ci := 9) (v := .int 0) (C := R_Md) (T := F_Md) (N := 17) hx hb hg in_Md hown hK hP 0 rfl rfl 0 (Nat.le_of_ble_eq_true rfl) (hg _ tw_706) (fun _ h9 => h9) rfl d_Md_isNotFor_52 ?_
  refine lv_if_le (tgt := 62) hx hb d_Md_isNotFor_55 (by decide) (fun hc => ?_) (fun hc => False.elim (by revert hc; decide))
  refine lv_iconst (v := 0) hx hb d_Md_isNotFor_62 (by decide) ?_
  subst hR
  exact W.zret (v := 0) hx hb hr (by decide) (fun t9 ht hW => ⟨rfl, hS.F ht, by rw [ht]; exact hP⟩) hS.2.2 d_Md_isNotFor_63

def f_Mo_isNotFor_3_63 (ti : Nat → Int32) (nm : Nat → Int32) (xa : Nat → Int32) (it : Nat → Int32) (vs : Nat → Int32) (se : Nat → Int32) (rs : Nat → Int64) (wk : Nat → Int32) (n : Nat) (j : Nat) (t : Int32) : Nat × (Nat → Int32) × (Nat → Int32) × (Nat → Int32) × Int64 × (Nat → Int64) × (Nat → Int32) := ((f_Mo_run_3 ti nm xa it vs se rs wk n j t).1, (f_Mo_run_3 ti nm xa it vs se rs wk n j t).2.1, (f_Mo_run_3 ti nm xa it vs se rs wk n j t).2.2.1, (f_Mo_run_3 ti nm xa it vs se rs wk n j t).2.2.2.1, (f_Mo_run_3 ti nm xa it vs se rs wk n j t).2.2.2.2.1, (f_Mo_run_3 ti nm xa it vs se rs wk n j t).2.2.2.2.2.1, (f_Mo_run_3 ti nm xa it vs se rs wk n j t).2.2.2.2.2.2)
set_option maxHeartbeats 4000000 in
set_option maxRecDepth 100000 in
theorem m_Mo_isNotFor_3_63 (l : Launch) (D : va_G) (cI cJ cZ cO : ClassId) (a : Nat) (code : Int32) (kn : Nat → Int32) (ed : Nat → Int32) (ct : Nat → Int32) (ti : Nat → Int32) (nm : Nat → Int32) (xa : Nat → Int32) (xb : Nat → Int32) (ma : Int32) (it : Nat → Int32) (vs : Nat → Int32) (se : Nat → Int32) (sm : Int64) (rs : Nat → Int64) (wk : Nat → Int32) (ors : Nat → Int64) (owk : Nat → Int32) (n : Nat) (j : Nat) (t : Int32) (hj : j < 4) (hlk : (f_Mo_lacks kn j t).1 = 0) (hk : kn j = 4) (hct : ct j = nI n) (hn : n ≤ 32) (R : Nat × (Nat → Int32) × (Nat → Int32) × (Nat → Int32) × Int64 × (Nat → Int64) × (Nat → Int32)) (hR : f_Mo_isNotFor_3_63 ti nm xa it vs se rs wk n j t = R) : Met l y_Md_isNotFor (k_Md_isNotFor :: gt) rm_Md_isNotFor (Pc0 D cI cJ cZ cO [.ref a, .int (nI j), .int t, .int 63] (fun H => va_P D cls (wMo cI cJ cZ a code kn ed ct ti nm xa xb ma it vs se sm rs wk ors owk) H)) (Qd (blk a 15) (some (.int 0)) (fun H => va_P D cls (wMo cI cJ cZ a 0 kn ed ct ti nm xa xb (nI R.1) R.2.1 R.2.2.1 R.2.2.2.1 R.2.2.2.2.1 R.2.2.2.2.2.1 R.2.2.2.2.2.2 ors owk) H)) 0 0 (blk a 15) := by
  refine Met.ofW (cc := c_Md_isNotFor) (maxL := 4) (ret := (Option.some FieldType.boolean)) (by decide) rfl ?_
  intro p e s m args below meth c s₁ B hml hv
  obtain ⟨rfl, hKn, hP⟩ := hv
  have hx := B.exec
  have hb := B.bytes
  have hr := B.returns
  have hts := atoms_spec (ws := k_Md_isNotFor :: gt) B.pre
  have hg : ∀ w ∈ gt, w.before _ s = true := fun w h => hts w (List.mem_cons_of_mem _ h)
  have hown : s.vm.findClass R_Md = some m.cls := findClass_of_methodNamed B.named
  have hlocks := B.notSynchronized
  have hK := hKn.1
  have hl := lv_entry ([.ref a, .int (nI j), .int t, .int 63]) (n := 4) (Nat.le_of_ble_eq_true rfl)
  rw [lg_entry_eq]
  generalize (lg_sl ([.ref a, .int (nI j), .int t, .int 63]) ++ List.replicate (4 - (lg_sl ([.ref a, .int (nI j), .int t, .int 63])).length) Slot.unset).toArray = ls at hl ⊢
  have hl : lv_has ls 4 [(0, .ref a), (1, .int (nI j)), (2, .int t), (3, .int 63)] := hl
  have hS : va_S (blk a 15) s.heap s.heap [] := va_S.rf
  have hD : va_D (blk a 15) (wMo cI cJ cZ a code kn ed ct ti nm xa xb ma it vs se sm rs wk ors owk) := (blk_D (wMo_in))
  have hR : (((f_Mo_run_3 ti nm xa it vs se rs wk n j t).1, (f_Mo_run_3 ti nm xa it vs se rs wk n j t).2.1, (f_Mo_run_3 ti nm xa it vs se rs wk n j t).2.2.1, (f_Mo_run_3 ti nm xa it vs se rs wk n j t).2.2.2.1, (f_Mo_run_3 ti nm xa it vs se rs wk n j t).2.2.2.2.1, (f_Mo_run_3 ti nm xa it vs se rs wk n j t).2.2.2.2.2.1, (f_Mo_run_3 ti nm xa it vs se rs wk n j t).2.2.2.2.2.2)) = R := hR
  refine lv_aload_n hx hb d_Md_isNotFor_0 rfl (lv_at hl 0 rfl) ?_
  refine lv_iload_n hx hb d_Md_isNotFor_1 rfl (lv_at hl 1 rfl) ?_
  refine lv_iload_n hx hb d_Md_isNotFor_2 rfl (lv_at hl 2 rfl) ?_
  refine ep_callH (W.runV (As := [.int (nI j), .int t]) (rest := []) ⟨hx, hb, hml, hown, hg⟩ (m_Mo_lacks l D cI cJ cZ cO a code kn ed ct ti nm xa xb ma it vs se sm rs wk ors owk j t (by omega) _ rfl) (ep_cwV 2 hg tw_773 tw_775 ts_9 tw_12 tk_Md_lacks rfl rfl (by decide +kernel) ⟨(Nat.le_of_ble_eq_true rfl), (Nat.le_of_ble_eq_true rfl)⟩) ⟨ep_blind, va_recv (q0 := 0) (ci := 9) hK hP rfl rfl, ep_pre hKn (hP)⟩ rfl rfl hl.1 rfl (lv_room (Nat.le_of_ble_eq_true rfl)) d_Md_isNotFor_3 ⟨Nat.zero_le _, Nat.zero_le _⟩) hS (fun q h => h) (fun H locs hsz9 hk1 hP1 hS => ?_)
  refine W.eq (g2 := F0 m 6 ls [.int ((f_Mo_lacks kn j t).1)]) rfl ?_
  have hP : va_P D cls (wMo cI cJ cZ a ((f_Mo_lacks kn j t).2) kn ed ct ti nm xa xb ma it vs se sm rs wk ors owk) H := hP1
  have hD : va_D (blk a 15) (wMo cI cJ cZ a ((f_Mo_lacks kn j t).2) kn ed ct ti nm xa xb ma it vs se sm rs wk ors owk) := (blk_D (wMo_in))
  refine lv_if_eq (tgt := 11) hx hb d_Md_isNotFor_6 (by decide) (fun hc => ?_) (fun hc => absurd hlk hc)
  refine lv_aload_n hx hb d_Md_isNotFor_11 rfl (lv_at hl 0 rfl) ?_
  refine lv_iload_n hx hb d_Md_isNotFor_12 rfl (lv_at hl 3 rfl) ?_
  refine lv_aload_n hx hb d_Md_isNotFor_13 rfl (lv_at hl 0 rfl) ?_
  refine lv_iload_n hx hb d_Md_isNotFor_14 rfl (lv_at hl 1 rfl) ?_
  refine ep_callP (W.runV (As := [.int (nI j)]) (rest := [.int 63, .ref a]) ⟨hx, hb, hml, hown, hg⟩ (m_Mo_kindOf l D cI cJ cZ cO a ((f_Mo_lacks kn j t).2) kn ed ct ti nm xa xb ma it vs se sm rs wk ors owk j (by omega) _ rfl) (ep_cwV 1 hg tw_789 tw_791 ts_11 tw_12 tk_Md_kindOf rfl rfl (by decide +kernel) ⟨(Nat.le_of_ble_eq_true rfl), (Nat.le_of_ble_eq_true rfl)⟩) ⟨ep_blind, va_recv (q0 := 0) (ci := 9) hK hP rfl rfl, ep_pre hKn (hP)⟩ rfl rfl hl.1 rfl (lv_room (Nat.le_of_ble_eq_true rfl)) d_Md_isNotFor_15 ⟨Nat.zero_le _, Nat.zero_le _⟩) ?_
  refine W.eq (g2 := F0 m 18 ls [.int (f_Mo_kindOf kn j), .int 63, .ref a]) rfl ?_
  refine lv_topi (fun z9 e_z9 => ?_)
  obtain rfl : z9 = 3 := by rw [e_z9]; exact (by rw [show f_Mo_kindOf kn j = kn j - 1 from rfl, hk]; decide)
  refine lv_ishr hx hb d_Md_isNotFor_18 ?_
  refine lv_topi (fun z9 e_z9 => ?_)
  obtain rfl : z9 = 7 := by rw [e_z9]; exact (by decide)
  refine lv_iconst (v := 1) hx hb d_Md_isNotFor_19 (by decide) ?_
  refine lv_iand hx hb d_Md_isNotFor_20 ?_
  refine lv_topi (fun z9 e_z9 => ?_)
  obtain rfl : z9 = 1 := by rw [e_z9]; exact (by decide)
  refine lv_iconst (v := 1) hx hb d_Md_isNotFor_21 (by decide) ?_
  refine lv_icmp_ne (tgt := 29) hx hb d_Md_isNotFor_22 (by decide) (fun hc => False.elim (by revert hc; decide)) (fun hc => ?_)
  refine lv_iconst (v := 0) hx hb d_Md_isNotFor_25 (by decide) ?_
  refine lv_goto (tgt := 30) hx hb d_Md_isNotFor_26 (by decide) ?_
  refine va_put (D := D) (ci := 9) (v := .int 0) (ty := .int) (C := R_Md) (T := F_Md) (N := 17) hx hb hg in_Md t_Md t_Md_ok n_Md hown hK hP hD hS 0 rfl rfl 0 (Nat.le_of_ble_eq_true rfl) (hg _ tw_706) (fun _ h9 => h9) rfl (by decide +kernel) rfl rfl (Nat.le_of_ble_eq_true rfl) d_Md_isNotFor_30 (fun H locs hP hD hS => ?_)
  have hP : va_P D cls (wMo cI cJ cZ a 0 kn ed ct ti nm xa xb ma it vs se sm rs wk ors owk) H := hP
  have hD : va_D (blk a 15) (wMo cI cJ cZ a 0 kn ed ct ti nm xa xb ma it vs se sm rs wk ors owk) := hD
  refine lv_aload_n hx hb d_Md_isNotFor_33 rfl (lv_at hl 0 rfl) ?_
  refine va_get (D := D) (ci := 9) (v := .int 0) (C := R_Md) (T := F_Md) (N := 17) hx hb hg in_Md hown hK hP 0 rfl rfl 0 (Nat.le_of_ble_eq_true rfl) (hg _ tw_706) (fun _ h9 => h9) rfl d_Md_isNotFor_34 ?_
  refine lv_if_ne (tgt := 51) hx hb d_Md_isNotFor_37 (by decide) (fun hc => False.elim (by revert hc; decide)) (fun hc => ?_)
  refine lv_aload_n hx hb d_Md_isNotFor_40 rfl (lv_at hl 0 rfl) ?_
  refine lv_iload_n hx hb d_Md_isNotFor_41 rfl (lv_at hl 1 rfl) ?_
  refine lv_aload_n hx hb d_Md_isNotFor_42 rfl (lv_at hl 0 rfl) ?_
  refine lv_iload_n hx hb d_Md_isNotFor_43 rfl (lv_at hl 1 rfl) ?_
  refine ep_callP (W.runV (As := [.int (nI j)]) (rest := [.int (nI j), .ref a]) ⟨hx, hb, hml, hown, hg⟩ (m_Mo_kindOf l D cI cJ cZ cO a 0 kn ed ct ti nm xa xb ma it vs se sm rs wk ors owk j (by omega) _ rfl) (ep_cwV 1 hg tw_789 tw_791 ts_11 tw_12 tk_Md_kindOf rfl rfl (by decide +kernel) ⟨(Nat.le_of_ble_eq_true rfl), (Nat.le_of_ble_eq_true rfl)⟩) ⟨ep_blind, va_recv (q0 := 0) (ci := 9) hK hP rfl rfl, ep_pre hKn (hP)⟩ rfl rfl hl.1 rfl (lv_room (Nat.le_of_ble_eq_true rfl)) d_Md_isNotFor_44 ⟨Nat.zero_le _, Nat.zero_le _⟩) ?_
  refine W.eq (g2 := F0 m 47 ls [.int (f_Mo_kindOf kn j), .int (nI j), .ref a]) rfl ?_
  refine lv_topi (fun z9 e_z9 => ?_)
  obtain rfl : z9 = 3 := by rw [e_z9]; exact (by rw [show f_Mo_kindOf kn j = kn j - 1 from rfl, hk]; decide)
  refine lv_iload_n hx hb d_Md_isNotFor_47 rfl (lv_at hl 2 rfl) ?_
  refine ep_callH (W.runV (As := [.int (nI j), .int 3, .int t]) (rest := []) ⟨hx, hb, hml, hown, hg⟩ (m_Mo_run_3 l D cI cJ cZ cO a 0 kn ed ct ti nm xa xb ma it vs se sm rs wk ors owk n j t (by omega) hct (by omega) _ rfl) (ep_cwV 3 hg tw_832 tw_834 ts_17 tw_12 tk_Md_run rfl rfl (by decide +kernel) ⟨(Nat.le_of_ble_eq_true rfl), (Nat.le_of_ble_eq_true rfl)⟩) ⟨ep_blind, va_recv (q0 := 0) (ci := 9) hK hP rfl rfl, ep_pre hKn (hP)⟩ rfl rfl hl.1 rfl (lv_room (Nat.le_of_ble_eq_true rfl)) d_Md_isNotFor_48 ⟨Nat.zero_le _, Nat.zero_le _⟩) hS (fun q h => h) (fun H locs hsz9 hk1 hP1 hS => ?_)
  refine W.eq (g2 := F0 m 51 ls []) rfl ?_
  have hP : va_P D cls (wMo cI cJ cZ a 0 kn ed ct ti nm xa xb (nI ((f_Mo_run_3 ti nm xa it vs se rs wk n j t).1)) ((f_Mo_run_3 ti nm xa it vs se rs wk n j t).2.1) ((f_Mo_run_3 ti nm xa it vs se rs wk n j t).2.2.1) ((f_Mo_run_3 ti nm xa it vs se rs wk n j t).2.2.2.1) ((f_Mo_run_3 ti nm xa it vs se rs wk n j t).2.2.2.2.1) ((f_Mo_run_3 ti nm xa it vs se rs wk n j t).2.2.2.2.2.1) ((f_Mo_run_3 ti nm xa it vs se rs wk n j t).2.2.2.2.2.2) ors owk) H := hP1
  have hD : va_D (blk a 15) (wMo cI cJ cZ a 0 kn ed ct ti nm xa xb (nI ((f_Mo_run_3 ti nm xa it vs se rs wk n j t).1)) ((f_Mo_run_3 ti nm xa it vs se rs wk n j t).2.1) ((f_Mo_run_3 ti nm xa it vs se rs wk n j t).2.2.1) ((f_Mo_run_3 ti nm xa it vs se rs wk n j t).2.2.2.1) ((f_Mo_run_3 ti nm xa it vs se rs wk n j t).2.2.2.2.1) ((f_Mo_run_3 ti nm xa it vs se rs wk n j t).2.2.2.2.2.1) ((f_Mo_run_3 ti nm xa it vs se rs wk n j t).2.2.2.2.2.2) ors owk) := (blk_D (wMo_in))
  refine lv_aload_n hx hb d_Md_isNotFor_51 rfl (lv_at hl 0 rfl) ?_
  refine va_get (D := D) (ci := 9) (v := .int 0) (C := R_Md) (T := F_Md) (N := 17) hx hb hg in_Md hown hK hP 0 rfl rfl 0 (Nat.le_of_ble_eq_true rfl) (hg _ tw_706) (fun _ h9 => h9) rfl d_Md_isNotFor_52 ?_
  refine lv_if_le (tgt := 62) hx hb d_Md_isNotFor_55 (by decide) (fun hc => ?_) (fun hc => False.elim (by revert hc; decide))
  refine lv_iconst (v := 0) hx hb d_Md_isNotFor_62 (by decide) ?_
  subst hR
  exact W.zret (v := 0) hx hb hr (by decide) (fun t9 ht hW => ⟨rfl, hS.F ht, by rw [ht]; exact hP⟩) hS.2.2 d_Md_isNotFor_63

def f_Mo_isNotFor_4_63 (ti : Nat → Int32) (xa : Nat → Int32) (it : Nat → Int32) (vs : Nat → Int32) (se : Nat → Int32) (rs : Nat → Int64) (wk : Nat → Int32) (n : Nat) (j : Nat) (t : Int32) : Int32 × (Nat → Int32) × (Nat → Int32) × (Nat → Int32) × Int64 × (Nat → Int64) × (Nat → Int32) := ((f_Mo_run_4 ti xa it vs se rs wk n j t).1, (f_Mo_run_4 ti xa it vs se rs wk n j t).2.1, (f_Mo_run_4 ti xa it vs se rs wk n j t).2.2.1, (f_Mo_run_4 ti xa it vs se rs wk n j t).2.2.2.1, (f_Mo_run_4 ti xa it vs se rs wk n j t).2.2.2.2.1, (f_Mo_run_4 ti xa it vs se rs wk n j t).2.2.2.2.2.1, (f_Mo_run_4 ti xa it vs se rs wk n j t).2.2.2.2.2.2)
set_option maxHeartbeats 4000000 in
set_option maxRecDepth 100000 in
theorem m_Mo_isNotFor_4_63 (l : Launch) (D : va_G) (cI cJ cZ cO : ClassId) (a : Nat) (code : Int32) (kn : Nat → Int32) (ed : Nat → Int32) (ct : Nat → Int32) (ti : Nat → Int32) (nm : Nat → Int32) (xa : Nat → Int32) (xb : Nat → Int32) (ma : Int32) (it : Nat → Int32) (vs : Nat → Int32) (se : Nat → Int32) (sm : Int64) (rs : Nat → Int64) (wk : Nat → Int32) (ors : Nat → Int64) (owk : Nat → Int32) (n : Nat) (j : Nat) (t : Int32) (hj : j < 4) (hlk : (f_Mo_lacks kn j t).1 = 0) (hk : kn j = 5) (hct : ct j = nI n) (hn : n ≤ 32) (R : Int32 × (Nat → Int32) × (Nat → Int32) × (Nat → Int32) × Int64 × (Nat → Int64) × (Nat → Int32)) (hR : f_Mo_isNotFor_4_63 ti xa it vs se rs wk n j t = R) : Met l y_Md_isNotFor (k_Md_isNotFor :: gt) rm_Md_isNotFor (Pc0 D cI cJ cZ cO [.ref a, .int (nI j), .int t, .int 63] (fun H => va_P D cls (wMo cI cJ cZ a code kn ed ct ti nm xa xb ma it vs se sm rs wk ors owk) H)) (Qd (blk a 15) (some (.int 0)) (fun H => va_P D cls (wMo cI cJ cZ a 0 kn ed ct ti nm xa xb R.1 R.2.1 R.2.2.1 R.2.2.2.1 R.2.2.2.2.1 R.2.2.2.2.2.1 R.2.2.2.2.2.2 ors owk) H)) 0 0 (blk a 15) := by
  refine Met.ofW (cc := c_Md_isNotFor) (maxL := 4) (ret := (Option.some FieldType.boolean)) (by decide) rfl ?_
  intro p e s m args below meth c s₁ B hml hv
  obtain ⟨rfl, hKn, hP⟩ := hv
  have hx := B.exec
  have hb := B.bytes
  have hr := B.returns
  have hts := atoms_spec (ws := k_Md_isNotFor :: gt) B.pre
  have hg : ∀ w ∈ gt, w.before _ s = true := fun w h => hts w (List.mem_cons_of_mem _ h)
  have hown : s.vm.findClass R_Md = some m.cls := findClass_of_methodNamed B.named
  have hlocks := B.notSynchronized
  have hK := hKn.1
  have hl := lv_entry ([.ref a, .int (nI j), .int t, .int 63]) (n := 4) (Nat.le_of_ble_eq_true rfl)
  rw [lg_entry_eq]
  generalize (lg_sl ([.ref a, .int (nI j), .int t, .int 63]) ++ List.replicate (4 - (lg_sl ([.ref a, .int (nI j), .int t, .int 63])).length) Slot.unset).toArray = ls at hl ⊢
  have hl : lv_has ls 4 [(0, .ref a), (1, .int (nI j)), (2, .int t), (3, .int 63)] := hl
  have hS : va_S (blk a 15) s.heap s.heap [] := va_S.rf
  have hD : va_D (blk a 15) (wMo cI cJ cZ a code kn ed ct ti nm xa xb ma it vs se sm rs wk ors owk) := (blk_D (wMo_in))
  have hR : (((f_Mo_run_4 ti xa it vs se rs wk n j t).1, (f_Mo_run_4 ti xa it vs se rs wk n j t).2.1, (f_Mo_run_4 ti xa it vs se rs wk n j t).2.2.1, (f_Mo_run_4 ti xa it vs se rs wk n j t).2.2.2.1, (f_Mo_run_4 ti xa it vs se rs wk n j t).2.2.2.2.1, (f_Mo_run_4 ti xa it vs se rs wk n j t).2.2.2.2.2.1, (f_Mo_run_4 ti xa it vs se rs wk n j t).2.2.2.2.2.2)) = R := hR
  refine lv_aload_n hx hb d_Md_isNotFor_0 rfl (lv_at hl 0 rfl) ?_
  refine lv_iload_n hx hb d_Md_isNotFor_1 rfl (lv_at hl 1 rfl) ?_
  refine lv_iload_n hx hb d_Md_isNotFor_2 rfl (lv_at hl 2 rfl) ?_
  refine ep_callH (W.runV (As := [.int (nI j), .int t]) (rest := []) ⟨hx, hb, hml, hown, hg⟩ (m_Mo_lacks l D cI cJ cZ cO a code kn ed ct ti nm xa xb ma it vs se sm rs wk ors owk j t (by omega) _ rfl) (ep_cwV 2 hg tw_773 tw_775 ts_9 tw_12 tk_Md_lacks rfl rfl (by decide +kernel) ⟨(Nat.le_of_ble_eq_true rfl), (Nat.le_of_ble_eq_true rfl)⟩) ⟨ep_blind, va_recv (q0 := 0) (ci := 9) hK hP rfl rfl, ep_pre hKn (hP)⟩ rfl rfl hl.1 rfl (lv_room (Nat.le_of_ble_eq_true rfl)) d_Md_isNotFor_3 ⟨Nat.zero_le _, Nat.zero_le _⟩) hS (fun q h => h) (fun H locs hsz9 hk1 hP1 hS => ?_)
  refine W.eq (g2 := F0 m 6 ls [.int ((f_Mo_lacks kn j t).1)]) rfl ?_
  have hP : va_P D cls (wMo cI cJ cZ a ((f_Mo_lacks kn j t).2) kn ed ct ti nm xa xb ma it vs se sm rs wk ors owk) H := hP1
  have hD : va_D (blk a 15) (wMo cI cJ cZ a ((f_Mo_lacks kn j t).2) kn ed ct ti nm xa xb ma it vs se sm rs wk ors owk) := (blk_D (wMo_in))
  refine lv_if_eq (tgt := 11) hx hb d_Md_isNotFor_6 (by decide) (fun hc => ?_) (fun hc => absurd hlk hc)
  refine lv_aload_n hx hb d_Md_isNotFor_11 rfl (lv_at hl 0 rfl) ?_
  refine lv_iload_n hx hb d_Md_isNotFor_12 rfl (lv_at hl 3 rfl) ?_
  refine lv_aload_n hx hb d_Md_isNotFor_13 rfl (lv_at hl 0 rfl) ?_
  refine lv_iload_n hx hb d_Md_isNotFor_14 rfl (lv_at hl 1 rfl) ?_
  refine ep_callP (W.runV (As := [.int (nI j)]) (rest := [.int 63, .ref a]) ⟨hx, hb, hml, hown, hg⟩ (m_Mo_kindOf l D cI cJ cZ cO a ((f_Mo_lacks kn j t).2) kn ed ct ti nm xa xb ma it vs se sm rs wk ors owk j (by omega) _ rfl) (ep_cwV 1 hg tw_789 tw_791 ts_11 tw_12 tk_Md_kindOf rfl rfl (by decide +kernel) ⟨(Nat.le_of_ble_eq_true rfl), (Nat.le_of_ble_eq_true rfl)⟩) ⟨ep_blind, va_recv (q0 := 0) (ci := 9) hK hP rfl rfl, ep_pre hKn (hP)⟩ rfl rfl hl.1 rfl (lv_room (Nat.le_of_ble_eq_true rfl)) d_Md_isNotFor_15 ⟨Nat.zero_le _, Nat.zero_le _⟩) ?_
  refine W.eq (g2 := F0 m 18 ls [.int (f_Mo_kindOf kn j), .int 63, .ref a]) rfl ?_
  refine lv_topi (fun z9 e_z9 => ?_)
  obtain rfl : z9 = 4 := by rw [e_z9]; exact (by rw [show f_Mo_kindOf kn j = kn j - 1 from rfl, hk]; decide)
  refine lv_ishr hx hb d_Md_isNotFor_18 ?_
  refine lv_topi (fun z9 e_z9 => ?_)
  obtain rfl : z9 = 3 := by rw [e_z9]; exact (by decide)
  refine lv_iconst (v := 1) hx hb d_Md_isNotFor_19 (by decide) ?_
  refine lv_iand hx hb d_Md_isNotFor_20 ?_
  refine lv_topi (fun z9 e_z9 => ?_)
  obtain rfl : z9 = 1 := by rw [e_z9]; exact (by decide)
  refine lv_iconst (v := 1) hx hb d_Md_isNotFor_21 (by decide) ?_
  refine lv_icmp_ne (tgt := 29) hx hb d_Md_isNotFor_22 (by decide) (fun hc => False.elim (by revert hc; decide)) (fun hc => ?_)
  refine lv_iconst (v := 0) hx hb d_Md_isNotFor_25 (by decide) ?_
  refine lv_goto (tgt := 30) hx hb d_Md_isNotFor_26 (by decide) ?_
  refine va_put (D := D) (ci := 9) (v := .int 0) (ty := .int) (C := R_Md) (T := F_Md) (N := 17) hx hb hg in_Md t_Md t_Md_ok n_Md hown hK hP hD hS 0 rfl rfl 0 (Nat.le_of_ble_eq_true rfl) (hg _ tw_706) (fun _ h9 => h9) rfl (by decide +kernel) rfl rfl (Nat.le_of_ble_eq_true rfl) d_Md_isNotFor_30 (fun H locs hP hD hS => ?_)
  have hP : va_P D cls (wMo cI cJ cZ a 0 kn ed ct ti nm xa xb ma it vs se sm rs wk ors owk) H := hP
  have hD : va_D (blk a 15) (wMo cI cJ cZ a 0 kn ed ct ti nm xa xb ma it vs se sm rs wk ors owk) := hD
  refine lv_aload_n hx hb d_Md_isNotFor_33 rfl (lv_at hl 0 rfl) ?_
  refine va_get (D := D) (ci := 9) (v := .int 0) (C := R_Md) (T := F_Md) (N := 17) hx hb hg in_Md hown hK hP 0 rfl rfl 0 (Nat.le_of_ble_eq_true rfl) (hg _ tw_706) (fun _ h9 => h9) rfl d_Md_isNotFor_34 ?_
  refine lv_if_ne (tgt := 51) hx hb d_Md_isNotFor_37 (by decide) (fun hc => False.elim (by revert hc; decide)) (fun hc => ?_)
  refine lv_aload_n hx hb d_Md_isNotFor_40 rfl (lv_at hl 0 rfl) ?_
  refine lv_iload_n hx hb d_Md_isNotFor_41 rfl (lv_at hl 1 rfl) ?_
  refine lv_aload_n hx hb d_Md_isNotFor_42 rfl (lv_at hl 0 rfl) ?_
  refine lv_iload_n hx hb d_Md_isNotFor_43 rfl (lv_at hl 1 rfl) ?_
  refine ep_callP (W.runV (As := [.int (nI j)]) (rest := [.int (nI j), .ref a]) ⟨hx, hb, hml, hown, hg⟩ (m_Mo_kindOf l D cI cJ cZ cO a 0 kn ed ct ti nm xa xb ma it vs se sm rs wk ors owk j (by omega) _ rfl) (ep_cwV 1 hg tw_789 tw_791 ts_11 tw_12 tk_Md_kindOf rfl rfl (by decide +kernel) ⟨(Nat.le_of_ble_eq_true rfl), (Nat.le_of_ble_eq_true rfl)⟩) ⟨ep_blind, va_recv (q0 := 0) (ci := 9) hK hP rfl rfl, ep_pre hKn (hP)⟩ rfl rfl hl.1 rfl (lv_room (Nat.le_of_ble_eq_true rfl)) d_Md_isNotFor_44 ⟨Nat.zero_le _, Nat.zero_le _⟩) ?_
  refine W.eq (g2 := F0 m 47 ls [.int (f_Mo_kindOf kn j), .int (nI j), .ref a]) rfl ?_
  refine lv_topi (fun z9 e_z9 => ?_)
  obtain rfl : z9 = 4 := by rw [e_z9]; exact (by rw [show f_Mo_kindOf kn j = kn j - 1 from rfl, hk]; decide)
  refine lv_iload_n hx hb d_Md_isNotFor_47 rfl (lv_at hl 2 rfl) ?_
  refine ep_callH (W.runV (As := [.int (nI j), .int 4, .int t]) (rest := []) ⟨hx, hb, hml, hown, hg⟩ (m_Mo_run_4 l D cI cJ cZ cO a 0 kn ed ct ti nm xa xb ma it vs se sm rs wk ors owk n j t (by omega) hct (by omega) _ rfl) (ep_cwV 3 hg tw_832 tw_834 ts_17 tw_12 tk_Md_run rfl rfl (by decide +kernel) ⟨(Nat.le_of_ble_eq_true rfl), (Nat.le_of_ble_eq_true rfl)⟩) ⟨ep_blind, va_recv (q0 := 0) (ci := 9) hK hP rfl rfl, ep_pre hKn (hP)⟩ rfl rfl hl.1 rfl (lv_room (Nat.le_of_ble_eq_true rfl)) d_Md_isNotFor_48 ⟨Nat.zero_le _, Nat.zero_le _⟩) hS (fun q h => h) (fun H locs hsz9 hk1 hP1 hS => ?_)
  refine W.eq (g2 := F0 m 51 ls []) rfl ?_
  have hP : va_P D cls (wMo cI cJ cZ a 0 kn ed ct ti nm xa xb ((f_Mo_run_4 ti xa it vs se rs wk n j t).1) ((f_Mo_run_4 ti xa it vs se rs wk n j t).2.1) ((f_Mo_run_4 ti xa it vs se rs wk n j t).2.2.1) ((f_Mo_run_4 ti xa it vs se rs wk n j t).2.2.2.1) ((f_Mo_run_4 ti xa it vs se rs wk n j t).2.2.2.2.1) ((f_Mo_run_4 ti xa it vs se rs wk n j t).2.2.2.2.2.1) ((f_Mo_run_4 ti xa it vs se rs wk n j t).2.2.2.2.2.2) ors owk) H := hP1
  have hD : va_D (blk a 15) (wMo cI cJ cZ a 0 kn ed ct ti nm xa xb ((f_Mo_run_4 ti xa it vs se rs wk n j t).1) ((f_Mo_run_4 ti xa it vs se rs wk n j t).2.1) ((f_Mo_run_4 ti xa it vs se rs wk n j t).2.2.1) ((f_Mo_run_4 ti xa it vs se rs wk n j t).2.2.2.1) ((f_Mo_run_4 ti xa it vs se rs wk n j t).2.2.2.2.1) ((f_Mo_run_4 ti xa it vs se rs wk n j t).2.2.2.2.2.1) ((f_Mo_run_4 ti xa it vs se rs wk n j t).2.2.2.2.2.2) ors owk) := (blk_D (wMo_in))
  refine lv_aload_n hx hb d_Md_isNotFor_51 rfl (lv_at hl 0 rfl) ?_
  refine va_get (D := D) (ci := 9) (v := .int 0) (C := R_Md) (T := F_Md) (N := 17) hx hb hg in_Md hown hK hP 0 rfl rfl 0 (Nat.le_of_ble_eq_true rfl) (hg _ tw_706) (fun _ h9 => h9) rfl d_Md_isNotFor_52 ?_
  refine lv_if_le (tgt := 62) hx hb d_Md_isNotFor_55 (by decide) (fun hc => ?_) (fun hc => False.elim (by revert hc; decide))
  refine lv_iconst (v := 0) hx hb d_Md_isNotFor_62 (by decide) ?_
  subst hR
  exact W.zret (v := 0) hx hb hr (by decide) (fun t9 ht hW => ⟨rfl, hS.F ht, by rw [ht]; exact hP⟩) hS.2.2 d_Md_isNotFor_63

def f_Mo_isNotFor_5_63 (ti : Nat → Int32) (xa : Nat → Int32) (xb : Nat → Int32) (it : Nat → Int32) (vs : Nat → Int32) (se : Nat → Int32) (rs : Nat → Int64) (wk : Nat → Int32) (n : Nat) (j : Nat) (t : Int32) : Int32 × (Nat → Int32) × (Nat → Int32) × (Nat → Int32) × Int64 × (Nat → Int64) × (Nat → Int32) := ((f_Mo_run_5 ti xa xb it vs se rs wk n j t).1, (f_Mo_run_5 ti xa xb it vs se rs wk n j t).2.1, (f_Mo_run_5 ti xa xb it vs se rs wk n j t).2.2.1, (f_Mo_run_5 ti xa xb it vs se rs wk n j t).2.2.2.1, (f_Mo_run_5 ti xa xb it vs se rs wk n j t).2.2.2.2.1, (f_Mo_run_5 ti xa xb it vs se rs wk n j t).2.2.2.2.2.1, (f_Mo_run_5 ti xa xb it vs se rs wk n j t).2.2.2.2.2.2)
set_option maxHeartbeats 4000000 in
set_option maxRecDepth 100000 in
theorem m_Mo_isNotFor_5_63 (l : Launch) (D : va_G) (cI cJ cZ cO : ClassId) (a : Nat) (code : Int32) (kn : Nat → Int32) (ed : Nat → Int32) (ct : Nat → Int32) (ti : Nat → Int32) (nm : Nat → Int32) (xa : Nat → Int32) (xb : Nat → Int32) (ma : Int32) (it : Nat → Int32) (vs : Nat → Int32) (se : Nat → Int32) (sm : Int64) (rs : Nat → Int64) (wk : Nat → Int32) (ors : Nat → Int64) (owk : Nat → Int32) (n : Nat) (j : Nat) (t : Int32) (hj : j < 4) (hlk : (f_Mo_lacks kn j t).1 = 0) (hk : kn j = 6) (hct : ct j = nI n) (hn : n ≤ 32) (hop : ∀ i, i < n → (xa (32 * j + i) = nI (xa (32 * j + i)).toNatClampNeg ∧ (xa (32 * j + i)).toNatClampNeg < 16) ∧ (xb (32 * j + i) = nI (xb (32 * j + i)).toNatClampNeg ∧ (xb (32 * j + i)).toNatClampNeg < 16)) (R : Int32 × (Nat → Int32) × (Nat → Int32) × (Nat → Int32) × Int64 × (Nat → Int64) × (Nat → Int32)) (hR : f_Mo_isNotFor_5_63 ti xa xb it vs se rs wk n j t = R) : Met l y_Md_isNotFor (k_Md_isNotFor :: gt) rm_Md_isNotFor (Pc0 D cI cJ cZ cO [.ref a, .int (nI j), .int t, .int 63] (fun H => va_P D cls (wMo cI cJ cZ a code kn ed ct ti nm xa xb ma it vs se sm rs wk ors owk) H)) (Qd (blk a 15) (some (.int 0)) (fun H => va_P D cls (wMo cI cJ cZ a 0 kn ed ct ti nm xa xb R.1 R.2.1 R.2.2.1 R.2.2.2.1 R.2.2.2.2.1 R.2.2.2.2.2.1 R.2.2.2.2.2.2 ors owk) H)) 0 0 (blk a 15) := by
  refine Met.ofW (cc := c_Md_isNotFor) (maxL := 4) (ret := (Option.some FieldType.boolean)) (by decide) rfl ?_
  intro p e s m args below meth c s₁ B hml hv
  obtain ⟨rfl, hKn, hP⟩ := hv
  have hx := B.exec
  have hb := B.bytes
  have hr := B.returns
  have hts := atoms_spec (ws := k_Md_isNotFor :: gt) B.pre
  have hg : ∀ w ∈ gt, w.before _ s = true := fun w h => hts w (List.mem_cons_of_mem _ h)
  have hown : s.vm.findClass R_Md = some m.cls := findClass_of_methodNamed B.named
  have hlocks := B.notSynchronized
  have hK := hKn.1
  have hl := lv_entry ([.ref a, .int (nI j), .int t, .int 63]) (n := 4) (Nat.le_of_ble_eq_true rfl)
  rw [lg_entry_eq]
  generalize (lg_sl ([.ref a, .int (nI j), .int t, .int 63]) ++ List.replicate (4 - (lg_sl ([.ref a, .int (nI j), .int t, .int 63])).length) Slot.unset).toArray = ls at hl ⊢
  have hl : lv_has ls 4 [(0, .ref a), (1, .int (nI j)), (2, .int t), (3, .int 63)] := hl
  have hS : va_S (blk a 15) s.heap s.heap [] := va_S.rf
  have hD : va_D (blk a 15) (wMo cI cJ cZ a code kn ed ct ti nm xa xb ma it vs se sm rs wk ors owk) := (blk_D (wMo_in))
  have hR : (((f_Mo_run_5 ti xa xb it vs se rs wk n j t).1, (f_Mo_run_5 ti xa xb it vs se rs wk n j t).2.1, (f_Mo_run_5 ti xa xb it vs se rs wk n j t).2.2.1, (f_Mo_run_5 ti xa xb it vs se rs wk n j t).2.2.2.1, (f_Mo_run_5 ti xa xb it vs se rs wk n j t).2.2.2.2.1, (f_Mo_run_5 ti xa xb it vs se rs wk n j t).2.2.2.2.2.1, (f_Mo_run_5 ti xa xb it vs se rs wk n j t).2.2.2.2.2.2)) = R := hR
  refine lv_aload_n hx hb d_Md_isNotFor_0 rfl (lv_at hl 0 rfl) ?_
  refine lv_iload_n hx hb d_Md_isNotFor_1 rfl (lv_at hl 1 rfl) ?_
  refine lv_iload_n hx hb d_Md_isNotFor_2 rfl (lv_at hl 2 rfl) ?_
  refine ep_callH (W.runV (As := [.int (nI j), .int t]) (rest := []) ⟨hx, hb, hml, hown, hg⟩ (m_Mo_lacks l D cI cJ cZ cO a code kn ed ct ti nm xa xb ma it vs se sm rs wk ors owk j t (by omega) _ rfl) (ep_cwV 2 hg tw_773 tw_775 ts_9 tw_12 tk_Md_lacks rfl rfl (by decide +kernel) ⟨(Nat.le_of_ble_eq_true rfl), (Nat.le_of_ble_eq_true rfl)⟩) ⟨ep_blind, va_recv (q0 := 0) (ci := 9) hK hP rfl rfl, ep_pre hKn (hP)⟩ rfl rfl hl.1 rfl (lv_room (Nat.le_of_ble_eq_true rfl)) d_Md_isNotFor_3 ⟨Nat.zero_le _, Nat.zero_le _⟩) hS (fun q h => h) (fun H locs hsz9 hk1 hP1 hS => ?_)
  refine W.eq (g2 := F0 m 6 ls [.int ((f_Mo_lacks kn j t).1)]) rfl ?_
  have hP : va_P D cls (wMo cI cJ cZ a ((f_Mo_lacks kn j t).2) kn ed ct ti nm xa xb ma it vs se sm rs wk ors owk) H := hP1
  have hD : va_D (blk a 15) (wMo cI cJ cZ a ((f_Mo_lacks kn j t).2) kn ed ct ti nm xa xb ma it vs se sm rs wk ors owk) := (blk_D (wMo_in))
  refine lv_if_eq (tgt := 11) hx hb d_Md_isNotFor_6 (by decide) (fun hc => ?_) (fun hc => absurd hlk hc)
  refine lv_aload_n hx hb d_Md_isNotFor_11 rfl (lv_at hl 0 rfl) ?_
  refine lv_iload_n hx hb d_Md_isNotFor_12 rfl (lv_at hl 3 rfl) ?_
  refine lv_aload_n hx hb d_Md_isNotFor_13 rfl (lv_at hl 0 rfl) ?_
  refine lv_iload_n hx hb d_Md_isNotFor_14 rfl (lv_at hl 1 rfl) ?_
  refine ep_callP (W.runV (As := [.int (nI j)]) (rest := [.int 63, .ref a]) ⟨hx, hb, hml, hown, hg⟩ (m_Mo_kindOf l D cI cJ cZ cO a ((f_Mo_lacks kn j t).2) kn ed ct ti nm xa xb ma it vs se sm rs wk ors owk j (by omega) _ rfl) (ep_cwV 1 hg tw_789 tw_791 ts_11 tw_12 tk_Md_kindOf rfl rfl (by decide +kernel) ⟨(Nat.le_of_ble_eq_true rfl), (Nat.le_of_ble_eq_true rfl)⟩) ⟨ep_blind, va_recv (q0 := 0) (ci := 9) hK hP rfl rfl, ep_pre hKn (hP)⟩ rfl rfl hl.1 rfl (lv_room (Nat.le_of_ble_eq_true rfl)) d_Md_isNotFor_15 ⟨Nat.zero_le _, Nat.zero_le _⟩) ?_
  refine W.eq (g2 := F0 m 18 ls [.int (f_Mo_kindOf kn j), .int 63, .ref a]) rfl ?_
  refine lv_topi (fun z9 e_z9 => ?_)
  obtain rfl : z9 = 5 := by rw [e_z9]; exact (by rw [show f_Mo_kindOf kn j = kn j - 1 from rfl, hk]; decide)
  refine lv_ishr hx hb d_Md_isNotFor_18 ?_
  refine lv_topi (fun z9 e_z9 => ?_)
  obtain rfl : z9 = 1 := by rw [e_z9]; exact (by decide)
  refine lv_iconst (v := 1) hx hb d_Md_isNotFor_19 (by decide) ?_
  refine lv_iand hx hb d_Md_isNotFor_20 ?_
  refine lv_topi (fun z9 e_z9 => ?_)
  obtain rfl : z9 = 1 := by rw [e_z9]; exact (by decide)
  refine lv_iconst (v := 1) hx hb d_Md_isNotFor_21 (by decide) ?_
  refine lv_icmp_ne (tgt := 29) hx hb d_Md_isNotFor_22 (by decide) (fun hc => False.elim (by revert hc; decide)) (fun hc => ?_)
  refine lv_iconst (v := 0) hx hb d_Md_isNotFor_25 (by decide) ?_
  refine lv_goto (tgt := 30) hx hb d_Md_isNotFor_26 (by decide) ?_
  refine va_put (D := D) (ci := 9) (v := .int 0) (ty := .int) (C := R_Md) (T := F_Md) (N := 17) hx hb hg in_Md t_Md t_Md_ok n_Md hown hK hP hD hS 0 rfl rfl 0 (Nat.le_of_ble_eq_true rfl) (hg _ tw_706) (fun _ h9 => h9) rfl (by decide +kernel) rfl rfl (Nat.le_of_ble_eq_true rfl) d_Md_isNotFor_30 (fun H locs hP hD hS => ?_)
  have hP : va_P D cls (wMo cI cJ cZ a 0 kn ed ct ti nm xa xb ma it vs se sm rs wk ors owk) H := hP
  have hD : va_D (blk a 15) (wMo cI cJ cZ a 0 kn ed ct ti nm xa xb ma it vs se sm rs wk ors owk) := hD
  refine lv_aload_n hx hb d_Md_isNotFor_33 rfl (lv_at hl 0 rfl) ?_
  refine va_get (D := D) (ci := 9) (v := .int 0) (C := R_Md) (T := F_Md) (N := 17) hx hb hg in_Md hown hK hP 0 rfl rfl 0 (Nat.le_of_ble_eq_true rfl) (hg _ tw_706) (fun _ h9 => h9) rfl d_Md_isNotFor_34 ?_
  refine lv_if_ne (tgt := 51) hx hb d_Md_isNotFor_37 (by decide) (fun hc => False.elim (by revert hc; decide)) (fun hc => ?_)
  refine lv_aload_n hx hb d_Md_isNotFor_40 rfl (lv_at hl 0 rfl) ?_
  refine lv_iload_n hx hb d_Md_isNotFor_41 rfl (lv_at hl 1 rfl) ?_
  refine lv_aload_n hx hb d_Md_isNotFor_42 rfl (lv_at hl 0 rfl) ?_
  refine lv_iload_n hx hb d_Md_isNotFor_43 rfl (lv_at hl 1 rfl) ?_
  refine ep_callP (W.runV (As := [.int (nI j)]) (rest := [.int (nI j), .ref a]) ⟨hx, hb, hml, hown, hg⟩ (m_Mo_kindOf l D cI cJ cZ cO a 0 kn ed ct ti nm xa xb ma it vs se sm rs wk ors owk j (by omega) _ rfl) (ep_cwV 1 hg tw_789 tw_791 ts_11 tw_12 tk_Md_kindOf rfl rfl (by decide +kernel) ⟨(Nat.le_of_ble_eq_true rfl), (Nat.le_of_ble_eq_true rfl)⟩) ⟨ep_blind, va_recv (q0 := 0) (ci := 9) hK hP rfl rfl, ep_pre hKn (hP)⟩ rfl rfl hl.1 rfl (lv_room (Nat.le_of_ble_eq_true rfl)) d_Md_isNotFor_44 ⟨Nat.zero_le _, Nat.zero_le _⟩) ?_
  refine W.eq (g2 := F0 m 47 ls [.int (f_Mo_kindOf kn j), .int (nI j), .ref a]) rfl ?_
  refine lv_topi (fun z9 e_z9 => ?_)
  obtain rfl : z9 = 5 := by rw [e_z9]; exact (by rw [show f_Mo_kindOf kn j = kn j - 1 from rfl, hk]; decide)
  refine lv_iload_n hx hb d_Md_isNotFor_47 rfl (lv_at hl 2 rfl) ?_
  refine ep_callH (W.runV (As := [.int (nI j), .int 5, .int t]) (rest := []) ⟨hx, hb, hml, hown, hg⟩ (m_Mo_run_5 l D cI cJ cZ cO a 0 kn ed ct ti nm xa xb ma it vs se sm rs wk ors owk n j t (by omega) hct (by omega) hop _ rfl) (ep_cwV 3 hg tw_832 tw_834 ts_17 tw_12 tk_Md_run rfl rfl (by decide +kernel) ⟨(Nat.le_of_ble_eq_true rfl), (Nat.le_of_ble_eq_true rfl)⟩) ⟨ep_blind, va_recv (q0 := 0) (ci := 9) hK hP rfl rfl, ep_pre hKn (hP)⟩ rfl rfl hl.1 rfl (lv_room (Nat.le_of_ble_eq_true rfl)) d_Md_isNotFor_48 ⟨Nat.zero_le _, Nat.zero_le _⟩) hS (fun q h => h) (fun H locs hsz9 hk1 hP1 hS => ?_)
  refine W.eq (g2 := F0 m 51 ls []) rfl ?_
  have hP : va_P D cls (wMo cI cJ cZ a 0 kn ed ct ti nm xa xb ((f_Mo_run_5 ti xa xb it vs se rs wk n j t).1) ((f_Mo_run_5 ti xa xb it vs se rs wk n j t).2.1) ((f_Mo_run_5 ti xa xb it vs se rs wk n j t).2.2.1) ((f_Mo_run_5 ti xa xb it vs se rs wk n j t).2.2.2.1) ((f_Mo_run_5 ti xa xb it vs se rs wk n j t).2.2.2.2.1) ((f_Mo_run_5 ti xa xb it vs se rs wk n j t).2.2.2.2.2.1) ((f_Mo_run_5 ti xa xb it vs se rs wk n j t).2.2.2.2.2.2) ors owk) H := hP1
  have hD : va_D (blk a 15) (wMo cI cJ cZ a 0 kn ed ct ti nm xa xb ((f_Mo_run_5 ti xa xb it vs se rs wk n j t).1) ((f_Mo_run_5 ti xa xb it vs se rs wk n j t).2.1) ((f_Mo_run_5 ti xa xb it vs se rs wk n j t).2.2.1) ((f_Mo_run_5 ti xa xb it vs se rs wk n j t).2.2.2.1) ((f_Mo_run_5 ti xa xb it vs se rs wk n j t).2.2.2.2.1) ((f_Mo_run_5 ti xa xb it vs se rs wk n j t).2.2.2.2.2.1) ((f_Mo_run_5 ti xa xb it vs se rs wk n j t).2.2.2.2.2.2) ors owk) := (blk_D (wMo_in))
  refine lv_aload_n hx hb d_Md_isNotFor_51 rfl (lv_at hl 0 rfl) ?_
  refine va_get (D := D) (ci := 9) (v := .int 0) (C := R_Md) (T := F_Md) (N := 17) hx hb hg in_Md hown hK hP 0 rfl rfl 0 (Nat.le_of_ble_eq_true rfl) (hg _ tw_706) (fun _ h9 => h9) rfl d_Md_isNotFor_52 ?_
  refine lv_if_le (tgt := 62) hx hb d_Md_isNotFor_55 (by decide) (fun hc => ?_) (fun hc => False.elim (by revert hc; decide))
  refine lv_iconst (v := 0) hx hb d_Md_isNotFor_62 (by decide) ?_
  subst hR
  exact W.zret (v := 0) hx hb hr (by decide) (fun t9 ht hW => ⟨rfl, hS.F ht, by rw [ht]; exact hP⟩) hS.2.2 d_Md_isNotFor_63

def f_Mo_lacksTwo (kn : Nat → Int32) (j : Nat) (t : Int32) (u : Int32) : Int32 × Int32 := if okM t then (if okM u then (if (kn j) = 0 then ((1, 2)) else ((0, 0))) else ((1, 1))) else ((1, 1))
set_option maxHeartbeats 4000000 in
set_option maxRecDepth 100000 in
theorem m_Mo_lacksTwo (l : Launch) (D : va_G) (cI cJ cZ cO : ClassId) (a : Nat) (code : Int32) (kn : Nat → Int32) (ed : Nat → Int32) (ct : Nat → Int32) (ti : Nat → Int32) (nm : Nat → Int32) (xa : Nat → Int32) (xb : Nat → Int32) (ma : Int32) (it : Nat → Int32) (vs : Nat → Int32) (se : Nat → Int32) (sm : Int64) (rs : Nat → Int64) (wk : Nat → Int32) (ors : Nat → Int64) (owk : Nat → Int32) (j : Nat) (t : Int32) (u : Int32) (hj : j < 4) (R : Int32 × Int32) (hR : f_Mo_lacksTwo kn j t u = R) : Met l y_Md_lacksTwo (k_Md_lacksTwo :: gt) rm_Md_lacksTwo (Pc0 D cI cJ cZ cO [.ref a, .int (nI j), .int t, .int u] (fun H => va_P D cls (wMo cI cJ cZ a code kn ed ct ti nm xa xb ma it vs se sm rs wk ors owk) H)) (Qd (blk a 15) (some (.int R.1)) (fun H => va_P D cls (wMo cI cJ cZ a R.2 kn ed ct ti nm xa xb ma it vs se sm rs wk ors owk) H)) 0 0 (blk a 15) := by
  refine Met.ofW (cc := c_Md_lacksTwo) (maxL := 4) (ret := (Option.some FieldType.boolean)) (by decide) rfl ?_
  intro p e s m args below meth c s₁ B hml hv
  obtain ⟨rfl, hKn, hP⟩ := hv
  have hx := B.exec
  have hb := B.bytes
  have hr := B.returns
  have hts := atoms_spec (ws := k_Md_lacksTwo :: gt) B.pre
  have hg : ∀ w ∈ gt, w.before _ s = true := fun w h => hts w (List.mem_cons_of_mem _ h)
  have hown : s.vm.findClass R_Md = some m.cls := findClass_of_methodNamed B.named
  have hlocks := B.notSynchronized
  have hK := hKn.1
  have hl := lv_entry ([.ref a, .int (nI j), .int t, .int u]) (n := 4) (Nat.le_of_ble_eq_true rfl)
  rw [lg_entry_eq]
  generalize (lg_sl ([.ref a, .int (nI j), .int t, .int u]) ++ List.replicate (4 - (lg_sl ([.ref a, .int (nI j), .int t, .int u])).length) Slot.unset).toArray = ls at hl ⊢
  have hl : lv_has ls 4 [(0, .ref a), (1, .int (nI j)), (2, .int t), (3, .int u)] := hl
  have hS : va_S (blk a 15) s.heap s.heap [] := va_S.rf
  have hD : va_D (blk a 15) (wMo cI cJ cZ a code kn ed ct ti nm xa xb ma it vs se sm rs wk ors owk) := (blk_D (wMo_in))
  have hR : (if okM t then (if okM u then (if (kn j) = 0 then ((1, 2)) else ((0, 0))) else ((1, 1))) else ((1, 1))) = R := hR
  refine lv_aload_n hx hb d_Md_lacksTwo_0 rfl (lv_at hl 0 rfl) ?_
  refine lv_iload_n hx hb d_Md_lacksTwo_1 rfl (lv_at hl 1 rfl) ?_
  refine ep_callP (W.runS (As := [.int (nI j)]) (rest := [.ref a]) ⟨hx, hb, hml, hown, hg⟩ (m_Mo_isId l D cI cJ cZ cO (nI j)) (ep_cwS 1 hg tw_766 tw_767 tw_12 tk_Md_isId rfl rfl (by decide +kernel) ⟨(Nat.le_of_ble_eq_true rfl), (Nat.le_of_ble_eq_true rfl)⟩) ⟨ep_blind, ep_pre hKn (trivial)⟩ rfl rfl hl.1 rfl (lv_room (Nat.le_of_ble_eq_true rfl)) d_Md_lacksTwo_2 ⟨Nat.zero_le _, Nat.zero_le _⟩) ?_
  refine W.eq (g2 := F0 m 5 ls [.int (bI (okI (nI j))), .ref a]) rfl ?_
  refine lv_topi (fun z8 e_z8 => ?_)
  obtain rfl : z8 = 1 := by rw [e_z8]; exact (if_pos (okI_n (by omega)))
  refine lv_if_eq (tgt := 22) hx hb d_Md_lacksTwo_5 (by decide) (fun hc => False.elim (by revert hc; decide)) (fun hc => ?_)
  refine lv_iload_n hx hb d_Md_lacksTwo_8 rfl (lv_at hl 2 rfl) ?_
  refine ep_callP (W.runS (As := [.int t]) (rest := [.ref a]) ⟨hx, hb, hml, hown, hg⟩ (m_Mo_isMoment l D cI cJ cZ cO t) (ep_cwS 1 hg tw_777 tw_778 tw_12 tk_Md_isMoment rfl rfl (by decide +kernel) ⟨(Nat.le_of_ble_eq_true rfl), (Nat.le_of_ble_eq_true rfl)⟩) ⟨ep_blind, ep_pre hKn (trivial)⟩ rfl rfl hl.1 rfl (lv_room (Nat.le_of_ble_eq_true rfl)) d_Md_lacksTwo_9 ⟨Nat.zero_le _, Nat.zero_le _⟩) ?_
  refine W.eq (g2 := F0 m 12 ls [.int (bI (okM t)), .ref a]) rfl ?_
  by_cases hc1 : okM t
  · rw [show bI (okM t) = 1 from if_pos hc1]
    refine lv_if_eq (tgt := 22) hx hb d_Md_lacksTwo_12 (by decide) (fun hc => False.elim (by revert hc; decide)) (fun hc => ?_)
    refine lv_iload_n hx hb d_Md_lacksTwo_15 rfl (lv_at hl 3 rfl) ?_
    refine ep_callP (W.runS (As := [.int u]) (rest := [.ref a]) ⟨hx, hb, hml, hown, hg⟩ (m_Mo_isMoment l D cI cJ cZ cO u) (ep_cwS 1 hg tw_777 tw_778 tw_12 tk_Md_isMoment rfl rfl (by decide +kernel) ⟨(Nat.le_of_ble_eq_true rfl), (Nat.le_of_ble_eq_true rfl)⟩) ⟨ep_blind, ep_pre hKn (trivial)⟩ rfl rfl hl.1 rfl (lv_room (Nat.le_of_ble_eq_true rfl)) d_Md_lacksTwo_16 ⟨Nat.zero_le _, Nat.zero_le _⟩) ?_
    refine W.eq (g2 := F0 m 19 ls [.int (bI (okM u)), .ref a]) rfl ?_
    by_cases hc2 : okM u
    · rw [show bI (okM u) = 1 from if_pos hc2]
      refine lv_if_ne (tgt := 26) hx hb d_Md_lacksTwo_19 (by decide) (fun hc => ?_) (fun hc => False.elim (by revert hc; decide))
      refine lv_aload_n hx hb d_Md_lacksTwo_26 rfl (lv_at hl 0 rfl) ?_
      refine va_get (D := D) (ci := 9) (v := .ref (a + 1)) (C := R_Md) (T := F_Md) (N := 17) hx hb hg in_Md hown hK hP 0 rfl rfl 1 (Nat.le_of_ble_eq_true rfl) (hg _ tw_707) (fun _ h9 => h9) rfl d_Md_lacksTwo_27 ?_
      refine lv_iload_n hx hb d_Md_lacksTwo_30 rfl (lv_at hl 1 rfl) ?_
      refine ep_iald hx hb hK hP 1 0 rfl rfl (i := j) (by omega) (by decide) d_Md_lacksTwo_31 ?_
      refine lv_if_ne (tgt := 39) hx hb d_Md_lacksTwo_32 (by decide) (fun hc3 => ?_) (fun hc3 => ?_)
      · have hc3 : ¬ ((kn j) = 0) := hc3
        refine lv_iconst (v := 0) hx hb d_Md_lacksTwo_39 (by decide) ?_
        refine va_put (D := D) (ci := 9) (v := .int 0) (ty := .int) (C := R_Md) (T := F_Md) (N := 17) hx hb hg in_Md t_Md t_Md_ok n_Md hown hK hP hD hS 0 rfl rfl 0 (Nat.le_of_ble_eq_true rfl) (hg _ tw_706) (fun _ h9 => h9) rfl (by decide +kernel) rfl rfl (Nat.le_of_ble_eq_true rfl) d_Md_lacksTwo_40 (fun H locs hP hD hS => ?_)
        have hP : va_P D cls (wMo cI cJ cZ a 0 kn ed ct ti nm xa xb ma it vs se sm rs wk ors owk) H := hP
        have hD : va_D (blk a 15) (wMo cI cJ cZ a 0 kn ed ct ti nm xa xb ma it vs se sm rs wk ors owk) := hD
        refine lv_aload_n hx hb d_Md_lacksTwo_43 rfl (lv_at hl 0 rfl) ?_
        refine va_get (D := D) (ci := 9) (v := .int 0) (C := R_Md) (T := F_Md) (N := 17) hx hb hg in_Md hown hK hP 0 rfl rfl 0 (Nat.le_of_ble_eq_true rfl) (hg _ tw_706) (fun _ h9 => h9) rfl d_Md_lacksTwo_44 ?_
        refine lv_if_le (tgt := 54) hx hb d_Md_lacksTwo_47 (by decide) (fun hc => ?_) (fun hc => False.elim (by revert hc; decide))
        refine lv_iconst (v := 0) hx hb d_Md_lacksTwo_54 (by decide) ?_
        rw [if_pos hc1, if_pos hc2, if_neg hc3] at hR
        subst hR
        exact W.zret (v := 0) hx hb hr (by decide) (fun t9 ht hW => ⟨rfl, hS.F ht, by rw [ht]; exact hP⟩) hS.2.2 d_Md_lacksTwo_55
      · have hc3 : (kn j) = 0 := hc3
        refine lv_iconst (v := 2) hx hb d_Md_lacksTwo_35 (by decide) ?_
        refine lv_goto (tgt := 40) hx hb d_Md_lacksTwo_36 (by decide) ?_
        refine va_put (D := D) (ci := 9) (v := .int 2) (ty := .int) (C := R_Md) (T := F_Md) (N := 17) hx hb hg in_Md t_Md t_Md_ok n_Md hown hK hP hD hS 0 rfl rfl 0 (Nat.le_of_ble_eq_true rfl) (hg _ tw_706) (fun _ h9 => h9) rfl (by decide +kernel) rfl rfl (Nat.le_of_ble_eq_true rfl) d_Md_lacksTwo_40 (fun H locs hP hD hS => ?_)
        have hP : va_P D cls (wMo cI cJ cZ a 2 kn ed ct ti nm xa xb ma it vs se sm rs wk ors owk) H := hP
        have hD : va_D (blk a 15) (wMo cI cJ cZ a 2 kn ed ct ti nm xa xb ma it vs se sm rs wk ors owk) := hD
        refine lv_aload_n hx hb d_Md_lacksTwo_43 rfl (lv_at hl 0 rfl) ?_
        refine va_get (D := D) (ci := 9) (v := .int 2) (C := R_Md) (T := F_Md) (N := 17) hx hb hg in_Md hown hK hP 0 rfl rfl 0 (Nat.le_of_ble_eq_true rfl) (hg _ tw_706) (fun _ h9 => h9) rfl d_Md_lacksTwo_44 ?_
        refine lv_if_le (tgt := 54) hx hb d_Md_lacksTwo_47 (by decide) (fun hc => False.elim (by revert hc; decide)) (fun hc => ?_)
        refine lv_iconst (v := 1) hx hb d_Md_lacksTwo_50 (by decide) ?_
        refine lv_goto (tgt := 55) hx hb d_Md_lacksTwo_51 (by decide) ?_
        rw [if_pos hc1, if_pos hc2, if_pos hc3] at hR
        subst hR
        exact W.zret (v := 1) hx hb hr (by decide) (fun t9 ht hW => ⟨rfl, hS.F ht, by rw [ht]; exact hP⟩) hS.2.2 d_Md_lacksTwo_55
    · rw [show bI (okM u) = 0 from if_neg hc2]
      refine lv_if_ne (tgt := 26) hx hb d_Md_lacksTwo_19 (by decide) (fun hc => False.elim (by revert hc; decide)) (fun hc => ?_)
      refine lv_iconst (v := 1) hx hb d_Md_lacksTwo_22 (by decide) ?_
      refine lv_goto (tgt := 40) hx hb d_Md_lacksTwo_23 (by decide) ?_
      refine va_put (D := D) (ci := 9) (v := .int 1) (ty := .int) (C := R_Md) (T := F_Md) (N := 17) hx hb hg in_Md t_Md t_Md_ok n_Md hown hK hP hD hS 0 rfl rfl 0 (Nat.le_of_ble_eq_true rfl) (hg _ tw_706) (fun _ h9 => h9) rfl (by decide +kernel) rfl rfl (Nat.le_of_ble_eq_true rfl) d_Md_lacksTwo_40 (fun H locs hP hD hS => ?_)
      have hP : va_P D cls (wMo cI cJ cZ a 1 kn ed ct ti nm xa xb ma it vs se sm rs wk ors owk) H := hP
      have hD : va_D (blk a 15) (wMo cI cJ cZ a 1 kn ed ct ti nm xa xb ma it vs se sm rs wk ors owk) := hD
      refine lv_aload_n hx hb d_Md_lacksTwo_43 rfl (lv_at hl 0 rfl) ?_
      refine va_get (D := D) (ci := 9) (v := .int 1) (C := R_Md) (T := F_Md) (N := 17) hx hb hg in_Md hown hK hP 0 rfl rfl 0 (Nat.le_of_ble_eq_true rfl) (hg _ tw_706) (fun _ h9 => h9) rfl d_Md_lacksTwo_44 ?_
      refine lv_if_le (tgt := 54) hx hb d_Md_lacksTwo_47 (by decide) (fun hc => False.elim (by revert hc; decide)) (fun hc => ?_)
      refine lv_iconst (v := 1) hx hb d_Md_lacksTwo_50 (by decide) ?_
      refine lv_goto (tgt := 55) hx hb d_Md_lacksTwo_51 (by decide) ?_
      rw [if_pos hc1, if_neg hc2] at hR
      subst hR
      exact W.zret (v := 1) hx hb hr (by decide) (fun t9 ht hW => ⟨rfl, hS.F ht, by rw [ht]; exact hP⟩) hS.2.2 d_Md_lacksTwo_55
  · rw [show bI (okM t) = 0 from if_neg hc1]
    refine lv_if_eq (tgt := 22) hx hb d_Md_lacksTwo_12 (by decide) (fun hc => ?_) (fun hc => False.elim (by revert hc; decide))
    refine lv_iconst (v := 1) hx hb d_Md_lacksTwo_22 (by decide) ?_
    refine lv_goto (tgt := 40) hx hb d_Md_lacksTwo_23 (by decide) ?_
    refine va_put (D := D) (ci := 9) (v := .int 1) (ty := .int) (C := R_Md) (T := F_Md) (N := 17) hx hb hg in_Md t_Md t_Md_ok n_Md hown hK hP hD hS 0 rfl rfl 0 (Nat.le_of_ble_eq_true rfl) (hg _ tw_706) (fun _ h9 => h9) rfl (by decide +kernel) rfl rfl (Nat.le_of_ble_eq_true rfl) d_Md_lacksTwo_40 (fun H locs hP hD hS => ?_)
    have hP : va_P D cls (wMo cI cJ cZ a 1 kn ed ct ti nm xa xb ma it vs se sm rs wk ors owk) H := hP
    have hD : va_D (blk a 15) (wMo cI cJ cZ a 1 kn ed ct ti nm xa xb ma it vs se sm rs wk ors owk) := hD
    refine lv_aload_n hx hb d_Md_lacksTwo_43 rfl (lv_at hl 0 rfl) ?_
    refine va_get (D := D) (ci := 9) (v := .int 1) (C := R_Md) (T := F_Md) (N := 17) hx hb hg in_Md hown hK hP 0 rfl rfl 0 (Nat.le_of_ble_eq_true rfl) (hg _ tw_706) (fun _ h9 => h9) rfl d_Md_lacksTwo_44 ?_
    refine lv_if_le (tgt := 54) hx hb d_Md_lacksTwo_47 (by decide) (fun hc => False.elim (by revert hc; decide)) (fun hc => ?_)
    refine lv_iconst (v := 1) hx hb d_Md_lacksTwo_50 (by decide) ?_
    refine lv_goto (tgt := 55) hx hb d_Md_lacksTwo_51 (by decide) ?_
    rw [if_neg hc1] at hR
    subst hR
    exact W.zret (v := 1) hx hb hr (by decide) (fun t9 ht hW => ⟨rfl, hS.F ht, by rw [ht]; exact hP⟩) hS.2.2 d_Md_lacksTwo_55

def f_Mo_lacksTwo_b  : Int32 × Int32 := (1, 1)
set_option maxHeartbeats 4000000 in
set_option maxRecDepth 100000 in
theorem m_Mo_lacksTwo_b (l : Launch) (D : va_G) (cI cJ cZ cO : ClassId) (a : Nat) (code : Int32) (kn : Nat → Int32) (ed : Nat → Int32) (ct : Nat → Int32) (ti : Nat → Int32) (nm : Nat → Int32) (xa : Nat → Int32) (xb : Nat → Int32) (ma : Int32) (it : Nat → Int32) (vs : Nat → Int32) (se : Nat → Int32) (sm : Int64) (rs : Nat → Int64) (wk : Nat → Int32) (ors : Nat → Int64) (owk : Nat → Int32) (id : Int32) (t : Int32) (u : Int32) (hid : ¬ okI id) (R : Int32 × Int32) (hR : f_Mo_lacksTwo_b = R) : Met l y_Md_lacksTwo (k_Md_lacksTwo :: gt) rm_Md_lacksTwo (Pc0 D cI cJ cZ cO [.ref a, .int id, .int t, .int u] (fun H => va_P D cls (wMo cI cJ cZ a code kn ed ct ti nm xa xb ma it vs se sm rs wk ors owk) H)) (Qd (blk a 15) (some (.int R.1)) (fun H => va_P D cls (wMo cI cJ cZ a R.2 kn ed ct ti nm xa xb ma it vs se sm rs wk ors owk) H)) 0 0 (blk a 15) := by
  refine Met.ofW (cc := c_Md_lacksTwo) (maxL := 4) (ret := (Option.some FieldType.boolean)) (by decide) rfl ?_
  intro p e s m args below meth c s₁ B hml hv
  obtain ⟨rfl, hKn, hP⟩ := hv
  have hx := B.exec
  have hb := B.bytes
  have hr := B.returns
  have hts := atoms_spec (ws := k_Md_lacksTwo :: gt) B.pre
  have hg : ∀ w ∈ gt, w.before _ s = true := fun w h => hts w (List.mem_cons_of_mem _ h)
  have hown : s.vm.findClass R_Md = some m.cls := findClass_of_methodNamed B.named
  have hlocks := B.notSynchronized
  have hK := hKn.1
  have hl := lv_entry ([.ref a, .int id, .int t, .int u]) (n := 4) (Nat.le_of_ble_eq_true rfl)
  rw [lg_entry_eq]
  generalize (lg_sl ([.ref a, .int id, .int t, .int u]) ++ List.replicate (4 - (lg_sl ([.ref a, .int id, .int t, .int u])).length) Slot.unset).toArray = ls at hl ⊢
  have hl : lv_has ls 4 [(0, .ref a), (1, .int id), (2, .int t), (3, .int u)] := hl
  have hS : va_S (blk a 15) s.heap s.heap [] := va_S.rf
  have hD : va_D (blk a 15) (wMo cI cJ cZ a code kn ed ct ti nm xa xb ma it vs se sm rs wk ors owk) := (blk_D (wMo_in))
  have hR : ((1, 1)) = R := hR
  refine lv_aload_n hx hb d_Md_lacksTwo_0 rfl (lv_at hl 0 rfl) ?_
  refine lv_iload_n hx hb d_Md_lacksTwo_1 rfl (lv_at hl 1 rfl) ?_
  refine ep_callP (W.runS (As := [.int id]) (rest := [.ref a]) ⟨hx, hb, hml, hown, hg⟩ (m_Mo_isId l D cI cJ cZ cO id) (ep_cwS 1 hg tw_766 tw_767 tw_12 tk_Md_isId rfl rfl (by decide +kernel) ⟨(Nat.le_of_ble_eq_true rfl), (Nat.le_of_ble_eq_true rfl)⟩) ⟨ep_blind, ep_pre hKn (trivial)⟩ rfl rfl hl.1 rfl (lv_room (Nat.le_of_ble_eq_true rfl)) d_Md_lacksTwo_2 ⟨Nat.zero_le _, Nat.zero_le _⟩) ?_
  refine W.eq (g2 := F0 m 5 ls [.int (bI (okI id)), .ref a]) rfl ?_
  refine lv_topi (fun z8 e_z8 => ?_)
  obtain rfl : z8 = 0 := by rw [e_z8]; exact (if_neg hid)
  refine lv_if_eq (tgt := 22) hx hb d_Md_lacksTwo_5 (by decide) (fun hc => ?_) (fun hc => False.elim (by revert hc; decide))
  refine lv_iconst (v := 1) hx hb d_Md_lacksTwo_22 (by decide) ?_
  refine lv_goto (tgt := 40) hx hb d_Md_lacksTwo_23 (by decide) ?_
  refine va_put (D := D) (ci := 9) (v := .int 1) (ty := .int) (C := R_Md) (T := F_Md) (N := 17) hx hb hg in_Md t_Md t_Md_ok n_Md hown hK hP hD hS 0 rfl rfl 0 (Nat.le_of_ble_eq_true rfl) (hg _ tw_706) (fun _ h9 => h9) rfl (by decide +kernel) rfl rfl (Nat.le_of_ble_eq_true rfl) d_Md_lacksTwo_40 (fun H locs hP hD hS => ?_)
  have hP : va_P D cls (wMo cI cJ cZ a 1 kn ed ct ti nm xa xb ma it vs se sm rs wk ors owk) H := hP
  have hD : va_D (blk a 15) (wMo cI cJ cZ a 1 kn ed ct ti nm xa xb ma it vs se sm rs wk ors owk) := hD
  refine lv_aload_n hx hb d_Md_lacksTwo_43 rfl (lv_at hl 0 rfl) ?_
  refine va_get (D := D) (ci := 9) (v := .int 1) (C := R_Md) (T := F_Md) (N := 17) hx hb hg in_Md hown hK hP 0 rfl rfl 0 (Nat.le_of_ble_eq_true rfl) (hg _ tw_706) (fun _ h9 => h9) rfl d_Md_lacksTwo_44 ?_
  refine lv_if_le (tgt := 54) hx hb d_Md_lacksTwo_47 (by decide) (fun hc => False.elim (by revert hc; decide)) (fun hc => ?_)
  refine lv_iconst (v := 1) hx hb d_Md_lacksTwo_50 (by decide) ?_
  refine lv_goto (tgt := 55) hx hb d_Md_lacksTwo_51 (by decide) ?_
  subst hR
  exact W.zret (v := 1) hx hb hr (by decide) (fun t9 ht hW => ⟨rfl, hS.F ht, by rw [ht]; exact hP⟩) hS.2.2 d_Md_lacksTwo_55
