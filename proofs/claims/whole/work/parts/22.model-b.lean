/-! contracts of EditablePastModel (by wip/whole/gen/model.py) -/
def g_Mo_takeOut_12 (n : Nat) : Nat → Nat → (Nat → Int32) → (Nat → Int32) → Nat × (Nat → Int32) × (Nat → Int32)
  | 0, i, it, vs => (n - 1, it, vs)
  | k + 1, i, it, vs => g_Mo_takeOut_12 n k (i + 1) (upd it i (it (i + 1))) (upd vs i (vs (i + 1)))

def f_Mo_takeOut (n : Nat) (it : Nat → Int32) (vs : Nat → Int32) (pp : Nat) : Nat × (Nat → Int32) × (Nat → Int32) := g_Mo_takeOut_12 n (n - 1 - pp) pp it vs
set_option maxHeartbeats 4000000 in
set_option maxRecDepth 100000 in
theorem m_Mo_takeOut (l : Launch) (D : va_G) (cI cJ cZ cO : ClassId) (a : Nat) (code : Int32) (kn : Nat → Int32) (ed : Nat → Int32) (ct : Nat → Int32) (ti : Nat → Int32) (nm : Nat → Int32) (xa : Nat → Int32) (xb : Nat → Int32) (n : Nat) (it : Nat → Int32) (vs : Nat → Int32) (se : Nat → Int32) (sm : Int64) (rs : Nat → Int64) (wk : Nat → Int32) (ors : Nat → Int64) (owk : Nat → Int32) (pp : Nat) (hn : n ≤ 32) (hp9 : pp < n) (R : Nat × (Nat → Int32) × (Nat → Int32)) (hR : f_Mo_takeOut n it vs pp = R) : Met l y_Md_takeOut (k_Md_takeOut :: gt) rm_Md_takeOut (Pc0 D cI cJ cZ cO [.ref a, .int (nI pp)] (fun H => va_P D cls (wMo cI cJ cZ a code kn ed ct ti nm xa xb (nI n) it vs se sm rs wk ors owk) H)) (Qd (blk a 15) none (fun H => va_P D cls (wMo cI cJ cZ a code kn ed ct ti nm xa xb (nI R.1) R.2.1 R.2.2 se sm rs wk ors owk) H)) 0 0 (blk a 15) := by
  refine Met.ofW (cc := c_Md_takeOut) (maxL := 3) (ret := none) (by decide) rfl ?_
  intro p e s m args below meth c s₁ B hml hv
  obtain ⟨rfl, hKn, hP⟩ := hv
  have hx := B.exec
  have hb := B.bytes
  have hr := B.returns
  have hts := atoms_spec (ws := k_Md_takeOut :: gt) B.pre
  have hg : ∀ w ∈ gt, w.before _ s = true := fun w h => hts w (List.mem_cons_of_mem _ h)
  have hown : s.vm.findClass R_Md = some m.cls := findClass_of_methodNamed B.named
  have hlocks := B.notSynchronized
  have hK := hKn.1
  have hl := lv_entry ([.ref a, .int (nI pp)]) (n := 3) (Nat.le_of_ble_eq_true rfl)
  rw [lg_entry_eq]
  generalize (lg_sl ([.ref a, .int (nI pp)]) ++ List.replicate (3 - (lg_sl ([.ref a, .int (nI pp)])).length) Slot.unset).toArray = ls at hl ⊢
  have hl : lv_has ls 3 [(0, .ref a), (1, .int (nI pp))] := hl
  have hS : va_S (blk a 15) s.heap s.heap [] := va_S.rf
  have hD : va_D (blk a 15) (wMo cI cJ cZ a code kn ed ct ti nm xa xb (nI n) it vs se sm rs wk ors owk) := (blk_D (wMo_in))
  have key_12 : ∀ (k : Nat) (i : Nat) (it : Nat → Int32) (vs : Nat → Int32) (H : Heap) (locs : List Loc) (ls : Array Slot), i + k = n - 1 → g_Mo_takeOut_12 n k i it vs = R → lv_has ls 3 [(2, .int (nI i)), (0, .ref a), (1, .int (nI pp))] → va_P D cls (wMo cI cJ cZ a code kn ed ct ti nm xa xb (nI (n - 1)) it vs se sm rs wk ors owk) H → va_S (blk a 15) s.heap H locs → W p l e (headSpec (k_Md_takeOut :: gt) rm_Md_takeOut).room s m ([.ref a, .int (nI pp)] : List Value).toArray below meth c H locs 0 0 (MQ below (Qd (blk a 15) none (fun H => va_P D cls (wMo cI cJ cZ a code kn ed ct ti nm xa xb (nI R.1) R.2.1 R.2.2 se sm rs wk ors owk) H)) ([.ref a, .int (nI pp)] : List Value).toArray s 0 0 (blk a 15)) (F0 m 12 ls []) := by
    intro k
    induction k with
    | zero =>
      intro i it vs H locs ls hi hR hl hP hS
      have hR : ((n - 1, it, vs)) = R := hR
      have hD : va_D (blk a 15) (wMo cI cJ cZ a code kn ed ct ti nm xa xb (nI (n - 1)) it vs se sm rs wk ors owk) := (blk_D (wMo_in))
      refine lv_iload_n hx hb d_Md_takeOut_12 rfl (lv_at hl 0 rfl) ?_
      refine lv_aload_n hx hb d_Md_takeOut_13 rfl (lv_at hl 1 rfl) ?_
      refine va_get (D := D) (ci := 9) (v := .int (nI (n - 1))) (C := R_Md) (T := F_Md) (N := 17) hx hb hg in_Md hown hK hP 0 rfl rfl 8 (Nat.le_of_ble_eq_true rfl) (hg _ tw_714) (fun _ h9 => h9) rfl d_Md_takeOut_14 ?_
      refine lv_icmp_ge (tgt := 54) hx hb d_Md_takeOut_17 (by decide) (fun hc => ?_) (fun hc => False.elim (by have hc : ¬ (n - 1 ≤ i) := fun h => hc (by exact (nI_leI (a := n - 1) (b := i) (by omega) (by omega)).mpr h); omega))
      subst hR
      exact W.vret hx hb hr (fun t9 ht hW => ⟨rfl, hS.F ht, by rw [ht]; exact hP⟩) hS.2.2 d_Md_takeOut_54
    | succ k ih =>
      intro i it vs H locs ls hi hR hl hP hS
      have hR : (g_Mo_takeOut_12 n k (i + 1) (upd it i (it (i + 1))) (upd vs i (vs (i + 1)))) = R := hR
      have hD : va_D (blk a 15) (wMo cI cJ cZ a code kn ed ct ti nm xa xb (nI (n - 1)) it vs se sm rs wk ors owk) := (blk_D (wMo_in))
      refine lv_iload_n hx hb d_Md_takeOut_12 rfl (lv_at hl 0 rfl) ?_
      refine lv_aload_n hx hb d_Md_takeOut_13 rfl (lv_at hl 1 rfl) ?_
      refine va_get (D := D) (ci := 9) (v := .int (nI (n - 1))) (C := R_Md) (T := F_Md) (N := 17) hx hb hg in_Md hown hK hP 0 rfl rfl 8 (Nat.le_of_ble_eq_true rfl) (hg _ tw_714) (fun _ h9 => h9) rfl d_Md_takeOut_14 ?_
      refine lv_icmp_ge (tgt := 54) hx hb d_Md_takeOut_17 (by decide) (fun hc => False.elim (by have hc := (nI_leI (a := n - 1) (b := i) (by omega) (by omega)).mp hc; omega)) (fun hc => ?_)
      refine lv_aload_n hx hb d_Md_takeOut_20 rfl (lv_at hl 1 rfl) ?_
      refine va_get (D := D) (ci := 9) (v := .ref (a + 8)) (C := R_Md) (T := F_Md) (N := 17) hx hb hg in_Md hown hK hP 0 rfl rfl 9 (Nat.le_of_ble_eq_true rfl) (hg _ tw_715) (fun _ h9 => h9) rfl d_Md_takeOut_21 ?_
      refine lv_iload_n hx hb d_Md_takeOut_24 rfl (lv_at hl 0 rfl) ?_
      refine lv_aload_n hx hb d_Md_takeOut_25 rfl (lv_at hl 1 rfl) ?_
      refine va_get (D := D) (ci := 9) (v := .ref (a + 8)) (C := R_Md) (T := F_Md) (N := 17) hx hb hg in_Md hown hK hP 0 rfl rfl 9 (Nat.le_of_ble_eq_true rfl) (hg _ tw_715) (fun _ h9 => h9) rfl d_Md_takeOut_26 ?_
      refine lv_iload_n hx hb d_Md_takeOut_29 rfl (lv_at hl 0 rfl) ?_
      refine lv_iconst (v := 1) hx hb d_Md_takeOut_30 (by decide) ?_
      refine lv_iadd hx hb d_Md_takeOut_31 ?_
      refine lv_topi (fun z9 e_z9 => ?_)
      obtain rfl : z9 = nI (i + 1) := by rw [e_z9]; exact (nI_add i 1)
      refine ep_iald hx hb hK hP 8 0 rfl rfl (i := (i + 1)) (by omega) (by decide) d_Md_takeOut_32 ?_
      refine ep_iast hx hb hK hP hD hS 8 0 rfl rfl (i := i) (x := (it (i + 1))) (by omega) (by decide) d_Md_takeOut_33 (fun H locs hP hD hS => ?_)
      have hP : va_P D cls (wMo cI cJ cZ a code kn ed ct ti nm xa xb (nI (n - 1)) (upd it i (it (i + 1))) vs se sm rs wk ors owk) H := hP
      have hD : va_D (blk a 15) (wMo cI cJ cZ a code kn ed ct ti nm xa xb (nI (n - 1)) (upd it i (it (i + 1))) vs se sm rs wk ors owk) := hD
      refine lv_aload_n hx hb d_Md_takeOut_34 rfl (lv_at hl 1 rfl) ?_
      refine va_get (D := D) (ci := 9) (v := .ref (a + 9)) (C := R_Md) (T := F_Md) (N := 17) hx hb hg in_Md hown hK hP 0 rfl rfl 10 (Nat.le_of_ble_eq_true rfl) (hg _ tw_716) (fun _ h9 => h9) rfl d_Md_takeOut_35 ?_
      refine lv_iload_n hx hb d_Md_takeOut_38 rfl (lv_at hl 0 rfl) ?_
      refine lv_aload_n hx hb d_Md_takeOut_39 rfl (lv_at hl 1 rfl) ?_
      refine va_get (D := D) (ci := 9) (v := .ref (a + 9)) (C := R_Md) (T := F_Md) (N := 17) hx hb hg in_Md hown hK hP 0 rfl rfl 10 (Nat.le_of_ble_eq_true rfl) (hg _ tw_716) (fun _ h9 => h9) rfl d_Md_takeOut_40 ?_
      refine lv_iload_n hx hb d_Md_takeOut_43 rfl (lv_at hl 0 rfl) ?_
      refine lv_iconst (v := 1) hx hb d_Md_takeOut_44 (by decide) ?_
      refine lv_iadd hx hb d_Md_takeOut_45 ?_
      refine lv_topi (fun z9 e_z9 => ?_)
      obtain rfl : z9 = nI (i + 1) := by rw [e_z9]; exact (nI_add i 1)
      refine ep_iald hx hb hK hP 9 0 rfl rfl (i := (i + 1)) (by omega) (by decide) d_Md_takeOut_46 ?_
      refine ep_iast hx hb hK hP hD hS 9 0 rfl rfl (i := i) (x := (vs (i + 1))) (by omega) (by decide) d_Md_takeOut_47 (fun H locs hP hD hS => ?_)
      have hP : va_P D cls (wMo cI cJ cZ a code kn ed ct ti nm xa xb (nI (n - 1)) (upd it i (it (i + 1))) (upd vs i (vs (i + 1))) se sm rs wk ors owk) H := hP
      have hD : va_D (blk a 15) (wMo cI cJ cZ a code kn ed ct ti nm xa xb (nI (n - 1)) (upd it i (it (i + 1))) (upd vs i (vs (i + 1))) se sm rs wk ors owk) := hD
      refine lv_iinc (k := 0) (lv' := [(2, .int (nI (i + 1))), (0, .ref a), (1, .int (nI pp))]) hx hb d_Md_takeOut_48 hl rfl (inc1 _) (by decide) rfl (fun ls hl => ?_)
      refine lv_goto (tgt := 12) hx hb d_Md_takeOut_51 (by decide) ?_
      exact ih (i + 1) (upd it i (it (i + 1))) (upd vs i (vs (i + 1))) _ _ ls (by omega) hR hl hP hS
  have hR : (g_Mo_takeOut_12 n (n - 1 - pp) pp it vs) = R := hR
  refine lv_aload_n hx hb d_Md_takeOut_0 rfl (lv_at hl 0 rfl) ?_
  refine lv_dup hx hb d_Md_takeOut_1 rfl ?_
  refine va_get (D := D) (ci := 9) (v := .int (nI n)) (C := R_Md) (T := F_Md) (N := 17) hx hb hg in_Md hown hK hP 0 rfl rfl 8 (Nat.le_of_ble_eq_true rfl) (hg _ tw_714) (fun _ h9 => h9) rfl d_Md_takeOut_2 ?_
  refine lv_iconst (v := 1) hx hb d_Md_takeOut_5 (by decide) ?_
  refine lv_isub hx hb d_Md_takeOut_6 ?_
  refine lv_topi (fun z9 e_z9 => ?_)
  obtain rfl : z9 = nI (n - 1) := by rw [e_z9]; exact (nI_sub (a := n) (b := 1) (by omega))
  refine va_put (D := D) (ci := 9) (v := .int (nI (n - 1))) (ty := .int) (C := R_Md) (T := F_Md) (N := 17) hx hb hg in_Md t_Md t_Md_ok n_Md hown hK hP hD hS 0 rfl rfl 8 (Nat.le_of_ble_eq_true rfl) (hg _ tw_714) (fun _ h9 => h9) rfl (by decide +kernel) rfl rfl (Nat.le_of_ble_eq_true rfl) d_Md_takeOut_7 (fun H locs hP hD hS => ?_)
  have hP : va_P D cls (wMo cI cJ cZ a code kn ed ct ti nm xa xb (nI (n - 1)) it vs se sm rs wk ors owk) H := hP
  have hD : va_D (blk a 15) (wMo cI cJ cZ a code kn ed ct ti nm xa xb (nI (n - 1)) it vs se sm rs wk ors owk) := hD
  refine lv_iload_n hx hb d_Md_takeOut_10 rfl (lv_at hl 1 rfl) ?_
  refine lv_istore_n (lv' := [(2, .int (nI pp)), (0, .ref a), (1, .int (nI pp))]) hx hb d_Md_takeOut_11 rfl hl (by decide) rfl (fun ls hl => ?_)
  exact key_12 (n - 1 - pp) pp it vs _ _ ls (by omega) hR hl hP hS

def f_Mo_nextOf_0 (n : Nat) : Nat := if n ≤ 0 then (0) else (0)
set_option maxHeartbeats 4000000 in
set_option maxRecDepth 100000 in
theorem m_Mo_nextOf_0 (l : Launch) (D : va_G) (cI cJ cZ cO : ClassId) (a : Nat) (code : Int32) (kn : Nat → Int32) (ed : Nat → Int32) (ct : Nat → Int32) (ti : Nat → Int32) (nm : Nat → Int32) (xa : Nat → Int32) (xb : Nat → Int32) (n : Nat) (it : Nat → Int32) (vs : Nat → Int32) (se : Nat → Int32) (sm : Int64) (rs : Nat → Int64) (wk : Nat → Int32) (ors : Nat → Int64) (owk : Nat → Int32) (hn : n ≤ 32) (h0 : 0 < n) (R : Nat) (hR : f_Mo_nextOf_0 n = R) : Met l y_Md_nextOf (k_Md_nextOf :: gt) rm_Md_nextOf (Pc0 D cI cJ cZ cO [.ref a, .int 0] (fun H => va_P D cls (wMo cI cJ cZ a code kn ed ct ti nm xa xb (nI n) it vs se sm rs wk ors owk) H)) (Qp (some (.int (nI R)))) 0 0 (fun _ => False) := by
  refine Met.ofW (cc := c_Md_nextOf) (maxL := 4) (ret := (Option.some FieldType.int)) (by decide) rfl ?_
  intro p e s m args below meth c s₁ B hml hv
  obtain ⟨rfl, hKn, hP⟩ := hv
  have hx := B.exec
  have hb := B.bytes
  have hr := B.returns
  have hts := atoms_spec (ws := k_Md_nextOf :: gt) B.pre
  have hg : ∀ w ∈ gt, w.before _ s = true := fun w h => hts w (List.mem_cons_of_mem _ h)
  have hown : s.vm.findClass R_Md = some m.cls := findClass_of_methodNamed B.named
  have hlocks := B.notSynchronized
  have hK := hKn.1
  have hl := lv_entry ([.ref a, .int 0]) (n := 4) (Nat.le_of_ble_eq_true rfl)
  rw [lg_entry_eq]
  generalize (lg_sl ([.ref a, .int 0]) ++ List.replicate (4 - (lg_sl ([.ref a, .int 0])).length) Slot.unset).toArray = ls at hl ⊢
  have hl : lv_has ls 4 [(0, .ref a), (1, .int 0)] := hl
  have hR : (if n ≤ 0 then (0) else (0)) = R := hR
  refine lv_iload_n hx hb d_Md_nextOf_0 rfl (lv_at hl 1 rfl) ?_
  refine lv_iconst (v := 1) hx hb d_Md_nextOf_1 (by decide) ?_
  refine lv_icmp_ne (tgt := 14) hx hb d_Md_nextOf_2 (by decide) (fun hc => ?_) (fun hc => False.elim (by revert hc; decide))
  refine lv_iconst (v := 0) hx hb d_Md_nextOf_14 (by decide) ?_
  refine lv_istore_n (lv' := [(2, .int 0), (0, .ref a), (1, .int 0)]) hx hb d_Md_nextOf_15 rfl hl (by decide) rfl (fun ls hl => ?_)
  refine lv_iconst (v := 0) hx hb d_Md_nextOf_16 (by decide) ?_
  refine lv_istore_n (lv' := [(3, .int 0), (2, .int 0), (0, .ref a), (1, .int 0)]) hx hb d_Md_nextOf_17 rfl hl (by decide) rfl (fun ls hl => ?_)
  refine lv_iload_n hx hb d_Md_nextOf_18 rfl (lv_at hl 0 rfl) ?_
  refine lv_aload_n hx hb d_Md_nextOf_19 rfl (lv_at hl 2 rfl) ?_
  refine va_get (D := D) (ci := 9) (v := .int (nI n)) (C := R_Md) (T := F_Md) (N := 17) hx hb hg in_Md hown hK hP 0 rfl rfl 8 (Nat.le_of_ble_eq_true rfl) (hg _ tw_714) (fun _ h9 => h9) rfl d_Md_nextOf_20 ?_
  refine lv_icmp_ge (tgt := 58) hx hb d_Md_nextOf_23 (by decide) (fun hc1 => ?_) (fun hc1 => ?_)
  · have hc1 : n ≤ 0 := (nI_leI (a := n) (b := 0) (by omega) (by omega)).mp hc1
    refine lv_iload_n hx hb d_Md_nextOf_58 rfl (lv_at hl 1 rfl) ?_
    rw [if_pos hc1] at hR
    subst hR
    exact W.iret (v := 0) hx hb hr (fun t9 ht hW => ⟨rfl, ht⟩) (fun q h => nomatch h) d_Md_nextOf_59
  · have hc1 : ¬ (n ≤ 0) := fun h9 => hc1 ((nI_leI (a := n) (b := 0) (by omega) (by omega)).mpr h9)
    refine lv_iload_n hx hb d_Md_nextOf_26 rfl (lv_at hl 3 rfl) ?_
    refine lv_iconst (v := 3) hx hb d_Md_nextOf_27 (by decide) ?_
    refine lv_icmp_ne (tgt := 58) hx hb d_Md_nextOf_28 (by decide) (fun hc => ?_) (fun hc => False.elim (by revert hc; decide))
    refine lv_iload_n hx hb d_Md_nextOf_58 rfl (lv_at hl 1 rfl) ?_
    rw [if_neg hc1] at hR
    subst hR
    exact W.iret (v := 0) hx hb hr (fun t9 ht hW => ⟨rfl, ht⟩) (fun q h => nomatch h) d_Md_nextOf_59

def f_Mo_nextOf_1 (n : Nat) : Nat := if n ≤ 0 then ((n - 1)) else ((n - 1))
set_option maxHeartbeats 4000000 in
set_option maxRecDepth 100000 in
theorem m_Mo_nextOf_1 (l : Launch) (D : va_G) (cI cJ cZ cO : ClassId) (a : Nat) (code : Int32) (kn : Nat → Int32) (ed : Nat → Int32) (ct : Nat → Int32) (ti : Nat → Int32) (nm : Nat → Int32) (xa : Nat → Int32) (xb : Nat → Int32) (n : Nat) (it : Nat → Int32) (vs : Nat → Int32) (se : Nat → Int32) (sm : Int64) (rs : Nat → Int64) (wk : Nat → Int32) (ors : Nat → Int64) (owk : Nat → Int32) (hn : n ≤ 32) (h0 : 0 < n) (R : Nat) (hR : f_Mo_nextOf_1 n = R) : Met l y_Md_nextOf (k_Md_nextOf :: gt) rm_Md_nextOf (Pc0 D cI cJ cZ cO [.ref a, .int 1] (fun H => va_P D cls (wMo cI cJ cZ a code kn ed ct ti nm xa xb (nI n) it vs se sm rs wk ors owk) H)) (Qp (some (.int (nI R)))) 0 0 (fun _ => False) := by
  refine Met.ofW (cc := c_Md_nextOf) (maxL := 4) (ret := (Option.some FieldType.int)) (by decide) rfl ?_
  intro p e s m args below meth c s₁ B hml hv
  obtain ⟨rfl, hKn, hP⟩ := hv
  have hx := B.exec
  have hb := B.bytes
  have hr := B.returns
  have hts := atoms_spec (ws := k_Md_nextOf :: gt) B.pre
  have hg : ∀ w ∈ gt, w.before _ s = true := fun w h => hts w (List.mem_cons_of_mem _ h)
  have hown : s.vm.findClass R_Md = some m.cls := findClass_of_methodNamed B.named
  have hlocks := B.notSynchronized
  have hK := hKn.1
  have hl := lv_entry ([.ref a, .int 1]) (n := 4) (Nat.le_of_ble_eq_true rfl)
  rw [lg_entry_eq]
  generalize (lg_sl ([.ref a, .int 1]) ++ List.replicate (4 - (lg_sl ([.ref a, .int 1])).length) Slot.unset).toArray = ls at hl ⊢
  have hl : lv_has ls 4 [(0, .ref a), (1, .int 1)] := hl
  have hR : (if n ≤ 0 then ((n - 1)) else ((n - 1))) = R := hR
  refine lv_iload_n hx hb d_Md_nextOf_0 rfl (lv_at hl 1 rfl) ?_
  refine lv_iconst (v := 1) hx hb d_Md_nextOf_1 (by decide) ?_
  refine lv_icmp_ne (tgt := 14) hx hb d_Md_nextOf_2 (by decide) (fun hc => False.elim (by revert hc; decide)) (fun hc => ?_)
  refine lv_aload_n hx hb d_Md_nextOf_5 rfl (lv_at hl 0 rfl) ?_
  refine va_get (D := D) (ci := 9) (v := .int (nI n)) (C := R_Md) (T := F_Md) (N := 17) hx hb hg in_Md hown hK hP 0 rfl rfl 8 (Nat.le_of_ble_eq_true rfl) (hg _ tw_714) (fun _ h9 => h9) rfl d_Md_nextOf_6 ?_
  refine lv_iconst (v := 1) hx hb d_Md_nextOf_9 (by decide) ?_
  refine lv_isub hx hb d_Md_nextOf_10 ?_
  refine lv_topi (fun z9 e_z9 => ?_)
  obtain rfl : z9 = nI (n - 1) := by rw [e_z9]; exact (nI_sub (a := n) (b := 1) (by omega))
  refine lv_goto (tgt := 15) hx hb d_Md_nextOf_11 (by decide) ?_
  refine lv_istore_n (lv' := [(2, .int (nI (n - 1))), (0, .ref a), (1, .int 1)]) hx hb d_Md_nextOf_15 rfl hl (by decide) rfl (fun ls hl => ?_)
  refine lv_iconst (v := 0) hx hb d_Md_nextOf_16 (by decide) ?_
  refine lv_istore_n (lv' := [(3, .int 0), (2, .int (nI (n - 1))), (0, .ref a), (1, .int 1)]) hx hb d_Md_nextOf_17 rfl hl (by decide) rfl (fun ls hl => ?_)
  refine lv_iload_n hx hb d_Md_nextOf_18 rfl (lv_at hl 0 rfl) ?_
  refine lv_aload_n hx hb d_Md_nextOf_19 rfl (lv_at hl 2 rfl) ?_
  refine va_get (D := D) (ci := 9) (v := .int (nI n)) (C := R_Md) (T := F_Md) (N := 17) hx hb hg in_Md hown hK hP 0 rfl rfl 8 (Nat.le_of_ble_eq_true rfl) (hg _ tw_714) (fun _ h9 => h9) rfl d_Md_nextOf_20 ?_
  refine lv_icmp_ge (tgt := 58) hx hb d_Md_nextOf_23 (by decide) (fun hc1 => ?_) (fun hc1 => ?_)
  · have hc1 : n ≤ 0 := (nI_leI (a := n) (b := 0) (by omega) (by omega)).mp hc1
    refine lv_iload_n hx hb d_Md_nextOf_58 rfl (lv_at hl 1 rfl) ?_
    rw [if_pos hc1] at hR
    subst hR
    exact W.iret (v := (nI (n - 1))) hx hb hr (fun t9 ht hW => ⟨rfl, ht⟩) (fun q h => nomatch h) d_Md_nextOf_59
  · have hc1 : ¬ (n ≤ 0) := fun h9 => hc1 ((nI_leI (a := n) (b := 0) (by omega) (by omega)).mpr h9)
    refine lv_iload_n hx hb d_Md_nextOf_26 rfl (lv_at hl 3 rfl) ?_
    refine lv_iconst (v := 3) hx hb d_Md_nextOf_27 (by decide) ?_
    refine lv_icmp_ne (tgt := 58) hx hb d_Md_nextOf_28 (by decide) (fun hc => ?_) (fun hc => False.elim (by revert hc; decide))
    refine lv_iload_n hx hb d_Md_nextOf_58 rfl (lv_at hl 1 rfl) ?_
    rw [if_neg hc1] at hR
    subst hR
    exact W.iret (v := (nI (n - 1))) hx hb hr (fun t9 ht hW => ⟨rfl, ht⟩) (fun q h => nomatch h) d_Md_nextOf_59

def g_Mo_nextOf_3_18 (it : Nat → Int32) : Nat → Nat → Nat → Nat
  | 0, i, at9 => at9
  | k + 1, i, at9 => if (it at9) ≤ (it i) then (g_Mo_nextOf_3_18 it k (i + 1) at9) else (g_Mo_nextOf_3_18 it k (i + 1) i)

def f_Mo_nextOf_3 (n : Nat) (it : Nat → Int32) : Nat := g_Mo_nextOf_3_18 it n 0 0
set_option maxHeartbeats 4000000 in
set_option maxRecDepth 100000 in
theorem m_Mo_nextOf_3 (l : Launch) (D : va_G) (cI cJ cZ cO : ClassId) (a : Nat) (code : Int32) (kn : Nat → Int32) (ed : Nat → Int32) (ct : Nat → Int32) (ti : Nat → Int32) (nm : Nat → Int32) (xa : Nat → Int32) (xb : Nat → Int32) (n : Nat) (it : Nat → Int32) (vs : Nat → Int32) (se : Nat → Int32) (sm : Int64) (rs : Nat → Int64) (wk : Nat → Int32) (ors : Nat → Int64) (owk : Nat → Int32) (hn : n ≤ 32) (h0 : 0 < n) (R : Nat) (hR : f_Mo_nextOf_3 n it = R) : Met l y_Md_nextOf (k_Md_nextOf :: gt) rm_Md_nextOf (Pc0 D cI cJ cZ cO [.ref a, .int 3] (fun H => va_P D cls (wMo cI cJ cZ a code kn ed ct ti nm xa xb (nI n) it vs se sm rs wk ors owk) H)) (Qp (some (.int (nI R)))) 0 0 (fun _ => False) := by
  refine Met.ofW (cc := c_Md_nextOf) (maxL := 4) (ret := (Option.some FieldType.int)) (by decide) rfl ?_
  intro p e s m args below meth c s₁ B hml hv
  obtain ⟨rfl, hKn, hP⟩ := hv
  have hx := B.exec
  have hb := B.bytes
  have hr := B.returns
  have hts := atoms_spec (ws := k_Md_nextOf :: gt) B.pre
  have hg : ∀ w ∈ gt, w.before _ s = true := fun w h => hts w (List.mem_cons_of_mem _ h)
  have hown : s.vm.findClass R_Md = some m.cls := findClass_of_methodNamed B.named
  have hlocks := B.notSynchronized
  have hK := hKn.1
  have hl := lv_entry ([.ref a, .int 3]) (n := 4) (Nat.le_of_ble_eq_true rfl)
  rw [lg_entry_eq]
  generalize (lg_sl ([.ref a, .int 3]) ++ List.replicate (4 - (lg_sl ([.ref a, .int 3])).length) Slot.unset).toArray = ls at hl ⊢
  have hl : lv_has ls 4 [(0, .ref a), (1, .int 3)] := hl
  have key_18 : ∀ (k : Nat) (i : Nat) (at9 : Nat) (ls : Array Slot), i + k = n → at9 ≤ i → g_Mo_nextOf_3_18 it k i at9 = R → lv_has ls 4 [(3, .int (nI i)), (2, .int (nI at9)), (0, .ref a), (1, .int 3)] → W p l e (headSpec (k_Md_nextOf :: gt) rm_Md_nextOf).room s m ([.ref a, .int 3] : List Value).toArray below meth c s.heap [] 0 0 (MQ below (Qp (some (.int (nI R)))) ([.ref a, .int 3] : List Value).toArray s 0 0 (fun _ => False)) (F0 m 18 ls []) := by
    intro k
    induction k with
    | zero =>
      intro i at9 ls hi ha hR hl
      have hR : (at9) = R := hR
      refine lv_iload_n hx hb d_Md_nextOf_18 rfl (lv_at hl 0 rfl) ?_
      refine lv_aload_n hx hb d_Md_nextOf_19 rfl (lv_at hl 2 rfl) ?_
      refine va_get (D := D) (ci := 9) (v := .int (nI n)) (C := R_Md) (T := F_Md) (N := 17) hx hb hg in_Md hown hK hP 0 rfl rfl 8 (Nat.le_of_ble_eq_true rfl) (hg _ tw_714) (fun _ h9 => h9) rfl d_Md_nextOf_20 ?_
      refine lv_icmp_ge (tgt := 58) hx hb d_Md_nextOf_23 (by decide) (fun hc => ?_) (fun hc => False.elim (by have hc : ¬ (n ≤ i) := fun h => hc (by exact (nI_leI (a := n) (b := i) (by omega) (by omega)).mpr h); omega))
      refine lv_iload_n hx hb d_Md_nextOf_58 rfl (lv_at hl 1 rfl) ?_
      subst hR
      exact W.iret (v := (nI at9)) hx hb hr (fun t9 ht hW => ⟨rfl, ht⟩) (fun q h => nomatch h) d_Md_nextOf_59
    | succ k ih =>
      intro i at9 ls hi ha hR hl
      have hR : (if (it at9) ≤ (it i) then (g_Mo_nextOf_3_18 it k (i + 1) at9) else (g_Mo_nextOf_3_18 it k (i + 1) i)) = R := hR
      refine lv_iload_n hx hb d_Md_nextOf_18 rfl (lv_at hl 0 rfl) ?_
      refine lv_aload_n hx hb d_Md_nextOf_19 rfl (lv_at hl 2 rfl) ?_
      refine va_get (D := D) (ci := 9) (v := .int (nI n)) (C := R_Md) (T := F_Md) (N := 17) hx hb hg in_Md hown hK hP 0 rfl rfl 8 (Nat.le_of_ble_eq_true rfl) (hg _ tw_714) (fun _ h9 => h9) rfl d_Md_nextOf_20 ?_
      refine lv_icmp_ge (tgt := 58) hx hb d_Md_nextOf_23 (by decide) (fun hc => False.elim (by have hc := (nI_leI (a := n) (b := i) (by omega) (by omega)).mp hc; omega)) (fun hc => ?_)
      refine lv_iload_n hx hb d_Md_nextOf_26 rfl (lv_at hl 3 rfl) ?_
      refine lv_iconst (v := 3) hx hb d_Md_nextOf_27 (by decide) ?_
      refine lv_icmp_ne (tgt := 58) hx hb d_Md_nextOf_28 (by decide) (fun hc => False.elim (by revert hc; decide)) (fun hc => ?_)
      refine lv_aload_n hx hb d_Md_nextOf_31 rfl (lv_at hl 2 rfl) ?_
      refine va_get (D := D) (ci := 9) (v := .ref (a + 8)) (C := R_Md) (T := F_Md) (N := 17) hx hb hg in_Md hown hK hP 0 rfl rfl 9 (Nat.le_of_ble_eq_true rfl) (hg _ tw_715) (fun _ h9 => h9) rfl d_Md_nextOf_32 ?_
      refine lv_iload_n hx hb d_Md_nextOf_35 rfl (lv_at hl 0 rfl) ?_
      refine ep_iald hx hb hK hP 8 0 rfl rfl (i := i) (by omega) (by decide) d_Md_nextOf_36 ?_
      refine lv_aload_n hx hb d_Md_nextOf_37 rfl (lv_at hl 2 rfl) ?_
      refine va_get (D := D) (ci := 9) (v := .ref (a + 8)) (C := R_Md) (T := F_Md) (N := 17) hx hb hg in_Md hown hK hP 0 rfl rfl 9 (Nat.le_of_ble_eq_true rfl) (hg _ tw_715) (fun _ h9 => h9) rfl d_Md_nextOf_38 ?_
      refine lv_iload_n hx hb d_Md_nextOf_41 rfl (lv_at hl 1 rfl) ?_
      refine ep_iald hx hb hK hP 8 0 rfl rfl (i := at9) (by omega) (by decide) d_Md_nextOf_42 ?_
      refine lv_icmp_ge (tgt := 50) hx hb d_Md_nextOf_43 (by decide) (fun hc1 => ?_) (fun hc1 => ?_)
      · have hc1 : (it at9) ≤ (it i) := hc1
        refine lv_iload_n hx hb d_Md_nextOf_50 rfl (lv_at hl 1 rfl) ?_
        refine lv_istore_n (lv' := [(2, .int (nI at9)), (3, .int (nI i)), (0, .ref a), (1, .int 3)]) hx hb d_Md_nextOf_51 rfl hl (by decide) rfl (fun ls hl => ?_)
        refine lv_iinc (k := 1) (lv' := [(3, .int (nI (i + 1))), (2, .int (nI at9)), (0, .ref a), (1, .int 3)]) hx hb d_Md_nextOf_52 hl rfl (inc1 _) (by decide) rfl (fun ls hl => ?_)
        refine lv_goto (tgt := 18) hx hb d_Md_nextOf_55 (by decide) ?_
        rw [if_pos hc1] at hR
        exact ih (i + 1) at9 ls (by omega) (by omega) hR hl
      · have hc1 : ¬ ((it at9) ≤ (it i)) := hc1
        refine lv_iload_n hx hb d_Md_nextOf_46 rfl (lv_at hl 0 rfl) ?_
        refine lv_goto (tgt := 51) hx hb d_Md_nextOf_47 (by decide) ?_
        refine lv_istore_n (lv' := [(2, .int (nI i)), (3, .int (nI i)), (0, .ref a), (1, .int 3)]) hx hb d_Md_nextOf_51 rfl hl (by decide) rfl (fun ls hl => ?_)
        refine lv_iinc (k := 1) (lv' := [(3, .int (nI (i + 1))), (2, .int (nI i)), (0, .ref a), (1, .int 3)]) hx hb d_Md_nextOf_52 hl rfl (inc1 _) (by decide) rfl (fun ls hl => ?_)
        refine lv_goto (tgt := 18) hx hb d_Md_nextOf_55 (by decide) ?_
        rw [if_neg hc1] at hR
        exact ih (i + 1) i ls (by omega) (by omega) hR hl
  have hR : (g_Mo_nextOf_3_18 it n 0 0) = R := hR
  refine lv_iload_n hx hb d_Md_nextOf_0 rfl (lv_at hl 1 rfl) ?_
  refine lv_iconst (v := 1) hx hb d_Md_nextOf_1 (by decide) ?_
  refine lv_icmp_ne (tgt := 14) hx hb d_Md_nextOf_2 (by decide) (fun hc => ?_) (fun hc => False.elim (by revert hc; decide))
  refine lv_iconst (v := 0) hx hb d_Md_nextOf_14 (by decide) ?_
  refine lv_istore_n (lv' := [(2, .int 0), (0, .ref a), (1, .int 3)]) hx hb d_Md_nextOf_15 rfl hl (by decide) rfl (fun ls hl => ?_)
  refine lv_iconst (v := 0) hx hb d_Md_nextOf_16 (by decide) ?_
  refine lv_istore_n (lv' := [(3, .int 0), (2, .int 0), (0, .ref a), (1, .int 3)]) hx hb d_Md_nextOf_17 rfl hl (by decide) rfl (fun ls hl => ?_)
  exact key_18 n 0 0 ls (by omega) (by omega) hR hl

def g_Mo_keyAt_4 (it : Nat → Int32) (x : Int32) : Nat → Nat → Int32 → Int32
  | 0, i, at9 => at9
  | k + 1, i, at9 => if (it i) = x then (g_Mo_keyAt_4 it x k (i + 1) (nI i)) else (g_Mo_keyAt_4 it x k (i + 1) at9)

def f_Mo_keyAt (n : Nat) (it : Nat → Int32) (x : Int32) : Int32 := g_Mo_keyAt_4 it x n 0 (-1)
set_option maxHeartbeats 4000000 in
set_option maxRecDepth 100000 in
theorem m_Mo_keyAt (l : Launch) (D : va_G) (cI cJ cZ cO : ClassId) (a : Nat) (code : Int32) (kn : Nat → Int32) (ed : Nat → Int32) (ct : Nat → Int32) (ti : Nat → Int32) (nm : Nat → Int32) (xa : Nat → Int32) (xb : Nat → Int32) (n : Nat) (it : Nat → Int32) (vs : Nat → Int32) (se : Nat → Int32) (sm : Int64) (rs : Nat → Int64) (wk : Nat → Int32) (ors : Nat → Int64) (owk : Nat → Int32) (x : Int32) (hn : n ≤ 32) (R : Int32) (hR : f_Mo_keyAt n it x = R) : Met l y_Md_keyAt (k_Md_keyAt :: gt) rm_Md_keyAt (Pc0 D cI cJ cZ cO [.ref a, .int x] (fun H => va_P D cls (wMo cI cJ cZ a code kn ed ct ti nm xa xb (nI n) it vs se sm rs wk ors owk) H)) (Qp (some (.int R))) 0 0 (fun _ => False) := by
  refine Met.ofW (cc := c_Md_keyAt) (maxL := 4) (ret := (Option.some FieldType.int)) (by decide) rfl ?_
  intro p e s m args below meth c s₁ B hml hv
  obtain ⟨rfl, hKn, hP⟩ := hv
  have hx := B.exec
  have hb := B.bytes
  have hr := B.returns
  have hts := atoms_spec (ws := k_Md_keyAt :: gt) B.pre
  have hg : ∀ w ∈ gt, w.before _ s = true := fun w h => hts w (List.mem_cons_of_mem _ h)
  have hown : s.vm.findClass R_Md = some m.cls := findClass_of_methodNamed B.named
  have hlocks := B.notSynchronized
  have hK := hKn.1
  have hl := lv_entry ([.ref a, .int x]) (n := 4) (Nat.le_of_ble_eq_true rfl)
  rw [lg_entry_eq]
  generalize (lg_sl ([.ref a, .int x]) ++ List.replicate (4 - (lg_sl ([.ref a, .int x])).length) Slot.unset).toArray = ls at hl ⊢
  have hl : lv_has ls 4 [(0, .ref a), (1, .int x)] := hl
  have key_4 : ∀ (k : Nat) (i : Nat) (at9 : Int32) (ls : Array Slot), i + k = n → g_Mo_keyAt_4 it x k i at9 = R → lv_has ls 4 [(3, .int (nI i)), (2, .int at9), (0, .ref a), (1, .int x)] → W p l e (headSpec (k_Md_keyAt :: gt) rm_Md_keyAt).room s m ([.ref a, .int x] : List Value).toArray below meth c s.heap [] 0 0 (MQ below (Qp (some (.int R))) ([.ref a, .int x] : List Value).toArray s 0 0 (fun _ => False)) (F0 m 4 ls []) := by
    intro k
    induction k with
    | zero =>
      intro i at9 ls hi hR hl
      have hR : (at9) = R := hR
      refine lv_iload_n hx hb d_Md_keyAt_4 rfl (lv_at hl 0 rfl) ?_
      refine lv_aload_n hx hb d_Md_keyAt_5 rfl (lv_at hl 2 rfl) ?_
      refine va_get (D := D) (ci := 9) (v := .int (nI n)) (C := R_Md) (T := F_Md) (N := 17) hx hb hg in_Md hown hK hP 0 rfl rfl 8 (Nat.le_of_ble_eq_true rfl) (hg _ tw_714) (fun _ h9 => h9) rfl d_Md_keyAt_6 ?_
      refine lv_icmp_ge (tgt := 34) hx hb d_Md_keyAt_9 (by decide) (fun hc => ?_) (fun hc => False.elim (by have hc : ¬ (n ≤ i) := fun h => hc (by exact (nI_leI (a := n) (b := i) (by omega) (by omega)).mpr h); omega))
      refine lv_iload_n hx hb d_Md_keyAt_34 rfl (lv_at hl 1 rfl) ?_
      subst hR
      exact W.iret (v := at9) hx hb hr (fun t9 ht hW => ⟨rfl, ht⟩) (fun q h => nomatch h) d_Md_keyAt_35
    | succ k ih =>
      intro i at9 ls hi hR hl
      have hR : (if (it i) = x then (g_Mo_keyAt_4 it x k (i + 1) (nI i)) else (g_Mo_keyAt_4 it x k (i + 1) at9)) = R := hR
      refine lv_iload_n hx hb d_Md_keyAt_4 rfl (lv_at hl 0 rfl) ?_
      refine lv_aload_n hx hb d_Md_keyAt_5 rfl (lv_at hl 2 rfl) ?_
      refine va_get (D := D) (ci := 9) (v := .int (nI n)) (C := R_Md) (T := F_Md) (N := 17) hx hb hg in_Md hown hK hP 0 rfl rfl 8 (Nat.le_of_ble_eq_true rfl) (hg _ tw_714) (fun _ h9 => h9) rfl d_Md_keyAt_6 ?_
      refine lv_icmp_ge (tgt := 34) hx hb d_Md_keyAt_9 (by decide) (fun hc => False.elim (by have hc := (nI_leI (a := n) (b := i) (by omega) (by omega)).mp hc; omega)) (fun hc => ?_)
      refine lv_aload_n hx hb d_Md_keyAt_12 rfl (lv_at hl 2 rfl) ?_
      refine va_get (D := D) (ci := 9) (v := .ref (a + 8)) (C := R_Md) (T := F_Md) (N := 17) hx hb hg in_Md hown hK hP 0 rfl rfl 9 (Nat.le_of_ble_eq_true rfl) (hg _ tw_715) (fun _ h9 => h9) rfl d_Md_keyAt_13 ?_
      refine lv_iload_n hx hb d_Md_keyAt_16 rfl (lv_at hl 0 rfl) ?_
      refine ep_iald hx hb hK hP 8 0 rfl rfl (i := i) (by omega) (by decide) d_Md_keyAt_17 ?_
      refine lv_iload_n hx hb d_Md_keyAt_18 rfl (lv_at hl 3 rfl) ?_
      refine lv_icmp_ne (tgt := 26) hx hb d_Md_keyAt_19 (by decide) (fun hc1 => ?_) (fun hc1 => ?_)
      · have hc1 : ¬ ((it i) = x) := hc1
        refine lv_iload_n hx hb d_Md_keyAt_26 rfl (lv_at hl 1 rfl) ?_
        refine lv_istore_n (lv' := [(2, .int at9), (3, .int (nI i)), (0, .ref a), (1, .int x)]) hx hb d_Md_keyAt_27 rfl hl (by decide) rfl (fun ls hl => ?_)
        refine lv_iinc (k := 1) (lv' := [(3, .int (nI (i + 1))), (2, .int at9), (0, .ref a), (1, .int x)]) hx hb d_Md_keyAt_28 hl rfl (inc1 _) (by decide) rfl (fun ls hl => ?_)
        refine lv_goto (tgt := 4) hx hb d_Md_keyAt_31 (by decide) ?_
        rw [if_neg hc1] at hR
        exact ih (i + 1) at9 ls (by omega) hR hl
      · have hc1 : (it i) = x := hc1
        refine lv_iload_n hx hb d_Md_keyAt_22 rfl (lv_at hl 0 rfl) ?_
        refine lv_goto (tgt := 27) hx hb d_Md_keyAt_23 (by decide) ?_
        refine lv_istore_n (lv' := [(2, .int (nI i)), (3, .int (nI i)), (0, .ref a), (1, .int x)]) hx hb d_Md_keyAt_27 rfl hl (by decide) rfl (fun ls hl => ?_)
        refine lv_iinc (k := 1) (lv' := [(3, .int (nI (i + 1))), (2, .int (nI i)), (0, .ref a), (1, .int x)]) hx hb d_Md_keyAt_28 hl rfl (inc1 _) (by decide) rfl (fun ls hl => ?_)
        refine lv_goto (tgt := 4) hx hb d_Md_keyAt_31 (by decide) ?_
        rw [if_pos hc1] at hR
        exact ih (i + 1) (nI i) ls (by omega) hR hl
  have hR : (g_Mo_keyAt_4 it x n 0 (-1)) = R := hR
  refine lv_iconst (v := (-1)) hx hb d_Md_keyAt_0 (by decide) ?_
  refine lv_istore_n (lv' := [(2, .int (-1)), (0, .ref a), (1, .int x)]) hx hb d_Md_keyAt_1 rfl hl (by decide) rfl (fun ls hl => ?_)
  refine lv_iconst (v := 0) hx hb d_Md_keyAt_2 (by decide) ?_
  refine lv_istore_n (lv' := [(3, .int 0), (2, .int (-1)), (0, .ref a), (1, .int x)]) hx hb d_Md_keyAt_3 rfl hl (by decide) rfl (fun ls hl => ?_)
  exact key_4 n 0 (-1) ls (by omega) hR hl
