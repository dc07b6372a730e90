/-! by wip/whole/gen/line2.py -/
def g_Li_firstDifference_13 (n : Nat) (mo : Nat → Int32) (re : Nat → Int64) (ef : Nat → Int32) (n2 : Nat) (mo2 : Nat → Int32) (re2 : Nat → Int64) (ef2 : Nat → Int32) : Nat → Nat → Nat → Int32
  | 0, i, i2 => (if (if i2 < n2 then mo2 i2 else 1000000001) < (if i < n then mo i else 1000000001) then (if i2 < n2 then mo2 i2 else 1000000001) else (if i < n then mo i else 1000000001))
  | k + 1, i, i2 => if n2 ≤ i2 then ((if (if i2 < n2 then mo2 i2 else 1000000001) < (if i < n then mo i else 1000000001) then (if i2 < n2 then mo2 i2 else 1000000001) else (if i < n then mo i else 1000000001))) else (if mo i = mo2 i2 ∧ re i = re2 i2 ∧ ef i = ef2 i2 then (g_Li_firstDifference_13 n mo re ef n2 mo2 re2 ef2 k (i + 1) (i2 + 1)) else ((if (if i2 < n2 then mo2 i2 else 1000000001) < (if i < n then mo i else 1000000001) then (if i2 < n2 then mo2 i2 else 1000000001) else (if i < n then mo i else 1000000001))))

def f_Li_firstDifference (n : Nat) (mo : Nat → Int32) (re : Nat → Int64) (ef : Nat → Int32) (n2 : Nat) (mo2 : Nat → Int32) (re2 : Nat → Int64) (ef2 : Nat → Int32) (t : Int32) : Int32 := g_Li_firstDifference_13 n mo re ef n2 mo2 re2 ef2 (n - pfr mo t n 0) (pfr mo t n 0) (pfr mo2 t n2 0)
set_option maxHeartbeats 4000000 in
set_option maxRecDepth 100000 in
theorem m_Li_firstDifference (l : Launch) (D : va_G) (cI cJ cZ cO : ClassId) (a : Nat) (n : Nat) (mo : Nat → Int32) (na : Nat → Int32) (aa : Nat → Int32) (bb : Nat → Int32) (re : Nat → Int64) (ef : Nat → Int32) (b : Nat) (n2 : Nat) (mo2 : Nat → Int32) (na2 : Nat → Int32) (aa2 : Nat → Int32) (bb2 : Nat → Int32) (re2 : Nat → Int64) (ef2 : Nat → Int32) (t : Int32) (hn : n ≤ 32) (hn2 : n2 ≤ 32) (R : Int32) (hR : f_Li_firstDifference n mo re ef n2 mo2 re2 ef2 t = R) : Met l y_Li_firstDifference (k_Li_firstDifference :: gt) rm_Li_firstDifference (Pc0 D cI cJ cZ cO [.ref a, .ref b, .int t] (fun H => va_P D cls (wLi cI cJ cZ a n mo na aa bb re ef) H ∧ va_P D cls (wLi cI cJ cZ b n2 mo2 na2 aa2 bb2 re2 ef2) H)) (Qp (some (.int R))) 0 0 (fun _ => False) := by
  refine Met.ofW (cc := c_Li_firstDifference) (maxL := 5) (ret := (Option.some FieldType.int)) (by decide) rfl ?_
  intro p e s m args below meth c s₁ B hml hv
  obtain ⟨rfl, hKn, hP, hP2⟩ := hv
  have hx := B.exec
  have hb := B.bytes
  have hr := B.returns
  have hts := atoms_spec (ws := k_Li_firstDifference :: gt) B.pre
  have hg : ∀ w ∈ gt, w.before _ s = true := fun w h => hts w (List.mem_cons_of_mem _ h)
  have hown : s.vm.findClass R_Li = some m.cls := findClass_of_methodNamed B.named
  have hlocks := B.notSynchronized
  have hK := hKn.1
  have hl := lv_entry ([.ref a, .ref b, .int t]) (n := 5) (Nat.le_of_ble_eq_true rfl)
  rw [lg_entry_eq]
  generalize (lg_sl ([.ref a, .ref b, .int t]) ++ List.replicate (5 - (lg_sl ([.ref a, .ref b, .int t])).length) Slot.unset).toArray = ls at hl ⊢
  have hl : lv_has ls 5 [(0, .ref a), (1, .ref b), (2, .int t)] := hl
  have key_13 : ∀ (k : Nat) (i : Nat) (i2 : Nat) (ls : Array Slot), i + k = n → i2 ≤ n2 → g_Li_firstDifference_13 n mo re ef n2 mo2 re2 ef2 k i i2 = R → lv_has ls 5 [(3, .int (nI i)), (4, .int (nI i2)), (0, .ref a), (1, .ref b), (2, .int t)] → W p l e (headSpec (k_Li_firstDifference :: gt) rm_Li_firstDifference).room s m ([.ref a, .ref b, .int t] : List Value).toArray below meth c s.heap [] 0 0 (MQ below (Qp (some (.int R))) ([.ref a, .ref b, .int t] : List Value).toArray s 0 0 (fun _ => False)) (F0 m 13 ls []) := by
    intro k
    induction k with
    | zero =>
      intro i i2 ls hi hi2 hR hl
      have hR : ((if (if i2 < n2 then mo2 i2 else 1000000001) < (if i < n then mo i else 1000000001) then (if i2 < n2 then mo2 i2 else 1000000001) else (if i < n then mo i else 1000000001))) = R := hR
      refine lv_iload_n hx hb d_Li_firstDifference_13 rfl (lv_at hl 0 rfl) ?_
      refine lv_aload_n hx hb d_Li_firstDifference_14 rfl (lv_at hl 2 rfl) ?_
      refine va_get (D := D) (ci := 1) (v := .int (nI n)) (C := R_Li) (T := F_Li) (N := 7) hx hb hg in_Li hown hK hP 0 rfl rfl 0 (Nat.le_of_ble_eq_true rfl) (hg _ tw_43) (fun _ h9 => h9) rfl d_Li_firstDifference_15 ?_
      refine lv_icmp_ge (tgt := 50) hx hb d_Li_firstDifference_18 (by decide) (fun hc => ?_) (fun hc => False.elim (by have hc : ¬ (n ≤ i) := fun h => hc (by exact (nI_leI (a := n) (b := i) (by omega) (by omega)).mpr h); omega))
      refine lv_aload_n hx hb d_Li_firstDifference_50 rfl (lv_at hl 2 rfl) ?_
      refine lv_iload_n hx hb d_Li_firstDifference_51 rfl (lv_at hl 0 rfl) ?_
      refine ep_callP (W.runV (As := [.int (nI i)]) (rest := []) ⟨hx, hb, hml, hown, hg⟩ (m_Li_momentOrNever l D cI cJ cZ cO a n mo na aa bb re ef i (by omega) (by omega)) (ep_cwV 1 hg tw_676 tw_678 ts_8 tw_3 tk_Li_momentOrNever rfl rfl (by decide +kernel) ⟨(Nat.le_of_ble_eq_true rfl), (Nat.le_of_ble_eq_true rfl)⟩) ⟨ep_blind, va_recv (q0 := 0) (ci := 1) hK hP rfl rfl, ep_pre hKn (hP)⟩ rfl rfl hl.1 rfl (lv_room (Nat.le_of_ble_eq_true rfl)) d_Li_firstDifference_52 ⟨Nat.zero_le _, Nat.zero_le _⟩) ?_
      refine W.eq (g2 := F0 m 55 ls [.int (if i < n then mo i else 1000000001)]) rfl ?_
      refine lv_aload_n hx hb d_Li_firstDifference_55 rfl (lv_at hl 3 rfl) ?_
      refine lv_iload hx hb d_Li_firstDifference_56 (lv_at hl 1 rfl) ?_
      refine ep_callP (W.runV (As := [.int (nI i2)]) (rest := [.int (if i < n then mo i else 1000000001)]) ⟨hx, hb, hml, hown, hg⟩ (m_Li_momentOrNever l D cI cJ cZ cO b n2 mo2 na2 aa2 bb2 re2 ef2 i2 (by omega) (by omega)) (ep_cwV 1 hg tw_676 tw_678 ts_8 tw_3 tk_Li_momentOrNever rfl rfl (by decide +kernel) ⟨(Nat.le_of_ble_eq_true rfl), (Nat.le_of_ble_eq_true rfl)⟩) ⟨ep_blind, va_recv (q0 := 0) (ci := 1) hK hP2 rfl rfl, ep_pre hKn (hP2)⟩ rfl rfl hl.1 rfl (lv_room (Nat.le_of_ble_eq_true rfl)) d_Li_firstDifference_58 ⟨Nat.zero_le _, Nat.zero_le _⟩) ?_
      refine W.eq (g2 := F0 m 61 ls [.int (if i2 < n2 then mo2 i2 else 1000000001), .int (if i < n then mo i else 1000000001)]) rfl ?_
      refine va_mmin hx hb (hml.trans hl.1.symm) hown (hg _ tw_681) (hg _ tw_682) (hg _ tw_19) (hg _ tk_Ma_min) (Nat.le_of_ble_eq_true rfl) (Nat.le_of_ble_eq_true rfl) (Nat.le_of_ble_eq_true rfl) (Nat.le_of_ble_eq_true rfl) d_Li_firstDifference_61 ?_
      subst hR
      exact W.iret (v := (if (if i2 < n2 then mo2 i2 else 1000000001) < (if i < n then mo i else 1000000001) then (if i2 < n2 then mo2 i2 else 1000000001) else (if i < n then mo i else 1000000001))) hx hb hr (fun t9 ht hW => ⟨rfl, ht⟩) (fun q h => nomatch h) d_Li_firstDifference_64
    | succ k ih =>
      intro i i2 ls hi hi2 hR hl
      have hR : (if n2 ≤ i2 then ((if (if i2 < n2 then mo2 i2 else 1000000001) < (if i < n then mo i else 1000000001) then (if i2 < n2 then mo2 i2 else 1000000001) else (if i < n then mo i else 1000000001))) else (if mo i = mo2 i2 ∧ re i = re2 i2 ∧ ef i = ef2 i2 then (g_Li_firstDifference_13 n mo re ef n2 mo2 re2 ef2 k (i + 1) (i2 + 1)) else ((if (if i2 < n2 then mo2 i2 else 1000000001) < (if i < n then mo i else 1000000001) then (if i2 < n2 then mo2 i2 else 1000000001) else (if i < n then mo i else 1000000001))))) = R := hR
      refine lv_iload_n hx hb d_Li_firstDifference_13 rfl (lv_at hl 0 rfl) ?_
      refine lv_aload_n hx hb d_Li_firstDifference_14 rfl (lv_at hl 2 rfl) ?_
      refine va_get (D := D) (ci := 1) (v := .int (nI n)) (C := R_Li) (T := F_Li) (N := 7) hx hb hg in_Li hown hK hP 0 rfl rfl 0 (Nat.le_of_ble_eq_true rfl) (hg _ tw_43) (fun _ h9 => h9) rfl d_Li_firstDifference_15 ?_
      refine lv_icmp_ge (tgt := 50) hx hb d_Li_firstDifference_18 (by decide) (fun hc => False.elim (by have hc := (nI_leI (a := n) (b := i) (by omega) (by omega)).mp hc; omega)) (fun hc => ?_)
      refine lv_iload hx hb d_Li_firstDifference_21 (lv_at hl 1 rfl) ?_
      refine lv_aload_n hx hb d_Li_firstDifference_23 rfl (lv_at hl 3 rfl) ?_
      refine va_get (D := D) (ci := 1) (v := .int (nI n2)) (C := R_Li) (T := F_Li) (N := 7) hx hb hg in_Li hown hK hP2 0 rfl rfl 0 (Nat.le_of_ble_eq_true rfl) (hg _ tw_43) (fun _ h9 => h9) rfl d_Li_firstDifference_24 ?_
      refine lv_icmp_ge (tgt := 50) hx hb d_Li_firstDifference_27 (by decide) (fun hc1 => ?_) (fun hc1 => ?_)
      · have hc1 : n2 ≤ i2 := (nI_leI (a := n2) (b := i2) (by omega) (by omega)).mp hc1
        refine lv_aload_n hx hb d_Li_firstDifference_50 rfl (lv_at hl 2 rfl) ?_
        refine lv_iload_n hx hb d_Li_firstDifference_51 rfl (lv_at hl 0 rfl) ?_
        refine ep_callP (W.runV (As := [.int (nI i)]) (rest := []) ⟨hx, hb, hml, hown, hg⟩ (m_Li_momentOrNever l D cI cJ cZ cO a n mo na aa bb re ef i (by omega) (by omega)) (ep_cwV 1 hg tw_676 tw_678 ts_8 tw_3 tk_Li_momentOrNever rfl rfl (by decide +kernel) ⟨(Nat.le_of_ble_eq_true rfl), (Nat.le_of_ble_eq_true rfl)⟩) ⟨ep_blind, va_recv (q0 := 0) (ci := 1) hK hP rfl rfl, ep_pre hKn (hP)⟩ rfl rfl hl.1 rfl (lv_room (Nat.le_of_ble_eq_true rfl)) d_Li_firstDifference_52 ⟨Nat.zero_le _, Nat.zero_le _⟩) ?_
        refine W.eq (g2 := F0 m 55 ls [.int (if i < n then mo i else 1000000001)]) rfl ?_
        refine lv_aload_n hx hb d_Li_firstDifference_55 rfl (lv_at hl 3 rfl) ?_
        refine lv_iload hx hb d_Li_firstDifference_56 (lv_at hl 1 rfl) ?_
        refine ep_callP (W.runV (As := [.int (nI i2)]) (rest := [.int (if i < n then mo i else 1000000001)]) ⟨hx, hb, hml, hown, hg⟩ (m_Li_momentOrNever l D cI cJ cZ cO b n2 mo2 na2 aa2 bb2 re2 ef2 i2 (by omega) (by omega)) (ep_cwV 1 hg tw_676 tw_678 ts_8 tw_3 tk_Li_momentOrNever rfl rfl (by decide +kernel) ⟨(Nat.le_of_ble_eq_true rfl), (Nat.le_of_ble_eq_true rfl)⟩) ⟨ep_blind, va_recv (q0 := 0) (ci := 1) hK hP2 rfl rfl, ep_pre hKn (hP2)⟩ rfl rfl hl.1 rfl (lv_room (Nat.le_of_ble_eq_true rfl)) d_Li_firstDifference_58 ⟨Nat.zero_le _, Nat.zero_le _⟩) ?_
        refine W.eq (g2 := F0 m 61 ls [.int (if i2 < n2 then mo2 i2 else 1000000001), .int (if i < n then mo i else 1000000001)]) rfl ?_
        refine va_mmin hx hb (hml.trans hl.1.symm) hown (hg _ tw_681) (hg _ tw_682) (hg _ tw_19) (hg _ tk_Ma_min) (Nat.le_of_ble_eq_true rfl) (Nat.le_of_ble_eq_true rfl) (Nat.le_of_ble_eq_true rfl) (Nat.le_of_ble_eq_true rfl) d_Li_firstDifference_61 ?_
        rw [if_pos hc1] at hR
        subst hR
        exact W.iret (v := (if (if i2 < n2 then mo2 i2 else 1000000001) < (if i < n then mo i else 1000000001) then (if i2 < n2 then mo2 i2 else 1000000001) else (if i < n then mo i else 1000000001))) hx hb hr (fun t9 ht hW => ⟨rfl, ht⟩) (fun q h => nomatch h) d_Li_firstDifference_64
      · have hc1 : ¬ (n2 ≤ i2) := fun h9 => hc1 ((nI_leI (a := n2) (b := i2) (by omega) (by omega)).mpr h9)
        refine lv_aload_n hx hb d_Li_firstDifference_30 rfl (lv_at hl 2 rfl) ?_
        refine lv_iload_n hx hb d_Li_firstDifference_31 rfl (lv_at hl 0 rfl) ?_
        refine lv_aload_n hx hb d_Li_firstDifference_32 rfl (lv_at hl 3 rfl) ?_
        refine lv_iload hx hb d_Li_firstDifference_33 (lv_at hl 1 rfl) ?_
        refine ep_callP (W.runV (As := [.int (nI i), .ref b, .int (nI i2)]) (rest := []) ⟨hx, hb, hml, hown, hg⟩ (m_Li_isSame l D cI cJ cZ cO a n mo na aa bb re ef b n2 mo2 na2 aa2 bb2 re2 ef2 i i2 (by omega) (by omega)) (ep_cwV 3 hg tw_672 tw_674 ts_7 tw_3 tk_Li_isSame rfl rfl (by decide +kernel) ⟨(Nat.le_of_ble_eq_true rfl), (Nat.le_of_ble_eq_true rfl)⟩) ⟨ep_blind, va_recv (q0 := 0) (ci := 1) hK hP rfl rfl, ep_pre hKn (⟨hP, hP2⟩)⟩ rfl rfl hl.1 rfl (lv_room (Nat.le_of_ble_eq_true rfl)) d_Li_firstDifference_35 ⟨Nat.zero_le _, Nat.zero_le _⟩) ?_
        refine W.eq (g2 := F0 m 38 ls [.int (bI (mo i = mo2 i2 ∧ re i = re2 i2 ∧ ef i = ef2 i2))]) rfl ?_
        by_cases hc2 : mo i = mo2 i2 ∧ re i = re2 i2 ∧ ef i = ef2 i2
        · rw [show bI (mo i = mo2 i2 ∧ re i = re2 i2 ∧ ef i = ef2 i2) = 1 from if_pos hc2]
          refine lv_if_eq (tgt := 50) hx hb d_Li_firstDifference_38 (by decide) (fun hc => False.elim (by revert hc; decide)) (fun hc => ?_)
          refine lv_iinc (k := 0) (lv' := [(3, .int (nI (i + 1))), (4, .int (nI i2)), (0, .ref a), (1, .ref b), (2, .int t)]) hx hb d_Li_firstDifference_41 hl rfl (inc1 _) (by decide) rfl (fun ls hl => ?_)
          refine lv_iinc (k := 1) (lv' := [(4, .int (nI (i2 + 1))), (3, .int (nI (i + 1))), (0, .ref a), (1, .ref b), (2, .int t)]) hx hb d_Li_firstDifference_44 hl rfl (inc1 _) (by decide) rfl (fun ls hl => ?_)
          refine lv_goto (tgt := 13) hx hb d_Li_firstDifference_47 (by decide) ?_
          rw [if_neg hc1, if_pos hc2] at hR
          exact ih (i + 1) (i2 + 1) ls (by omega) (by omega) hR (lv_sub hl [1, 0, 2, 3, 4] rfl)
        · rw [show bI (mo i = mo2 i2 ∧ re i = re2 i2 ∧ ef i = ef2 i2) = 0 from if_neg hc2]
          refine lv_if_eq (tgt := 50) hx hb d_Li_firstDifference_38 (by decide) (fun hc => ?_) (fun hc => False.elim (by revert hc; decide))
          refine lv_aload_n hx hb d_Li_firstDifference_50 rfl (lv_at hl 2 rfl) ?_
          refine lv_iload_n hx hb d_Li_firstDifference_51 rfl (lv_at hl 0 rfl) ?_
          refine ep_callP (W.runV (As := [.int (nI i)]) (rest := []) ⟨hx, hb, hml, hown, hg⟩ (m_Li_momentOrNever l D cI cJ cZ cO a n mo na aa bb re ef i (by omega) (by omega)) (ep_cwV 1 hg tw_676 tw_678 ts_8 tw_3 tk_Li_momentOrNever rfl rfl (by decide +kernel) ⟨(Nat.le_of_ble_eq_true rfl), (Nat.le_of_ble_eq_true rfl)⟩) ⟨ep_blind, va_recv (q0 := 0) (ci := 1) hK hP rfl rfl, ep_pre hKn (hP)⟩ rfl rfl hl.1 rfl (lv_room (Nat.le_of_ble_eq_true rfl)) d_Li_firstDifference_52 ⟨Nat.zero_le _, Nat.zero_le _⟩) ?_
          refine W.eq (g2 := F0 m 55 ls [.int (if i < n then mo i else 1000000001)]) rfl ?_
          refine lv_aload_n hx hb d_Li_firstDifference_55 rfl (lv_at hl 3 rfl) ?_
          refine lv_iload hx hb d_Li_firstDifference_56 (lv_at hl 1 rfl) ?_
          refine ep_callP (W.runV (As := [.int (nI i2)]) (rest := [.int (if i < n then mo i else 1000000001)]) ⟨hx, hb, hml, hown, hg⟩ (m_Li_momentOrNever l D cI cJ cZ cO b n2 mo2 na2 aa2 bb2 re2 ef2 i2 (by omega) (by omega)) (ep_cwV 1 hg tw_676 tw_678 ts_8 tw_3 tk_Li_momentOrNever rfl rfl (by decide +kernel) ⟨(Nat.le_of_ble_eq_true rfl), (Nat.le_of_ble_eq_true rfl)⟩) ⟨ep_blind, va_recv (q0 := 0) (ci := 1) hK hP2 rfl rfl, ep_pre hKn (hP2)⟩ rfl rfl hl.1 rfl (lv_room (Nat.le_of_ble_eq_true rfl)) d_Li_firstDifference_58 ⟨Nat.zero_le _, Nat.zero_le _⟩) ?_
          refine W.eq (g2 := F0 m 61 ls [.int (if i2 < n2 then mo2 i2 else 1000000001), .int (if i < n then mo i else 1000000001)]) rfl ?_
          refine va_mmin hx hb (hml.trans hl.1.symm) hown (hg _ tw_681) (hg _ tw_682) (hg _ tw_19) (hg _ tk_Ma_min) (Nat.le_of_ble_eq_true rfl) (Nat.le_of_ble_eq_true rfl) (Nat.le_of_ble_eq_true rfl) (Nat.le_of_ble_eq_true rfl) d_Li_firstDifference_61 ?_
          rw [if_neg hc1, if_neg hc2] at hR
          subst hR
          exact W.iret (v := (if (if i2 < n2 then mo2 i2 else 1000000001) < (if i < n then mo i else 1000000001) then (if i2 < n2 then mo2 i2 else 1000000001) else (if i < n then mo i else 1000000001))) hx hb hr (fun t9 ht hW => ⟨rfl, ht⟩) (fun q h => nomatch h) d_Li_firstDifference_64
  have hR : (g_Li_firstDifference_13 n mo re ef n2 mo2 re2 ef2 (n - pfr mo t n 0) (pfr mo t n 0) (pfr mo2 t n2 0)) = R := hR
  refine lv_aload_n hx hb d_Li_firstDifference_0 rfl (lv_at hl 0 rfl) ?_
  refine lv_iload_n hx hb d_Li_firstDifference_1 rfl (lv_at hl 2 rfl) ?_
  refine ep_callP (W.runV (As := [.int t]) (rest := []) ⟨hx, hb, hml, hown, hg⟩ (m_Li_placeFrom l D cI cJ cZ cO a n mo na aa bb re ef t (by omega)) (ep_cwV 1 hg tw_352 tw_353 tw_354 tw_3 tk_Li_placeFrom rfl rfl (by decide +kernel) ⟨(Nat.le_of_ble_eq_true rfl), (Nat.le_of_ble_eq_true rfl)⟩) ⟨ep_blind, va_recv (q0 := 0) (ci := 1) hK hP rfl rfl, ep_pre hKn (hP)⟩ rfl rfl hl.1 rfl (lv_room (Nat.le_of_ble_eq_true rfl)) d_Li_firstDifference_2 ⟨Nat.zero_le _, Nat.zero_le _⟩) ?_
  refine W.eq (g2 := F0 m 5 ls [.int (nI (pfr mo t n 0))]) rfl ?_
  have hpf0 := pfr_le mo t n 0
  refine lv_istore_n (lv' := [(3, .int (nI (pfr mo t n 0))), (0, .ref a), (1, .ref b), (2, .int t)]) hx hb d_Li_firstDifference_5 rfl hl (by decide) rfl (fun ls hl => ?_)
  refine lv_aload_n hx hb d_Li_firstDifference_6 rfl (lv_at hl 2 rfl) ?_
  refine lv_iload_n hx hb d_Li_firstDifference_7 rfl (lv_at hl 3 rfl) ?_
  refine ep_callP (W.runV (As := [.int t]) (rest := []) ⟨hx, hb, hml, hown, hg⟩ (m_Li_placeFrom l D cI cJ cZ cO b n2 mo2 na2 aa2 bb2 re2 ef2 t (by omega)) (ep_cwV 1 hg tw_352 tw_353 tw_354 tw_3 tk_Li_placeFrom rfl rfl (by decide +kernel) ⟨(Nat.le_of_ble_eq_true rfl), (Nat.le_of_ble_eq_true rfl)⟩) ⟨ep_blind, va_recv (q0 := 0) (ci := 1) hK hP2 rfl rfl, ep_pre hKn (hP2)⟩ rfl rfl hl.1 rfl (lv_room (Nat.le_of_ble_eq_true rfl)) d_Li_firstDifference_8 ⟨Nat.zero_le _, Nat.zero_le _⟩) ?_
  refine W.eq (g2 := F0 m 11 ls [.int (nI (pfr mo2 t n2 0))]) rfl ?_
  have hpf1 := pfr_le mo2 t n2 0
  refine lv_istore (lv' := [(4, .int (nI (pfr mo2 t n2 0))), (3, .int (nI (pfr mo t n 0))), (0, .ref a), (1, .ref b), (2, .int t)]) hx hb d_Li_firstDifference_11 hl (by decide) rfl (fun ls hl => ?_)
  exact key_13 (n - pfr mo t n 0) (pfr mo t n 0) (pfr mo2 t n2 0) ls (by omega) (by omega) hR (lv_sub hl [1, 0, 2, 3, 4] rfl)

def f_Li_relocate (n : Nat) (mo : Nat → Int32) (na : Nat → Int32) (aa : Nat → Int32) (bb : Nat → Int32) (re : Nat → Int64) (ef : Nat → Int32) (pp : Nat) (t : Int32) : Nat × (Nat → Int32) × (Nat → Int32) × (Nat → Int32) × (Nat → Int32) × (Nat → Int64) × (Nat → Int32) := (n - 1 + 1, upd (shu (shd mo (n - 1 - pp) pp) (n - 1 - (pfr (shd mo (n - 1 - pp) pp) t (n - 1) 0)) (n - 1)) (pfr (shd mo (n - 1 - pp) pp) t (n - 1) 0) t, upd (shu (shd na (n - 1 - pp) pp) (n - 1 - (pfr (shd mo (n - 1 - pp) pp) t (n - 1) 0)) (n - 1)) (pfr (shd mo (n - 1 - pp) pp) t (n - 1) 0) (na pp), upd (shu (shd aa (n - 1 - pp) pp) (n - 1 - (pfr (shd mo (n - 1 - pp) pp) t (n - 1) 0)) (n - 1)) (pfr (shd mo (n - 1 - pp) pp) t (n - 1) 0) (aa pp), upd (shu (shd bb (n - 1 - pp) pp) (n - 1 - (pfr (shd mo (n - 1 - pp) pp) t (n - 1) 0)) (n - 1)) (pfr (shd mo (n - 1 - pp) pp) t (n - 1) 0) (bb pp), shuL (shdL re (n - 1 - pp) pp) (n - 1 - (pfr (shd mo (n - 1 - pp) pp) t (n - 1) 0)) (n - 1), shu (shd ef (n - 1 - pp) pp) (n - 1 - (pfr (shd mo (n - 1 - pp) pp) t (n - 1) 0)) (n - 1))
set_option maxHeartbeats 4000000 in
set_option maxRecDepth 100000 in
theorem m_Li_relocate (l : Launch) (D : va_G) (cI cJ cZ cO : ClassId) (a : Nat) (n : Nat) (mo : Nat → Int32) (na : Nat → Int32) (aa : Nat → Int32) (bb : Nat → Int32) (re : Nat → Int64) (ef : Nat → Int32) (pp : Nat) (t : Int32) (hn : n ≤ 32) (hp9 : pp < n) (hz : bz ef) (R : Nat × (Nat → Int32) × (Nat → Int32) × (Nat → Int32) × (Nat → Int32) × (Nat → Int64) × (Nat → Int32)) (hR : f_Li_relocate n mo na aa bb re ef pp t = R) : Met l y_Li_relocate (k_Li_relocate :: gt) rm_Li_relocate (Pc0 D cI cJ cZ cO [.ref a, .int (nI pp), .int t] (fun H => va_P D cls (wLi cI cJ cZ a n mo na aa bb re ef) H)) (Qd (blk a 7) none (fun H => va_P D cls (wLi cI cJ cZ a R.1 R.2.1 R.2.2.1 R.2.2.2.1 R.2.2.2.2.1 R.2.2.2.2.2.1 R.2.2.2.2.2.2) H)) 0 0 (blk a 7) := by
  refine Met.ofW (cc := c_Li_relocate) (maxL := 6) (ret := none) (by decide) rfl ?_
  intro p e s m args below meth c s₁ B hml hv
  obtain ⟨rfl, hKn, hP⟩ := hv
  have hx := B.exec
  have hb := B.bytes
  have hr := B.returns
  have hts := atoms_spec (ws := k_Li_relocate :: gt) B.pre
  have hg : ∀ w ∈ gt, w.before _ s = true := fun w h => hts w (List.mem_cons_of_mem _ h)
  have hown : s.vm.findClass R_Li = some m.cls := findClass_of_methodNamed B.named
  have hlocks := B.notSynchronized
  have hK := hKn.1
  have hl := lv_entry ([.ref a, .int (nI pp), .int t]) (n := 6) (Nat.le_of_ble_eq_true rfl)
  rw [lg_entry_eq]
  generalize (lg_sl ([.ref a, .int (nI pp), .int t]) ++ List.replicate (6 - (lg_sl ([.ref a, .int (nI pp), .int t])).length) Slot.unset).toArray = ls at hl ⊢
  have hl : lv_has ls 6 [(0, .ref a), (1, .int (nI pp)), (2, .int t)] := hl
  have hS : va_S (blk a 7) s.heap s.heap [] := va_S.rf
  have hD : va_D (blk a 7) (wLi cI cJ cZ a n mo na aa bb re ef) := wLi_D
  have hR : ((n - 1 + 1, upd (shu (shd mo (n - 1 - pp) pp) (n - 1 - (pfr (shd mo (n - 1 - pp) pp) t (n - 1) 0)) (n - 1)) (pfr (shd mo (n - 1 - pp) pp) t (n - 1) 0) t, upd (shu (shd na (n - 1 - pp) pp) (n - 1 - (pfr (shd mo (n - 1 - pp) pp) t (n - 1) 0)) (n - 1)) (pfr (shd mo (n - 1 - pp) pp) t (n - 1) 0) (na pp), upd (shu (shd aa (n - 1 - pp) pp) (n - 1 - (pfr (shd mo (n - 1 - pp) pp) t (n - 1) 0)) (n - 1)) (pfr (shd mo (n - 1 - pp) pp) t (n - 1) 0) (aa pp), upd (shu (shd bb (n - 1 - pp) pp) (n - 1 - (pfr (shd mo (n - 1 - pp) pp) t (n - 1) 0)) (n - 1)) (pfr (shd mo (n - 1 - pp) pp) t (n - 1) 0) (bb pp), shuL (shdL re (n - 1 - pp) pp) (n - 1 - (pfr (shd mo (n - 1 - pp) pp) t (n - 1) 0)) (n - 1), shu (shd ef (n - 1 - pp) pp) (n - 1 - (pfr (shd mo (n - 1 - pp) pp) t (n - 1) 0)) (n - 1))) = R := hR
  refine lv_aload_n hx hb d_Li_relocate_0 rfl (lv_at hl 0 rfl) ?_
  refine va_get (D := D) (ci := 1) (v := .ref (a + 2)) (C := R_Li) (T := F_Li) (N := 7) hx hb hg in_Li hown hK hP 0 rfl rfl 2 (Nat.le_of_ble_eq_true rfl) (hg _ tw_47) (fun _ h9 => h9) rfl d_Li_relocate_1 ?_
  refine lv_iload_n hx hb d_Li_relocate_4 rfl (lv_at hl 1 rfl) ?_
  refine ep_iald hx hb hK hP 2 0 rfl rfl (i := pp) (by omega) (by decide) d_Li_relocate_5 ?_
  refine lv_istore_n (lv' := [(3, .int (na pp)), (0, .ref a), (1, .int (nI pp)), (2, .int t)]) hx hb d_Li_relocate_6 rfl hl (by decide) rfl (fun ls hl => ?_)
  refine lv_aload_n hx hb d_Li_relocate_7 rfl (lv_at hl 1 rfl) ?_
  refine va_get (D := D) (ci := 1) (v := .ref (a + 3)) (C := R_Li) (T := F_Li) (N := 7) hx hb hg in_Li hown hK hP 0 rfl rfl 3 (Nat.le_of_ble_eq_true rfl) (hg _ tw_49) (fun _ h9 => h9) rfl d_Li_relocate_8 ?_
  refine lv_iload_n hx hb d_Li_relocate_11 rfl (lv_at hl 2 rfl) ?_
  refine ep_iald hx hb hK hP 3 0 rfl rfl (i := pp) (by omega) (by decide) d_Li_relocate_12 ?_
  refine lv_istore (lv' := [(4, .int (aa pp)), (3, .int (na pp)), (0, .ref a), (1, .int (nI pp)), (2, .int t)]) hx hb d_Li_relocate_13 hl (by decide) rfl (fun ls hl => ?_)
  refine lv_aload_n hx hb d_Li_relocate_15 rfl (lv_at hl 2 rfl) ?_
  refine va_get (D := D) (ci := 1) (v := .ref (a + 4)) (C := R_Li) (T := F_Li) (N := 7) hx hb hg in_Li hown hK hP 0 rfl rfl 4 (Nat.le_of_ble_eq_true rfl) (hg _ tw_51) (fun _ h9 => h9) rfl d_Li_relocate_16 ?_
  refine lv_iload_n hx hb d_Li_relocate_19 rfl (lv_at hl 3 rfl) ?_
  refine ep_iald hx hb hK hP 4 0 rfl rfl (i := pp) (by omega) (by decide) d_Li_relocate_20 ?_
  refine lv_istore (lv' := [(5, .int (bb pp)), (4, .int (aa pp)), (3, .int (na pp)), (0, .ref a), (1, .int (nI pp)), (2, .int t)]) hx hb d_Li_relocate_21 hl (by decide) rfl (fun ls hl => ?_)
  refine lv_aload_n hx hb d_Li_relocate_23 rfl (lv_at hl 3 rfl) ?_
  refine lv_iload_n hx hb d_Li_relocate_24 rfl (lv_at hl 4 rfl) ?_
  refine ep_callH (W.runV (As := [.int (nI pp)]) (rest := []) ⟨hx, hb, hml, hown, hg⟩ (m_Li_remove l D cI cJ cZ cO a n mo na aa bb re ef pp (by omega) hp9 hz) (ep_cwV 1 hg tw_562 tw_528 tw_529 tw_3 tk_Li_remove rfl rfl (by decide +kernel) ⟨(Nat.le_of_ble_eq_true rfl), (Nat.le_of_ble_eq_true rfl)⟩) ⟨ep_blind, va_recv (q0 := 0) (ci := 1) hK hP rfl rfl, ep_pre hKn (hP)⟩ rfl rfl hl.1 rfl (lv_room (Nat.le_of_ble_eq_true rfl)) d_Li_relocate_25 ⟨Nat.zero_le _, Nat.zero_le _⟩) hS (fun q h => h) (fun H locs hsz9 hk1 hP1 hS => ?_)
  refine W.eq (g2 := F0 m 28 ls []) rfl ?_
  have hP : va_P D cls (wLi cI cJ cZ a (n - 1) (shd mo (n - 1 - pp) pp) (shd na (n - 1 - pp) pp) (shd aa (n - 1 - pp) pp) (shd bb (n - 1 - pp) pp) (shdL re (n - 1 - pp) pp) (shd ef (n - 1 - pp) pp)) H := hP1
  have hD : va_D (blk a 7) (wLi cI cJ cZ a (n - 1) (shd mo (n - 1 - pp) pp) (shd na (n - 1 - pp) pp) (shd aa (n - 1 - pp) pp) (shd bb (n - 1 - pp) pp) (shdL re (n - 1 - pp) pp) (shd ef (n - 1 - pp) pp)) := wLi_D
  have hz1 : bz (shd ef (n - 1 - pp) pp) := shd_bz hz _ _
  refine lv_aload_n hx hb d_Li_relocate_28 rfl (lv_at hl 3 rfl) ?_
  refine lv_iload_n hx hb d_Li_relocate_29 rfl (lv_at hl 5 rfl) ?_
  refine lv_iload_n hx hb d_Li_relocate_30 rfl (lv_at hl 2 rfl) ?_
  refine lv_iload hx hb d_Li_relocate_31 (lv_at hl 1 rfl) ?_
  refine lv_iload hx hb d_Li_relocate_33 (lv_at hl 0 rfl) ?_
  refine ep_callH (W.runV (As := [.int t, .int (na pp), .int (aa pp), .int (bb pp)]) (rest := []) ⟨hx, hb, hml, hown, hg⟩ (m_Li_insert l D cI cJ cZ cO a (n - 1) (shd mo (n - 1 - pp) pp) (shd na (n - 1 - pp) pp) (shd aa (n - 1 - pp) pp) (shd bb (n - 1 - pp) pp) (shdL re (n - 1 - pp) pp) (shd ef (n - 1 - pp) pp) t (na pp) (aa pp) (bb pp) (by omega) hz1) (ep_cwV 4 hg tw_563 tw_413 tw_414 tw_3 tk_Li_insert rfl rfl (by decide +kernel) ⟨(Nat.le_of_ble_eq_true rfl), (Nat.le_of_ble_eq_true rfl)⟩) ⟨ep_blind, va_recv (q0 := 0) (ci := 1) hK hP rfl rfl, ep_pre hKn (hP)⟩ rfl rfl hl.1 rfl (lv_room (Nat.le_of_ble_eq_true rfl)) d_Li_relocate_35 ⟨Nat.zero_le _, Nat.zero_le _⟩) hS (fun q h => h) (fun H locs hsz9 hk1 hP1 hS => ?_)
  refine W.eq (g2 := F0 m 38 ls []) rfl ?_
  have hP : va_P D cls (wLi cI cJ cZ a (n - 1 + 1) (upd (shu (shd mo (n - 1 - pp) pp) (n - 1 - (pfr (shd mo (n - 1 - pp) pp) t (n - 1) 0)) (n - 1)) (pfr (shd mo (n - 1 - pp) pp) t (n - 1) 0) t) (upd (shu (shd na (n - 1 - pp) pp) (n - 1 - (pfr (shd mo (n - 1 - pp) pp) t (n - 1) 0)) (n - 1)) (pfr (shd mo (n - 1 - pp) pp) t (n - 1) 0) (na pp)) (upd (shu (shd aa (n - 1 - pp) pp) (n - 1 - (pfr (shd mo (n - 1 - pp) pp) t (n - 1) 0)) (n - 1)) (pfr (shd mo (n - 1 - pp) pp) t (n - 1) 0) (aa pp)) (upd (shu (shd bb (n - 1 - pp) pp) (n - 1 - (pfr (shd mo (n - 1 - pp) pp) t (n - 1) 0)) (n - 1)) (pfr (shd mo (n - 1 - pp) pp) t (n - 1) 0) (bb pp)) (shuL (shdL re (n - 1 - pp) pp) (n - 1 - (pfr (shd mo (n - 1 - pp) pp) t (n - 1) 0)) (n - 1)) (shu (shd ef (n - 1 - pp) pp) (n - 1 - (pfr (shd mo (n - 1 - pp) pp) t (n - 1) 0)) (n - 1))) H := hP1
  have hD : va_D (blk a 7) (wLi cI cJ cZ a (n - 1 + 1) (upd (shu (shd mo (n - 1 - pp) pp) (n - 1 - (pfr (shd mo (n - 1 - pp) pp) t (n - 1) 0)) (n - 1)) (pfr (shd mo (n - 1 - pp) pp) t (n - 1) 0) t) (upd (shu (shd na (n - 1 - pp) pp) (n - 1 - (pfr (shd mo (n - 1 - pp) pp) t (n - 1) 0)) (n - 1)) (pfr (shd mo (n - 1 - pp) pp) t (n - 1) 0) (na pp)) (upd (shu (shd aa (n - 1 - pp) pp) (n - 1 - (pfr (shd mo (n - 1 - pp) pp) t (n - 1) 0)) (n - 1)) (pfr (shd mo (n - 1 - pp) pp) t (n - 1) 0) (aa pp)) (upd (shu (shd bb (n - 1 - pp) pp) (n - 1 - (pfr (shd mo (n - 1 - pp) pp) t (n - 1) 0)) (n - 1)) (pfr (shd mo (n - 1 - pp) pp) t (n - 1) 0) (bb pp)) (shuL (shdL re (n - 1 - pp) pp) (n - 1 - (pfr (shd mo (n - 1 - pp) pp) t (n - 1) 0)) (n - 1)) (shu (shd ef (n - 1 - pp) pp) (n - 1 - (pfr (shd mo (n - 1 - pp) pp) t (n - 1) 0)) (n - 1))) := wLi_D
  subst hR
  exact W.vret hx hb hr (fun t9 ht hW => ⟨rfl, hS.F ht, by rw [ht]; exact hP⟩) hS.2.2 d_Li_relocate_38

def f_Ba_allows (u : Int32) (x : Int32) (y : Int32) : Int32 := if y = 0 then (if u = 1 then (if okV x then (1) else (if u = 2 then (if x = 0 then (1) else (0)) else (0))) else (if u = 2 then (if x = 0 then (1) else (0)) else (0))) else (0)
set_option maxHeartbeats 4000000 in
set_option maxRecDepth 100000 in
theorem m_Ba_allows (l : Launch) (D : va_G) (cI cJ cZ cO : ClassId) (b : Nat) (u : Int32) (x : Int32) (y : Int32) (R : Int32) (hR : f_Ba_allows u x y = R) : Met l y_Ba_allows (k_Ba_allows :: gt) rm_Ba_allows (Pc0 D cI cJ cZ cO [.ref b, .int u, .int x, .int y] (fun H => True)) (Qp (some (.int R))) 0 0 (fun _ => False) := by
  refine Met.ofW (cc := c_Ba_allows) (maxL := 4) (ret := (Option.some FieldType.boolean)) (by decide) rfl ?_
  intro p e s m args below meth c s₁ B hml hv
  obtain ⟨rfl, hKn, -⟩ := hv
  have hx := B.exec
  have hb := B.bytes
  have hr := B.returns
  have hts := atoms_spec (ws := k_Ba_allows :: gt) B.pre
  have hg : ∀ w ∈ gt, w.before _ s = true := fun w h => hts w (List.mem_cons_of_mem _ h)
  have hown : s.vm.findClass R_Ba = some m.cls := findClass_of_methodNamed B.named
  have hlocks := B.notSynchronized
  have hK := hKn.1
  have hl := lv_entry ([.ref b, .int u, .int x, .int y]) (n := 4) (Nat.le_of_ble_eq_true rfl)
  rw [lg_entry_eq]
  generalize (lg_sl ([.ref b, .int u, .int x, .int y]) ++ List.replicate (4 - (lg_sl ([.ref b, .int u, .int x, .int y])).length) Slot.unset).toArray = ls at hl ⊢
  have hl : lv_has ls 4 [(0, .ref b), (1, .int u), (2, .int x), (3, .int y)] := hl
  have hR : (if y = 0 then (if u = 1 then (if okV x then (1) else (if u = 2 then (if x = 0 then (1) else (0)) else (0))) else (if u = 2 then (if x = 0 then (1) else (0)) else (0))) else (0)) = R := hR
  refine lv_iload_n hx hb d_Ba_allows_0 rfl (lv_at hl 3 rfl) ?_
  refine lv_if_ne (tgt := 29) hx hb d_Ba_allows_1 (by decide) (fun hc1 => ?_) (fun hc1 => ?_)
  · have hc1 : ¬ (y = 0) := hc1
    refine lv_iconst (v := 0) hx hb d_Ba_allows_29 (by decide) ?_
    rw [if_neg hc1] at hR
    subst hR
    exact W.zret (v := 0) hx hb hr (by decide) (fun t9 ht hW => ⟨rfl, ht⟩) (fun q h => nomatch h) d_Ba_allows_30
  · have hc1 : y = 0 := hc1
    refine lv_iload_n hx hb d_Ba_allows_4 rfl (lv_at hl 1 rfl) ?_
    refine lv_iconst (v := 1) hx hb d_Ba_allows_5 (by decide) ?_
    refine lv_icmp_ne (tgt := 16) hx hb d_Ba_allows_6 (by decide) (fun hc2 => ?_) (fun hc2 => ?_)
    · have hc2 : ¬ (u = 1) := hc2
      refine lv_iload_n hx hb d_Ba_allows_16 rfl (lv_at hl 1 rfl) ?_
      refine lv_iconst (v := 2) hx hb d_Ba_allows_17 (by decide) ?_
      refine lv_icmp_ne (tgt := 29) hx hb d_Ba_allows_18 (by decide) (fun hc3 => ?_) (fun hc3 => ?_)
      · have hc3 : ¬ (u = 2) := hc3
        refine lv_iconst (v := 0) hx hb d_Ba_allows_29 (by decide) ?_
        rw [if_pos hc1, if_neg hc2, if_neg hc3] at hR
        subst hR
        exact W.zret (v := 0) hx hb hr (by decide) (fun t9 ht hW => ⟨rfl, ht⟩) (fun q h => nomatch h) d_Ba_allows_30
      · have hc3 : u = 2 := hc3
        refine lv_iload_n hx hb d_Ba_allows_21 rfl (lv_at hl 2 rfl) ?_
        refine lv_if_ne (tgt := 29) hx hb d_Ba_allows_22 (by decide) (fun hc4 => ?_) (fun hc4 => ?_)
        · have hc4 : ¬ (x = 0) := hc4
          refine lv_iconst (v := 0) hx hb d_Ba_allows_29 (by decide) ?_
          rw [if_pos hc1, if_neg hc2, if_pos hc3, if_neg hc4] at hR
          subst hR
          exact W.zret (v := 0) hx hb hr (by decide) (fun t9 ht hW => ⟨rfl, ht⟩) (fun q h => nomatch h) d_Ba_allows_30
        · have hc4 : x = 0 := hc4
          refine lv_iconst (v := 1) hx hb d_Ba_allows_25 (by decide) ?_
          refine lv_goto (tgt := 30) hx hb d_Ba_allows_26 (by decide) ?_
          rw [if_pos hc1, if_neg hc2, if_pos hc3, if_pos hc4] at hR
          subst hR
          exact W.zret (v := 1) hx hb hr (by decide) (fun t9 ht hW => ⟨rfl, ht⟩) (fun q h => nomatch h) d_Ba_allows_30
    · have hc2 : u = 1 := hc2
      refine lv_iload_n hx hb d_Ba_allows_9 rfl (lv_at hl 2 rfl) ?_
      refine ep_callP (ep_toC (va_runSN (As := [.int x]) (rest := []) ⟨hx, hb, hml, hown, hg⟩ (m_EP_isValue l D cI cJ cZ cO x) (⟨ep_cnB (host := "EditablePast") 1 hg tk_EP_isValue rfl rfl (hKn.2.1 ("EditablePast$Bag", 15, ⟨"EditablePast", "isValue", "(I)Z"⟩) (by decide +kernel)) tw_1 (by decide +kernel) ⟨(Nat.le_of_ble_eq_true rfl), (Nat.le_of_ble_eq_true rfl)⟩, hg _ tw_369, trivial⟩) ⟨ep_blind, ep_pre hKn (trivial)⟩ rfl rfl hl.1 rfl (lv_room (Nat.le_of_ble_eq_true rfl)) d_Ba_allows_10 ⟨Nat.zero_le _, Nat.zero_le _⟩)) ?_
      refine W.eq (g2 := F0 m 13 ls [.int (bI (okV x))]) rfl ?_
      by_cases hc5 : okV x
      · rw [show bI (okV x) = 1 from if_pos hc5]
        refine lv_if_ne (tgt := 25) hx hb d_Ba_allows_13 (by decide) (fun hc => ?_) (fun hc => False.elim (by revert hc; decide))
        refine lv_iconst (v := 1) hx hb d_Ba_allows_25 (by decide) ?_
        refine lv_goto (tgt := 30) hx hb d_Ba_allows_26 (by decide) ?_
        rw [if_pos hc1, if_pos hc2, if_pos hc5] at hR
        subst hR
        exact W.zret (v := 1) hx hb hr (by decide) (fun t9 ht hW => ⟨rfl, ht⟩) (fun q h => nomatch h) d_Ba_allows_30
      · rw [show bI (okV x) = 0 from if_neg hc5]
        refine lv_if_ne (tgt := 25) hx hb d_Ba_allows_13 (by decide) (fun hc => False.elim (by revert hc; decide)) (fun hc => ?_)
        refine lv_iload_n hx hb d_Ba_allows_16 rfl (lv_at hl 1 rfl) ?_
        refine lv_iconst (v := 2) hx hb d_Ba_allows_17 (by decide) ?_
        refine lv_icmp_ne (tgt := 29) hx hb d_Ba_allows_18 (by decide) (fun hc6 => ?_) (fun hc6 => ?_)
        · have hc6 : ¬ (u = 2) := hc6
          refine lv_iconst (v := 0) hx hb d_Ba_allows_29 (by decide) ?_
          rw [if_pos hc1, if_pos hc2, if_neg hc5, if_neg hc6] at hR
          subst hR
          exact W.zret (v := 0) hx hb hr (by decide) (fun t9 ht hW => ⟨rfl, ht⟩) (fun q h => nomatch h) d_Ba_allows_30
        · have hc6 : u = 2 := hc6
          refine lv_iload_n hx hb d_Ba_allows_21 rfl (lv_at hl 2 rfl) ?_
          refine lv_if_ne (tgt := 29) hx hb d_Ba_allows_22 (by decide) (fun hc7 => ?_) (fun hc7 => ?_)
          · have hc7 : ¬ (x = 0) := hc7
            refine lv_iconst (v := 0) hx hb d_Ba_allows_29 (by decide) ?_
            rw [if_pos hc1, if_pos hc2, if_neg hc5, if_pos hc6, if_neg hc7] at hR
            subst hR
            exact W.zret (v := 0) hx hb hr (by decide) (fun t9 ht hW => ⟨rfl, ht⟩) (fun q h => nomatch h) d_Ba_allows_30
          · have hc7 : x = 0 := hc7
            refine lv_iconst (v := 1) hx hb d_Ba_allows_25 (by decide) ?_
            refine lv_goto (tgt := 30) hx hb d_Ba_allows_26 (by decide) ?_
            rw [if_pos hc1, if_pos hc2, if_neg hc5, if_pos hc6, if_pos hc7] at hR
            subst hR
            exact W.zret (v := 1) hx hb hr (by decide) (fun t9 ht hW => ⟨rfl, ht⟩) (fun q h => nomatch h) d_Ba_allows_30

def f_Ta_allows (u : Int32) (x : Int32) (y : Int32) : Int32 := if okV x then (if u = 1 then (if okV y then (1) else (if u = 2 then (if y = 0 then (1) else (0)) else (0))) else (if u = 2 then (if y = 0 then (1) else (0)) else (0))) else (0)
set_option maxHeartbeats 4000000 in
set_option maxRecDepth 100000 in
theorem m_Ta_allows (l : Launch) (D : va_G) (cI cJ cZ cO : ClassId) (b : Nat) (u : Int32) (x : Int32) (y : Int32) (R : Int32) (hR : f_Ta_allows u x y = R) : Met l y_Ta_allows (k_Ta_allows :: gt) rm_Ta_allows (Pc0 D cI cJ cZ cO [.ref b, .int u, .int x, .int y] (fun H => True)) (Qp (some (.int R))) 0 0 (fun _ => False) := by
  refine Met.ofW (cc := c_Ta_allows) (maxL := 4) (ret := (Option.some FieldType.boolean)) (by decide) rfl ?_
  intro p e s m args below meth c s₁ B hml hv
  obtain ⟨rfl, hKn, -⟩ := hv
  have hx := B.exec
  have hb := B.bytes
  have hr := B.returns
  have hts := atoms_spec (ws := k_Ta_allows :: gt) B.pre
  have hg : ∀ w ∈ gt, w.before _ s = true := fun w h => hts w (List.mem_cons_of_mem _ h)
  have hown : s.vm.findClass R_Ta = some m.cls := findClass_of_methodNamed B.named
  have hlocks := B.notSynchronized
  have hK := hKn.1
  have hl := lv_entry ([.ref b, .int u, .int x, .int y]) (n := 4) (Nat.le_of_ble_eq_true rfl)
  rw [lg_entry_eq]
  generalize (lg_sl ([.ref b, .int u, .int x, .int y]) ++ List.replicate (4 - (lg_sl ([.ref b, .int u, .int x, .int y])).length) Slot.unset).toArray = ls at hl ⊢
  have hl : lv_has ls 4 [(0, .ref b), (1, .int u), (2, .int x), (3, .int y)] := hl
  have hR : (if okV x then (if u = 1 then (if okV y then (1) else (if u = 2 then (if y = 0 then (1) else (0)) else (0))) else (if u = 2 then (if y = 0 then (1) else (0)) else (0))) else (0)) = R := hR
  refine lv_iload_n hx hb d_Ta_allows_0 rfl (lv_at hl 2 rfl) ?_
  refine ep_callP (ep_toC (va_runSN (As := [.int x]) (rest := []) ⟨hx, hb, hml, hown, hg⟩ (m_EP_isValue l D cI cJ cZ cO x) (⟨ep_cnB (host := "EditablePast") 1 hg tk_EP_isValue rfl rfl (hKn.2.1 ("EditablePast$Table", 22, ⟨"EditablePast", "isValue", "(I)Z"⟩) (by decide +kernel)) tw_1 (by decide +kernel) ⟨(Nat.le_of_ble_eq_true rfl), (Nat.le_of_ble_eq_true rfl)⟩, hg _ tw_369, trivial⟩) ⟨ep_blind, ep_pre hKn (trivial)⟩ rfl rfl hl.1 rfl (lv_room (Nat.le_of_ble_eq_true rfl)) d_Ta_allows_1 ⟨Nat.zero_le _, Nat.zero_le _⟩)) ?_
  refine W.eq (g2 := F0 m 4 ls [.int (bI (okV x))]) rfl ?_
  by_cases hc1 : okV x
  · rw [show bI (okV x) = 1 from if_pos hc1]
    refine lv_if_eq (tgt := 32) hx hb d_Ta_allows_4 (by decide) (fun hc => False.elim (by revert hc; decide)) (fun hc => ?_)
    refine lv_iload_n hx hb d_Ta_allows_7 rfl (lv_at hl 1 rfl) ?_
    refine lv_iconst (v := 1) hx hb d_Ta_allows_8 (by decide) ?_
    refine lv_icmp_ne (tgt := 19) hx hb d_Ta_allows_9 (by decide) (fun hc2 => ?_) (fun hc2 => ?_)
    · have hc2 : ¬ (u = 1) := hc2
      refine lv_iload_n hx hb d_Ta_allows_19 rfl (lv_at hl 1 rfl) ?_
      refine lv_iconst (v := 2) hx hb d_Ta_allows_20 (by decide) ?_
      refine lv_icmp_ne (tgt := 32) hx hb d_Ta_allows_21 (by decide) (fun hc3 => ?_) (fun hc3 => ?_)
      · have hc3 : ¬ (u = 2) := hc3
        refine lv_iconst (v := 0) hx hb d_Ta_allows_32 (by decide) ?_
        rw [if_pos hc1, if_neg hc2, if_neg hc3] at hR
        subst hR
        exact W.zret (v := 0) hx hb hr (by decide) (fun t9 ht hW => ⟨rfl, ht⟩) (fun q h => nomatch h) d_Ta_allows_33
      · have hc3 : u = 2 := hc3
        refine lv_iload_n hx hb d_Ta_allows_24 rfl (lv_at hl 3 rfl) ?_
        refine lv_if_ne (tgt := 32) hx hb d_Ta_allows_25 (by decide) (fun hc4 => ?_) (fun hc4 => ?_)
        · have hc4 : ¬ (y = 0) := hc4
          refine lv_iconst (v := 0) hx hb d_Ta_allows_32 (by decide) ?_
          rw [if_pos hc1, if_neg hc2, if_pos hc3, if_neg hc4] at hR
          subst hR
          exact W.zret (v := 0) hx hb hr (by decide) (fun t9 ht hW => ⟨rfl, ht⟩) (fun q h => nomatch h) d_Ta_allows_33
        · have hc4 : y = 0 := hc4
          refine lv_iconst (v := 1) hx hb d_Ta_allows_28 (by decide) ?_
          refine lv_goto (tgt := 33) hx hb d_Ta_allows_29 (by decide) ?_
          rw [if_pos hc1, if_neg hc2, if_pos hc3, if_pos hc4] at hR
          subst hR
          exact W.zret (v := 1) hx hb hr (by decide) (fun t9 ht hW => ⟨rfl, ht⟩) (fun q h => nomatch h) d_Ta_allows_33
    · have hc2 : u = 1 := hc2
      refine lv_iload_n hx hb d_Ta_allows_12 rfl (lv_at hl 3 rfl) ?_
      refine ep_callP (ep_toC (va_runSN (As := [.int y]) (rest := []) ⟨hx, hb, hml, hown, hg⟩ (m_EP_isValue l D cI cJ cZ cO y) (⟨ep_cnB (host := "EditablePast") 1 hg tk_EP_isValue rfl rfl (hKn.2.1 ("EditablePast$Table", 22, ⟨"EditablePast", "isValue", "(I)Z"⟩) (by decide +kernel)) tw_1 (by decide +kernel) ⟨(Nat.le_of_ble_eq_true rfl), (Nat.le_of_ble_eq_true rfl)⟩, hg _ tw_369, trivial⟩) ⟨ep_blind, ep_pre hKn (trivial)⟩ rfl rfl hl.1 rfl (lv_room (Nat.le_of_ble_eq_true rfl)) d_Ta_allows_13 ⟨Nat.zero_le _, Nat.zero_le _⟩)) ?_
      refine W.eq (g2 := F0 m 16 ls [.int (bI (okV y))]) rfl ?_
      by_cases hc5 : okV y
      · rw [show bI (okV y) = 1 from if_pos hc5]
        refine lv_if_ne (tgt := 28) hx hb d_Ta_allows_16 (by decide) (fun hc => ?_) (fun hc => False.elim (by revert hc; decide))
        refine lv_iconst (v := 1) hx hb d_Ta_allows_28 (by decide) ?_
        refine lv_goto (tgt := 33) hx hb d_Ta_allows_29 (by decide) ?_
        rw [if_pos hc1, if_pos hc2, if_pos hc5] at hR
        subst hR
        exact W.zret (v := 1) hx hb hr (by decide) (fun t9 ht hW => ⟨rfl, ht⟩) (fun q h => nomatch h) d_Ta_allows_33
      · rw [show bI (okV y) = 0 from if_neg hc5]
        refine lv_if_ne (tgt := 28) hx hb d_Ta_allows_16 (by decide) (fun hc => False.elim (by revert hc; decide)) (fun hc => ?_)
        refine lv_iload_n hx hb d_Ta_allows_19 rfl (lv_at hl 1 rfl) ?_
        refine lv_iconst (v := 2) hx hb d_Ta_allows_20 (by decide) ?_
        refine lv_icmp_ne (tgt := 32) hx hb d_Ta_allows_21 (by decide) (fun hc6 => ?_) (fun hc6 => ?_)
        · have hc6 : ¬ (u = 2) := hc6
          refine lv_iconst (v := 0) hx hb d_Ta_allows_32 (by decide) ?_
          rw [if_pos hc1, if_pos hc2, if_neg hc5, if_neg hc6] at hR
          subst hR
          exact W.zret (v := 0) hx hb hr (by decide) (fun t9 ht hW => ⟨rfl, ht⟩) (fun q h => nomatch h) d_Ta_allows_33
        · have hc6 : u = 2 := hc6
          refine lv_iload_n hx hb d_Ta_allows_24 rfl (lv_at hl 3 rfl) ?_
          refine lv_if_ne (tgt := 32) hx hb d_Ta_allows_25 (by decide) (fun hc7 => ?_) (fun hc7 => ?_)
          · have hc7 : ¬ (y = 0) := hc7
            refine lv_iconst (v := 0) hx hb d_Ta_allows_32 (by decide) ?_
            rw [if_pos hc1, if_pos hc2, if_neg hc5, if_pos hc6, if_neg hc7] at hR
            subst hR
            exact W.zret (v := 0) hx hb hr (by decide) (fun t9 ht hW => ⟨rfl, ht⟩) (fun q h => nomatch h) d_Ta_allows_33
          · have hc7 : y = 0 := hc7
            refine lv_iconst (v := 1) hx hb d_Ta_allows_28 (by decide) ?_
            refine lv_goto (tgt := 33) hx hb d_Ta_allows_29 (by decide) ?_
            rw [if_pos hc1, if_pos hc2, if_neg hc5, if_pos hc6, if_pos hc7] at hR
            subst hR
            exact W.zret (v := 1) hx hb hr (by decide) (fun t9 ht hW => ⟨rfl, ht⟩) (fun q h => nomatch h) d_Ta_allows_33
  · rw [show bI (okV x) = 0 from if_neg hc1]
    refine lv_if_eq (tgt := 32) hx hb d_Ta_allows_4 (by decide) (fun hc => ?_) (fun hc => False.elim (by revert hc; decide))
    refine lv_iconst (v := 0) hx hb d_Ta_allows_32 (by decide) ?_
    rw [if_neg hc1] at hR
    subst hR
    exact W.zret (v := 0) hx hb hr (by decide) (fun t9 ht hW => ⟨rfl, ht⟩) (fun q h => nomatch h) d_Ta_allows_33

def f_Re_allows (u : Int32) (x : Int32) (y : Int32) : Int32 := if u = 1 then (if x < (-1000000000) then (0) else (if 1000000000 < x then (0) else (if y = 0 then (1) else (0)))) else (0)
set_option maxHeartbeats 4000000 in
set_option maxRecDepth 100000 in
theorem m_Re_allows (l : Launch) (D : va_G) (cI cJ cZ cO : ClassId) (b : Nat) (u : Int32) (x : Int32) (y : Int32) (R : Int32) (hR : f_Re_allows u x y = R) : Met l y_Re_allows (k_Re_allows :: gt) rm_Re_allows (Pc0 D cI cJ cZ cO [.ref b, .int u, .int x, .int y] (fun H => True)) (Qp (some (.int R))) 0 0 (fun _ => False) := by
  refine Met.ofW (cc := c_Re_allows) (maxL := 4) (ret := (Option.some FieldType.boolean)) (by decide) rfl ?_
  intro p e s m args below meth c s₁ B hml hv
  obtain ⟨rfl, hKn, -⟩ := hv
  have hx := B.exec
  have hb := B.bytes
  have hr := B.returns
  have hts := atoms_spec (ws := k_Re_allows :: gt) B.pre
  have hg : ∀ w ∈ gt, w.before _ s = true := fun w h => hts w (List.mem_cons_of_mem _ h)
  have hown : s.vm.findClass R_Re = some m.cls := findClass_of_methodNamed B.named
  have hlocks := B.notSynchronized
  have hK := hKn.1
  have hl := lv_entry ([.ref b, .int u, .int x, .int y]) (n := 4) (Nat.le_of_ble_eq_true rfl)
  rw [lg_entry_eq]
  generalize (lg_sl ([.ref b, .int u, .int x, .int y]) ++ List.replicate (4 - (lg_sl ([.ref b, .int u, .int x, .int y])).length) Slot.unset).toArray = ls at hl ⊢
  have hl : lv_has ls 4 [(0, .ref b), (1, .int u), (2, .int x), (3, .int y)] := hl
  have hR : (if u = 1 then (if x < (-1000000000) then (0) else (if 1000000000 < x then (0) else (if y = 0 then (1) else (0)))) else (0)) = R := hR
  refine lv_iload_n hx hb d_Re_allows_0 rfl (lv_at hl 1 rfl) ?_
  refine lv_iconst (v := 1) hx hb d_Re_allows_1 (by decide) ?_
  refine lv_icmp_ne (tgt := 25) hx hb d_Re_allows_2 (by decide) (fun hc1 => ?_) (fun hc1 => ?_)
  · have hc1 : ¬ (u = 1) := hc1
    refine lv_iconst (v := 0) hx hb d_Re_allows_25 (by decide) ?_
    rw [if_neg hc1] at hR
    subst hR
    exact W.zret (v := 0) hx hb hr (by decide) (fun t9 ht hW => ⟨rfl, ht⟩) (fun q h => nomatch h) d_Re_allows_26
  · have hc1 : u = 1 := hc1
    refine lv_iload_n hx hb d_Re_allows_5 rfl (lv_at hl 2 rfl) ?_
    refine lv_ldc (v := (-1000000000)) hx hb hown (hg _ tw_375) d_Re_allows_6 ?_
    refine lv_icmp_lt (tgt := 25) hx hb d_Re_allows_8 (by decide) (fun hc2 => ?_) (fun hc2 => ?_)
    · have hc2 : x < (-1000000000) := hc2
      refine lv_iconst (v := 0) hx hb d_Re_allows_25 (by decide) ?_
      rw [if_pos hc1, if_pos hc2] at hR
      subst hR
      exact W.zret (v := 0) hx hb hr (by decide) (fun t9 ht hW => ⟨rfl, ht⟩) (fun q h => nomatch h) d_Re_allows_26
    · have hc2 : ¬ (x < (-1000000000)) := hc2
      refine lv_iload_n hx hb d_Re_allows_11 rfl (lv_at hl 2 rfl) ?_
      refine lv_ldc (v := 1000000000) hx hb hown (hg _ tw_376) d_Re_allows_12 ?_
      refine lv_icmp_gt (tgt := 25) hx hb d_Re_allows_14 (by decide) (fun hc3 => ?_) (fun hc3 => ?_)
      · have hc3 : 1000000000 < x := hc3
        refine lv_iconst (v := 0) hx hb d_Re_allows_25 (by decide) ?_
        rw [if_pos hc1, if_neg hc2, if_pos hc3] at hR
        subst hR
        exact W.zret (v := 0) hx hb hr (by decide) (fun t9 ht hW => ⟨rfl, ht⟩) (fun q h => nomatch h) d_Re_allows_26
      · have hc3 : ¬ (1000000000 < x) := hc3
        refine lv_iload_n hx hb d_Re_allows_17 rfl (lv_at hl 3 rfl) ?_
        refine lv_if_ne (tgt := 25) hx hb d_Re_allows_18 (by decide) (fun hc4 => ?_) (fun hc4 => ?_)
        · have hc4 : ¬ (y = 0) := hc4
          refine lv_iconst (v := 0) hx hb d_Re_allows_25 (by decide) ?_
          rw [if_pos hc1, if_neg hc2, if_neg hc3, if_neg hc4] at hR
          subst hR
          exact W.zret (v := 0) hx hb hr (by decide) (fun t9 ht hW => ⟨rfl, ht⟩) (fun q h => nomatch h) d_Re_allows_26
        · have hc4 : y = 0 := hc4
          refine lv_iconst (v := 1) hx hb d_Re_allows_21 (by decide) ?_
          refine lv_goto (tgt := 26) hx hb d_Re_allows_22 (by decide) ?_
          rw [if_pos hc1, if_neg hc2, if_neg hc3, if_pos hc4] at hR
          subst hR
          exact W.zret (v := 1) hx hb hr (by decide) (fun t9 ht hW => ⟨rfl, ht⟩) (fun q h => nomatch h) d_Re_allows_26

def f_Se_allows (u : Int32) (x : Int32) (y : Int32) : Int32 := if u = 1 then (if okE x then (if okE y then (1) else (0)) else (0)) else (0)
set_option maxHeartbeats 4000000 in
set_option maxRecDepth 100000 in
theorem m_Se_allows (l : Launch) (D : va_G) (cI cJ cZ cO : ClassId) (b : Nat) (u : Int32) (x : Int32) (y : Int32) (R : Int32) (hR : f_Se_allows u x y = R) : Met l y_Se_allows (k_Se_allows :: gt) rm_Se_allows (Pc0 D cI cJ cZ cO [.ref b, .int u, .int x, .int y] (fun H => True)) (Qp (some (.int R))) 0 0 (fun _ => False) := by
  refine Met.ofW (cc := c_Se_allows) (maxL := 4) (ret := (Option.some FieldType.boolean)) (by decide) rfl ?_
  intro p e s m args below meth c s₁ B hml hv
  obtain ⟨rfl, hKn, -⟩ := hv
  have hx := B.exec
  have hb := B.bytes
  have hr := B.returns
  have hts := atoms_spec (ws := k_Se_allows :: gt) B.pre
  have hg : ∀ w ∈ gt, w.before _ s = true := fun w h => hts w (List.mem_cons_of_mem _ h)
  have hown : s.vm.findClass R_Se = some m.cls := findClass_of_methodNamed B.named
  have hlocks := B.notSynchronized
  have hK := hKn.1
  have hl := lv_entry ([.ref b, .int u, .int x, .int y]) (n := 4) (Nat.le_of_ble_eq_true rfl)
  rw [lg_entry_eq]
  generalize (lg_sl ([.ref b, .int u, .int x, .int y]) ++ List.replicate (4 - (lg_sl ([.ref b, .int u, .int x, .int y])).length) Slot.unset).toArray = ls at hl ⊢
  have hl : lv_has ls 4 [(0, .ref b), (1, .int u), (2, .int x), (3, .int y)] := hl
  have hR : (if u = 1 then (if okE x then (if okE y then (1) else (0)) else (0)) else (0)) = R := hR
  refine lv_iload_n hx hb d_Se_allows_0 rfl (lv_at hl 1 rfl) ?_
  refine lv_iconst (v := 1) hx hb d_Se_allows_1 (by decide) ?_
  refine lv_icmp_ne (tgt := 23) hx hb d_Se_allows_2 (by decide) (fun hc1 => ?_) (fun hc1 => ?_)
  · have hc1 : ¬ (u = 1) := hc1
    refine lv_iconst (v := 0) hx hb d_Se_allows_23 (by decide) ?_
    rw [if_neg hc1] at hR
    subst hR
    exact W.zret (v := 0) hx hb hr (by decide) (fun t9 ht hW => ⟨rfl, ht⟩) (fun q h => nomatch h) d_Se_allows_24
  · have hc1 : u = 1 := hc1
    refine lv_iload_n hx hb d_Se_allows_5 rfl (lv_at hl 2 rfl) ?_
    refine ep_callP (ep_toC (va_runSN (As := [.int x]) (rest := []) ⟨hx, hb, hml, hown, hg⟩ (m_EP_isElement l D cI cJ cZ cO x) (⟨ep_cnB (host := "EditablePast") 1 hg tk_EP_isElement rfl rfl (hKn.2.1 ("EditablePast$Sets", 15, ⟨"EditablePast", "isElement", "(I)Z"⟩) (by decide +kernel)) tw_1 (by decide +kernel) ⟨(Nat.le_of_ble_eq_true rfl), (Nat.le_of_ble_eq_true rfl)⟩, hg _ tw_381, trivial⟩) ⟨ep_blind, ep_pre hKn (trivial)⟩ rfl rfl hl.1 rfl (lv_room (Nat.le_of_ble_eq_true rfl)) d_Se_allows_6 ⟨Nat.zero_le _, Nat.zero_le _⟩)) ?_
    refine W.eq (g2 := F0 m 9 ls [.int (bI (okE x))]) rfl ?_
    by_cases hc2 : okE x
    · rw [show bI (okE x) = 1 from if_pos hc2]
      refine lv_if_eq (tgt := 23) hx hb d_Se_allows_9 (by decide) (fun hc => False.elim (by revert hc; decide)) (fun hc => ?_)
      refine lv_iload_n hx hb d_Se_allows_12 rfl (lv_at hl 3 rfl) ?_
      refine ep_callP (ep_toC (va_runSN (As := [.int y]) (rest := []) ⟨hx, hb, hml, hown, hg⟩ (m_EP_isElement l D cI cJ cZ cO y) (⟨ep_cnB (host := "EditablePast") 1 hg tk_EP_isElement rfl rfl (hKn.2.1 ("EditablePast$Sets", 15, ⟨"EditablePast", "isElement", "(I)Z"⟩) (by decide +kernel)) tw_1 (by decide +kernel) ⟨(Nat.le_of_ble_eq_true rfl), (Nat.le_of_ble_eq_true rfl)⟩, hg _ tw_381, trivial⟩) ⟨ep_blind, ep_pre hKn (trivial)⟩ rfl rfl hl.1 rfl (lv_room (Nat.le_of_ble_eq_true rfl)) d_Se_allows_13 ⟨Nat.zero_le _, Nat.zero_le _⟩)) ?_
      refine W.eq (g2 := F0 m 16 ls [.int (bI (okE y))]) rfl ?_
      by_cases hc3 : okE y
      · rw [show bI (okE y) = 1 from if_pos hc3]
        refine lv_if_eq (tgt := 23) hx hb d_Se_allows_16 (by decide) (fun hc => False.elim (by revert hc; decide)) (fun hc => ?_)
        refine lv_iconst (v := 1) hx hb d_Se_allows_19 (by decide) ?_
        refine lv_goto (tgt := 24) hx hb d_Se_allows_20 (by decide) ?_
        rw [if_pos hc1, if_pos hc2, if_pos hc3] at hR
        subst hR
        exact W.zret (v := 1) hx hb hr (by decide) (fun t9 ht hW => ⟨rfl, ht⟩) (fun q h => nomatch h) d_Se_allows_24
      · rw [show bI (okE y) = 0 from if_neg hc3]
        refine lv_if_eq (tgt := 23) hx hb d_Se_allows_16 (by decide) (fun hc => ?_) (fun hc => False.elim (by revert hc; decide))
        refine lv_iconst (v := 0) hx hb d_Se_allows_23 (by decide) ?_
        rw [if_pos hc1, if_pos hc2, if_neg hc3] at hR
        subst hR
        exact W.zret (v := 0) hx hb hr (by decide) (fun t9 ht hW => ⟨rfl, ht⟩) (fun q h => nomatch h) d_Se_allows_24
    · rw [show bI (okE x) = 0 from if_neg hc2]
      refine lv_if_eq (tgt := 23) hx hb d_Se_allows_9 (by decide) (fun hc => ?_) (fun hc => False.elim (by revert hc; decide))
      refine lv_iconst (v := 0) hx hb d_Se_allows_23 (by decide) ?_
      rw [if_pos hc1, if_neg hc2] at hR
      subst hR
      exact W.zret (v := 0) hx hb hr (by decide) (fun t9 ht hW => ⟨rfl, ht⟩) (fun q h => nomatch h) d_Se_allows_24
