/-! EditablePast (by wip/whole/gen/ep.py) -/
def f_EP_open_b (u : Int32) : Nat := if u < 0 then (1) else (if u ≤ 5 then (1) else (1))

set_option maxHeartbeats 4000000 in
set_option maxRecDepth 100000 in
theorem m_EP_open_b (l : Launch) (hlt : l.stackTraces = false) (D : va_G) (cI cJ cZ cO : ClassId) (o : Nat) (id : Int32) (u : Int32) (hid : ¬ okI id) (R : Nat) (hR : f_EP_open_b u = R) : vx_Met l y_EP_open (k_EP_open :: gt) rx_EP_open (PcX D cI cJ cZ cO (fun _ => False) [.ref o, .int id, .int u] (fun H => va_P D cls (wEP cO o) H)) (Qt R (fun _ => False) none (fun H => True)) (Xt R E_NSE (fun _ => False) (fun H => True)) 1 6 (fun _ => False) := by
  refine vx_ofW (cc := c_EP_open) (maxL := 4) (ret := none) (by decide) rfl ?_
  intro p e s m args below meth c s₁ B hml hno hv
  obtain ⟨rfl, hKn, hZ, hE⟩ := hv
  have hx := B.exec
  have hb := B.bytes
  have hr := B.returns
  have hts := atoms_spec (ws := k_EP_open :: gt) B.pre
  have hg : ∀ w ∈ gt, w.before _ s = true := fun w h => hts w (List.mem_cons_of_mem _ h)
  have hown : s.vm.findClass R_EP = some m.cls := findClass_of_methodNamed B.named
  have hlocks := B.notSynchronized
  have hK := hKn.1
  have hl := lv_entry ([.ref o, .int id, .int u]) (n := 4) (Nat.le_of_ble_eq_true rfl)
  rw [lg_entry_eq]
  generalize (lg_sl ([.ref o, .int id, .int u]) ++ List.replicate (4 - (lg_sl ([.ref o, .int id, .int u])).length) Slot.unset).toArray = ls at hl ⊢
  have hl : lv_has ls 4 [(0, .ref o), (1, .int id), (2, .int u)] := hl
  have hS : va_S (fun _ => False) s.heap s.heap [] := va_S.rf
  have hR : (if u < 0 then (1) else (if u ≤ 5 then (1) else (1))) = R := hR
  refine lv_iload_n hx hb d_EP_open_0 rfl (lv_at hl 2 rfl) ?_
  refine lv_if_lt (tgt := 9) hx hb d_EP_open_1 (by decide) (fun hc1 => ?_) (fun hc1 => ?_)
  · have hc1 : u < 0 := hc1
    rw [if_pos hc1] at hR
    subst hR
    obtain ⟨sa, hsa⟩ := hKn.2.2.2.2.2 ("EditablePast", 60, "there is no such kind") (by decide +kernel)
    exact vx_throwS (text := "there is no such kind") (names := th_n) hx hb hlt hown (by decide +kernel) (by decide +kernel) (hg _ tw_229) (hg _ tw_16) hsa (ta_IAE hg hKn) ta_IAE_o hZ.1 hZ.2 hS (hl.1.trans hml.symm) d_EP_open_9 d_EP_open_12 d_EP_open_13 d_EP_open_15 d_EP_open_18 (fun x h => (hno x h).elim) (Nat.le_of_ble_eq_true rfl) (Nat.le_of_ble_eq_true rfl) (Nat.le_of_ble_eq_true rfl) (Nat.le_of_ble_eq_true rfl) hlocks (fun t9 hv h1 h2 => ⟨by show (1 : Nat) ≠ 0; decide, rfl, F_ext hS h1 h2, trivial⟩) hS.2.2 (Nat.le_of_ble_eq_true rfl) (Nat.le_of_ble_eq_true rfl)
  · have hc1 : ¬ (u < 0) := hc1
    refine lv_iload_n hx hb d_EP_open_4 rfl (lv_at hl 2 rfl) ?_
    refine lv_iconst (v := 5) hx hb d_EP_open_5 (by decide) ?_
    refine lv_icmp_le (tgt := 19) hx hb d_EP_open_6 (by decide) (fun hc2 => ?_) (fun hc2 => ?_)
    · have hc2 : u ≤ 5 := hc2
      refine lv_aload_n hx hb d_EP_open_19 rfl (lv_at hl 0 rfl) ?_
      refine lv_iload_n hx hb d_EP_open_20 rfl (lv_at hl 1 rfl) ?_
      rw [if_neg hc1, if_pos hc2] at hR
      subst hR
      refine ep_callX (E := E_IAE) (vx_runV (As := [.int id]) (rest := []) ⟨hx, hb, hml, hown, hg⟩ (m_EP_collectionOf_x l hlt D cI cJ cZ cO o id hid) (ep_cwV 1 hg tw_299 tw_301 ts_1 tw_1 tk_EP_collectionOf rfl rfl (by decide +kernel) ⟨(Nat.le_of_ble_eq_true rfl), (Nat.le_of_ble_eq_true rfl)⟩) ⟨ep_blindX, va_recv (q0 := 0) (ci := 8) hK hE rfl rfl, ep_preX hKn (Zs.kept hZ hS (fun q h => h.elim)) (hE)⟩ rfl rfl hl.1 rfl (lv_room (Nat.le_of_ble_eq_true rfl)) d_EP_open_21 ⟨(Nat.le_of_ble_eq_true rfl), (Nat.le_of_ble_eq_true rfl)⟩) hS (fun q h => h.elim) (fun ce q9 H1 locs1 hz1 hk1 hS1 hce hcv hcl => ?_)
      exact vx_out (fun x h => (hno x h).elim) hlocks hce hcv hcl (fun t9 ht hv => ⟨by show (1 : Nat) ≠ 0; decide, rfl, hS1.F ht, trivial⟩) hS1.2.2 (Nat.le_of_ble_eq_true rfl) (Nat.le_of_ble_eq_true rfl)
    · have hc2 : ¬ (u ≤ 5) := hc2
      rw [if_neg hc1, if_neg hc2] at hR
      subst hR
      obtain ⟨sa, hsa⟩ := hKn.2.2.2.2.2 ("EditablePast", 60, "there is no such kind") (by decide +kernel)
      exact vx_throwS (text := "there is no such kind") (names := th_n) hx hb hlt hown (by decide +kernel) (by decide +kernel) (hg _ tw_229) (hg _ tw_16) hsa (ta_IAE hg hKn) ta_IAE_o hZ.1 hZ.2 hS (hl.1.trans hml.symm) d_EP_open_9 d_EP_open_12 d_EP_open_13 d_EP_open_15 d_EP_open_18 (fun x h => (hno x h).elim) (Nat.le_of_ble_eq_true rfl) (Nat.le_of_ble_eq_true rfl) (Nat.le_of_ble_eq_true rfl) (Nat.le_of_ble_eq_true rfl) hlocks (fun t9 hv h1 h2 => ⟨by show (1 : Nat) ≠ 0; decide, rfl, F_ext hS h1 h2, trivial⟩) hS.2.2 (Nat.le_of_ble_eq_true rfl) (Nat.le_of_ble_eq_true rfl)

def f_EP_open (kd : Int32) (n : Nat) (n2 : Nat) (u : Int32) : Nat × Int32 × Nat × Nat := if u < 0 then ((1, kd, n, n2)) else (if u ≤ 5 then (if kd = (-1) then ((0, u, 0, 0)) else ((2, kd, n, n2))) else ((1, kd, n, n2)))

set_option maxHeartbeats 4000000 in
set_option maxRecDepth 100000 in
theorem m_EP_open (l : Launch) (hlt : l.stackTraces = false) (D : va_G) (cI cJ cZ cO : ClassId) (o : Nat) (j : Nat) (kd : Int32) (n : Nat) (mo : Nat → Int32) (na : Nat → Int32) (aa : Nat → Int32) (bb : Nat → Int32) (re : Nat → Int64) (ef : Nat → Int32) (n2 : Nat) (mo2 : Nat → Int32) (na2 : Nat → Int32) (aa2 : Nat → Int32) (bb2 : Nat → Int32) (re2 : Nat → Int64) (ef2 : Nat → Int32) (u : Int32) (hj : j < 4) (R : Nat × Int32 × Nat × Nat) (hR : f_EP_open kd n n2 u = R) : vx_Met l y_EP_open (k_EP_open :: gt) rx_EP_open (PcX D cI cJ cZ cO (blk (o + 2 + 15 * j) 15) [.ref o, .int (nI j), .int u] (fun H => va_P D cls (wEP cO o) H ∧ va_P D cls (wCo (o + 2 + 15 * j) kd ++ (wLi cI cJ cZ (o + 2 + 15 * j + 1) n mo na aa bb re ef ++ wLi cI cJ cZ (o + 2 + 15 * j + 8) n2 mo2 na2 aa2 bb2 re2 ef2)) H)) (Qt R.1 (blk (o + 2 + 15 * j) 15) none (fun H => va_P D cls (wCo (o + 2 + 15 * j) R.2.1 ++ (wLi cI cJ cZ (o + 2 + 15 * j + 1) R.2.2.1 mo na aa bb re ef ++ wLi cI cJ cZ (o + 2 + 15 * j + 8) R.2.2.2 mo2 na2 aa2 bb2 re2 ef2)) H)) (Xt R.1 E_NSE (blk (o + 2 + 15 * j) 15) (fun H => va_P D cls (wCo (o + 2 + 15 * j) R.2.1 ++ (wLi cI cJ cZ (o + 2 + 15 * j + 1) R.2.2.1 mo na aa bb re ef ++ wLi cI cJ cZ (o + 2 + 15 * j + 8) R.2.2.2 mo2 na2 aa2 bb2 re2 ef2)) H)) 1 6 (blk (o + 2 + 15 * j) 15) := by
  refine vx_ofW (cc := c_EP_open) (maxL := 4) (ret := none) (by decide) rfl ?_
  intro p e s m args below meth c s₁ B hml hno hv
  obtain ⟨rfl, hKn, hZ, hE, hP⟩ := hv
  have hx := B.exec
  have hb := B.bytes
  have hr := B.returns
  have hts := atoms_spec (ws := k_EP_open :: gt) B.pre
  have hg : ∀ w ∈ gt, w.before _ s = true := fun w h => hts w (List.mem_cons_of_mem _ h)
  have hown : s.vm.findClass R_EP = some m.cls := findClass_of_methodNamed B.named
  have hlocks := B.notSynchronized
  have hK := hKn.1
  have hl := lv_entry ([.ref o, .int (nI j), .int u]) (n := 4) (Nat.le_of_ble_eq_true rfl)
  rw [lg_entry_eq]
  generalize (lg_sl ([.ref o, .int (nI j), .int u]) ++ List.replicate (4 - (lg_sl ([.ref o, .int (nI j), .int u])).length) Slot.unset).toArray = ls at hl ⊢
  have hl : lv_has ls 4 [(0, .ref o), (1, .int (nI j)), (2, .int u)] := hl
  have hS : va_S (blk (o + 2 + 15 * j) 15) s.heap s.heap [] := va_S.rf
  have hE0 := hE
  have hD : va_D (blk (o + 2 + 15 * j) 15) (wCo (o + 2 + 15 * j) kd ++ (wLi cI cJ cZ (o + 2 + 15 * j + 1) n mo na aa bb re ef ++ wLi cI cJ cZ (o + 2 + 15 * j + 8) n2 mo2 na2 aa2 bb2 re2 ef2)) := col_D
  have hR : (if u < 0 then ((1, kd, n, n2)) else (if u ≤ 5 then (if kd = (-1) then ((0, u, 0, 0)) else ((2, kd, n, n2))) else ((1, kd, n, n2)))) = R := hR
  refine lv_iload_n hx hb d_EP_open_0 rfl (lv_at hl 2 rfl) ?_
  refine lv_if_lt (tgt := 9) hx hb d_EP_open_1 (by decide) (fun hc1 => ?_) (fun hc1 => ?_)
  · have hc1 : u < 0 := hc1
    rw [if_pos hc1] at hR
    subst hR
    obtain ⟨sa, hsa⟩ := hKn.2.2.2.2.2 ("EditablePast", 60, "there is no such kind") (by decide +kernel)
    exact vx_throwS (text := "there is no such kind") (names := th_n) hx hb hlt hown (by decide +kernel) (by decide +kernel) (hg _ tw_229) (hg _ tw_16) hsa (ta_IAE hg hKn) ta_IAE_o hZ.1 hZ.2 hS (hl.1.trans hml.symm) d_EP_open_9 d_EP_open_12 d_EP_open_13 d_EP_open_15 d_EP_open_18 (fun x h => (hno x h).elim) (Nat.le_of_ble_eq_true rfl) (Nat.le_of_ble_eq_true rfl) (Nat.le_of_ble_eq_true rfl) (Nat.le_of_ble_eq_true rfl) hlocks (fun t9 hv h1 h2 => ⟨by show (1 : Nat) ≠ 0; decide, rfl, F_ext hS h1 h2, wo_kx hP h2⟩) hS.2.2 (Nat.le_of_ble_eq_true rfl) (Nat.le_of_ble_eq_true rfl)
  · have hc1 : ¬ (u < 0) := hc1
    refine lv_iload_n hx hb d_EP_open_4 rfl (lv_at hl 2 rfl) ?_
    refine lv_iconst (v := 5) hx hb d_EP_open_5 (by decide) ?_
    refine lv_icmp_le (tgt := 19) hx hb d_EP_open_6 (by decide) (fun hc2 => ?_) (fun hc2 => ?_)
    · have hc2 : u ≤ 5 := hc2
      refine lv_aload_n hx hb d_EP_open_19 rfl (lv_at hl 0 rfl) ?_
      refine lv_iload_n hx hb d_EP_open_20 rfl (lv_at hl 1 rfl) ?_
      refine ep_callP (W.runV (As := [.int (nI j)]) (rest := []) ⟨hx, hb, hml, hown, hg⟩ (m_EP_collectionOf_ok l D cI cJ cZ cO o j (by omega)) (ep_cwV 1 hg tw_299 tw_301 ts_1 tw_1 tk_EP_collectionOf rfl rfl (by decide +kernel) ⟨(Nat.le_of_ble_eq_true rfl), (Nat.le_of_ble_eq_true rfl)⟩) ⟨ep_blind, va_recv (q0 := 0) (ci := 8) hK hE rfl rfl, ep_pre hKn (hE)⟩ rfl rfl hl.1 rfl (lv_room (Nat.le_of_ble_eq_true rfl)) d_EP_open_21 ⟨Nat.zero_le _, Nat.zero_le _⟩) ?_
      refine W.eq (g2 := F0 m 24 ls [.ref (o + 2 + 15 * j)]) rfl ?_
      refine lv_astore_n (lv' := [(3, .ref (o + 2 + 15 * j)), (0, .ref o), (1, .int (nI j)), (2, .int u)]) hx hb d_EP_open_24 rfl hl (by decide) rfl (fun ls hl => ?_)
      refine lv_aload_n hx hb d_EP_open_25 rfl (lv_at hl 0 rfl) ?_
      refine va_get (D := D) (ci := 0) (v := .int kd) (C := R_Co) (T := F_Co) (N := 3) hx hb hg in_Co hown hK hP 0 rfl rfl 0 (Nat.le_of_ble_eq_true rfl) (hg _ tw_76) (fun _ h9 => h9) rfl d_EP_open_26 ?_
      refine lv_iconst (v := (-1)) hx hb d_EP_open_29 (by decide) ?_
      refine lv_icmp_eq (tgt := 43) hx hb d_EP_open_30 (by decide) (fun hc3 => ?_) (fun hc3 => ?_)
      · have hc3 : kd = (-1) := hc3
        refine lv_aload_n hx hb d_EP_open_43 rfl (lv_at hl 0 rfl) ?_
        refine lv_iload_n hx hb d_EP_open_44 rfl (lv_at hl 3 rfl) ?_
        refine va_put (D := D) (ci := 0) (v := .int u) (ty := .int) (C := R_Co) (T := F_Co) (N := 3) hx hb hg in_Co t_Co t_Co_ok n_Co hown hK hP hD hS 0 rfl rfl 0 (Nat.le_of_ble_eq_true rfl) (hg _ tw_76) (fun _ h9 => h9) rfl (by decide +kernel) rfl rfl (Nat.le_of_ble_eq_true rfl) d_EP_open_45 (fun H locs hP hD hS => ?_)
        have hP : va_P D cls (wCo (o + 2 + 15 * j) u ++ (wLi cI cJ cZ (o + 2 + 15 * j + 1) n mo na aa bb re ef ++ wLi cI cJ cZ (o + 2 + 15 * j + 8) n2 mo2 na2 aa2 bb2 re2 ef2)) H := hP
        have hD : va_D (blk (o + 2 + 15 * j) 15) (wCo (o + 2 + 15 * j) u ++ (wLi cI cJ cZ (o + 2 + 15 * j + 1) n mo na aa bb re ef ++ wLi cI cJ cZ (o + 2 + 15 * j + 8) n2 mo2 na2 aa2 bb2 re2 ef2)) := hD
        have hE := wo_kp hE0 hS (off_in (rng_of wEP_in) (by intro q h1 h2 h3; simp only [blk] at h3; omega))
        refine lv_aload_n hx hb d_EP_open_48 rfl (lv_at hl 0 rfl) ?_
        refine va_get (D := D) (ci := 0) (v := .ref (o + 2 + 15 * j + 8)) (C := R_Co) (T := F_Co) (N := 3) hx hb hg in_Co hown hK hP 0 rfl rfl 2 (Nat.le_of_ble_eq_true rfl) (hg _ tw_80) (fun _ h9 => h9) rfl d_EP_open_49 ?_
        refine lv_iconst (v := 0) hx hb d_EP_open_52 (by decide) ?_
        refine lv_topi (fun z7 e_z7 => ?_)
        obtain rfl : z7 = nI 0 := by rw [e_z7]; exact nI_0.symm
        refine va_put (D := D) (ci := 1) (v := .int (nI 0)) (ty := .int) (C := R_Li) (T := F_Li) (N := 7) hx hb hg in_Li t_Li t_Li_ok n_Li hown hK hP hD hS 8 rfl rfl 0 (Nat.le_of_ble_eq_true rfl) (hg _ tw_44) (fun _ h9 => h9) rfl (by decide +kernel) rfl rfl (Nat.le_of_ble_eq_true rfl) d_EP_open_53 (fun H locs hP hD hS => ?_)
        have hP : va_P D cls (wCo (o + 2 + 15 * j) u ++ (wLi cI cJ cZ (o + 2 + 15 * j + 1) n mo na aa bb re ef ++ wLi cI cJ cZ (o + 2 + 15 * j + 8) 0 mo2 na2 aa2 bb2 re2 ef2)) H := hP
        have hD : va_D (blk (o + 2 + 15 * j) 15) (wCo (o + 2 + 15 * j) u ++ (wLi cI cJ cZ (o + 2 + 15 * j + 1) n mo na aa bb re ef ++ wLi cI cJ cZ (o + 2 + 15 * j + 8) 0 mo2 na2 aa2 bb2 re2 ef2)) := hD
        have hE := wo_kp hE0 hS (off_in (rng_of wEP_in) (by intro q h1 h2 h3; simp only [blk] at h3; omega))
        refine lv_aload_n hx hb d_EP_open_56 rfl (lv_at hl 0 rfl) ?_
        refine va_get (D := D) (ci := 0) (v := .ref (o + 2 + 15 * j + 1)) (C := R_Co) (T := F_Co) (N := 3) hx hb hg in_Co hown hK hP 0 rfl rfl 1 (Nat.le_of_ble_eq_true rfl) (hg _ tw_78) (fun _ h9 => h9) rfl d_EP_open_57 ?_
        refine lv_iconst (v := 0) hx hb d_EP_open_60 (by decide) ?_
        refine lv_topi (fun z7 e_z7 => ?_)
        obtain rfl : z7 = nI 0 := by rw [e_z7]; exact nI_0.symm
        refine va_put (D := D) (ci := 1) (v := .int (nI 0)) (ty := .int) (C := R_Li) (T := F_Li) (N := 7) hx hb hg in_Li t_Li t_Li_ok n_Li hown hK hP hD hS 1 rfl rfl 0 (Nat.le_of_ble_eq_true rfl) (hg _ tw_44) (fun _ h9 => h9) rfl (by decide +kernel) rfl rfl (Nat.le_of_ble_eq_true rfl) d_EP_open_61 (fun H locs hP hD hS => ?_)
        have hP : va_P D cls (wCo (o + 2 + 15 * j) u ++ (wLi cI cJ cZ (o + 2 + 15 * j + 1) 0 mo na aa bb re ef ++ wLi cI cJ cZ (o + 2 + 15 * j + 8) 0 mo2 na2 aa2 bb2 re2 ef2)) H := hP
        have hD : va_D (blk (o + 2 + 15 * j) 15) (wCo (o + 2 + 15 * j) u ++ (wLi cI cJ cZ (o + 2 + 15 * j + 1) 0 mo na aa bb re ef ++ wLi cI cJ cZ (o + 2 + 15 * j + 8) 0 mo2 na2 aa2 bb2 re2 ef2)) := hD
        have hE := wo_kp hE0 hS (off_in (rng_of wEP_in) (by intro q h1 h2 h3; simp only [blk] at h3; omega))
        rw [if_neg hc1, if_pos hc2, if_pos hc3] at hR
        subst hR
        refine vx_ret ?_
        refine W.widen (k := 1) (n := 6) (Nat.le_of_ble_eq_true rfl) (Nat.le_of_ble_eq_true rfl) ?_
        exact W.vret hx hb hr (fun t9 ht hW => ⟨rfl, rfl, hS.F ht, by rw [ht]; exact hP⟩) hS.2.2 d_EP_open_64
      · have hc3 : ¬ (kd = (-1)) := hc3
        rw [if_neg hc1, if_pos hc2, if_neg hc3] at hR
        subst hR
        obtain ⟨sa, hsa⟩ := hKn.2.2.2.2.2 ("EditablePast", 75, "the collection is open") (by decide +kernel)
        exact vx_throwS (text := "the collection is open") (names := th_n) hx hb hlt hown (by decide +kernel) (by decide +kernel) (hg _ tw_304) (hg _ tw_17) hsa (ta_ISE hg hKn) ta_ISE_o hZ.1 hZ.2 hS (hl.1.trans hml.symm) d_EP_open_33 d_EP_open_36 d_EP_open_37 d_EP_open_39 d_EP_open_42 (fun x h => (hno x h).elim) (Nat.le_of_ble_eq_true rfl) (Nat.le_of_ble_eq_true rfl) (Nat.le_of_ble_eq_true rfl) (Nat.le_of_ble_eq_true rfl) hlocks (fun t9 hv h1 h2 => ⟨by show (2 : Nat) ≠ 0; decide, rfl, F_ext hS h1 h2, wo_kx hP h2⟩) hS.2.2 (Nat.le_of_ble_eq_true rfl) (Nat.le_of_ble_eq_true rfl)
    · have hc2 : ¬ (u ≤ 5) := hc2
      rw [if_neg hc1, if_neg hc2] at hR
      subst hR
      obtain ⟨sa, hsa⟩ := hKn.2.2.2.2.2 ("EditablePast", 60, "there is no such kind") (by decide +kernel)
      exact vx_throwS (text := "there is no such kind") (names := th_n) hx hb hlt hown (by decide +kernel) (by decide +kernel) (hg _ tw_229) (hg _ tw_16) hsa (ta_IAE hg hKn) ta_IAE_o hZ.1 hZ.2 hS (hl.1.trans hml.symm) d_EP_open_9 d_EP_open_12 d_EP_open_13 d_EP_open_15 d_EP_open_18 (fun x h => (hno x h).elim) (Nat.le_of_ble_eq_true rfl) (Nat.le_of_ble_eq_true rfl) (Nat.le_of_ble_eq_true rfl) (Nat.le_of_ble_eq_true rfl) hlocks (fun t9 hv h1 h2 => ⟨by show (1 : Nat) ≠ 0; decide, rfl, F_ext hS h1 h2, wo_kx hP h2⟩) hS.2.2 (Nat.le_of_ble_eq_true rfl) (Nat.le_of_ble_eq_true rfl)

def f_EP_close_b  : Nat × Int32 := (1, 0)

set_option maxHeartbeats 4000000 in
set_option maxRecDepth 100000 in
theorem m_EP_close_b (l : Launch) (hlt : l.stackTraces = false) (D : va_G) (cI cJ cZ cO : ClassId) (o : Nat) (id : Int32) (hid : ¬ okI id) (R : Nat × Int32) (hR : f_EP_close_b = R) : vx_Met l y_EP_close (k_EP_close :: gt) rx_EP_close (PcX D cI cJ cZ cO (fun _ => False) [.ref o, .int id] (fun H => va_P D cls (wEP cO o) H)) (Qt R.1 (fun _ => False) (some (.int R.2)) (fun H => True)) (Xt R.1 E_NSE (fun _ => False) (fun H => True)) 1 6 (fun _ => False) := by
  refine vx_ofW (cc := c_EP_close) (maxL := 3) (ret := (Option.some FieldType.int)) (by decide) rfl ?_
  intro p e s m args below meth c s₁ B hml hno hv
  obtain ⟨rfl, hKn, hZ, hE⟩ := hv
  have hx := B.exec
  have hb := B.bytes
  have hr := B.returns
  have hts := atoms_spec (ws := k_EP_close :: gt) B.pre
  have hg : ∀ w ∈ gt, w.before _ s = true := fun w h => hts w (List.mem_cons_of_mem _ h)
  have hown : s.vm.findClass R_EP = some m.cls := findClass_of_methodNamed B.named
  have hlocks := B.notSynchronized
  have hK := hKn.1
  have hl := lv_entry ([.ref o, .int id]) (n := 3) (Nat.le_of_ble_eq_true rfl)
  rw [lg_entry_eq]
  generalize (lg_sl ([.ref o, .int id]) ++ List.replicate (3 - (lg_sl ([.ref o, .int id])).length) Slot.unset).toArray = ls at hl ⊢
  have hl : lv_has ls 3 [(0, .ref o), (1, .int id)] := hl
  have hS : va_S (fun _ => False) s.heap s.heap [] := va_S.rf
  have hR : ((1, 0)) = R := hR
  refine lv_aload_n hx hb d_EP_close_0 rfl (lv_at hl 0 rfl) ?_
  refine lv_iload_n hx hb d_EP_close_1 rfl (lv_at hl 1 rfl) ?_
  subst hR
  refine ep_callX (E := E_IAE) (vx_runV (As := [.int id]) (rest := []) ⟨hx, hb, hml, hown, hg⟩ (m_EP_openCollection_b l hlt D cI cJ cZ cO o id hid) (ep_cwV 1 hg tw_327 tw_329 ts_2 tw_1 tk_EP_openCollection rfl rfl (by decide +kernel) ⟨(Nat.le_of_ble_eq_true rfl), (Nat.le_of_ble_eq_true rfl)⟩) ⟨ep_blindX, va_recv (q0 := 0) (ci := 8) hK hE rfl rfl, ep_preX hKn (Zs.kept hZ hS (fun q h => h.elim)) (hE)⟩ rfl rfl hl.1 rfl (lv_room (Nat.le_of_ble_eq_true rfl)) d_EP_close_2 ⟨(Nat.le_of_ble_eq_true rfl), (Nat.le_of_ble_eq_true rfl)⟩) hS (fun q h => h.elim) (fun ce q9 H1 locs1 hz1 hk1 hS1 hce hcv hcl => ?_)
  exact vx_out (fun x h => (hno x h).elim) hlocks hce hcv hcl (fun t9 ht hv => ⟨by show (1 : Nat) ≠ 0; decide, rfl, hS1.F ht, trivial⟩) hS1.2.2 (Nat.le_of_ble_eq_true rfl) (Nat.le_of_ble_eq_true rfl)

def f_EP_close_c  : Nat × Int32 := (2, 0)

set_option maxHeartbeats 4000000 in
set_option maxRecDepth 100000 in
theorem m_EP_close_c (l : Launch) (hlt : l.stackTraces = false) (D : va_G) (cI cJ cZ cO : ClassId) (o : Nat) (j : Nat) (hj : j < 4) (R : Nat × Int32) (hR : f_EP_close_c = R) : vx_Met l y_EP_close (k_EP_close :: gt) rx_EP_close (PcX D cI cJ cZ cO (fun _ => False) [.ref o, .int (nI j)] (fun H => va_P D cls (wEP cO o) H ∧ va_P D cls (wCo (o + 2 + 15 * j) (-1)) H)) (Qt R.1 (fun _ => False) (some (.int R.2)) (fun H => True)) (Xt R.1 E_NSE (fun _ => False) (fun H => True)) 1 6 (fun _ => False) := by
  refine vx_ofW (cc := c_EP_close) (maxL := 3) (ret := (Option.some FieldType.int)) (by decide) rfl ?_
  intro p e s m args below meth c s₁ B hml hno hv
  obtain ⟨rfl, hKn, hZ, hE, hC⟩ := hv
  have hx := B.exec
  have hb := B.bytes
  have hr := B.returns
  have hts := atoms_spec (ws := k_EP_close :: gt) B.pre
  have hg : ∀ w ∈ gt, w.before _ s = true := fun w h => hts w (List.mem_cons_of_mem _ h)
  have hown : s.vm.findClass R_EP = some m.cls := findClass_of_methodNamed B.named
  have hlocks := B.notSynchronized
  have hK := hKn.1
  have hl := lv_entry ([.ref o, .int (nI j)]) (n := 3) (Nat.le_of_ble_eq_true rfl)
  rw [lg_entry_eq]
  generalize (lg_sl ([.ref o, .int (nI j)]) ++ List.replicate (3 - (lg_sl ([.ref o, .int (nI j)])).length) Slot.unset).toArray = ls at hl ⊢
  have hl : lv_has ls 3 [(0, .ref o), (1, .int (nI j))] := hl
  have hS : va_S (fun _ => False) s.heap s.heap [] := va_S.rf
  have hR : ((2, 0)) = R := hR
  refine lv_aload_n hx hb d_EP_close_0 rfl (lv_at hl 0 rfl) ?_
  refine lv_iload_n hx hb d_EP_close_1 rfl (lv_at hl 1 rfl) ?_
  subst hR
  refine ep_callX (E := E_ISE) (vx_runV (As := [.int (nI j)]) (rest := []) ⟨hx, hb, hml, hown, hg⟩ (m_EP_openCollection_c l hlt D cI cJ cZ cO o j (by omega)) (ep_cwV 1 hg tw_327 tw_329 ts_2 tw_1 tk_EP_openCollection rfl rfl (by decide +kernel) ⟨(Nat.le_of_ble_eq_true rfl), (Nat.le_of_ble_eq_true rfl)⟩) ⟨ep_blindX, va_recv (q0 := 0) (ci := 8) hK hE rfl rfl, ep_preX hKn (Zs.kept hZ hS (fun q h => h.elim)) (⟨hE, hC⟩)⟩ rfl rfl hl.1 rfl (lv_room (Nat.le_of_ble_eq_true rfl)) d_EP_close_2 ⟨(Nat.le_of_ble_eq_true rfl), (Nat.le_of_ble_eq_true rfl)⟩) hS (fun q h => h.elim) (fun ce q9 H1 locs1 hz1 hk1 hS1 hce hcv hcl => ?_)
  exact vx_out (fun x h => (hno x h).elim) hlocks hce hcv hcl (fun t9 ht hv => ⟨by show (2 : Nat) ≠ 0; decide, rfl, hS1.F ht, trivial⟩) hS1.2.2 (Nat.le_of_ble_eq_true rfl) (Nat.le_of_ble_eq_true rfl)

def f_EP_close (n : Nat) : Nat × Nat × Int32 := (0, n, -1)

set_option maxHeartbeats 4000000 in
set_option maxRecDepth 100000 in
theorem m_EP_close (l : Launch) (hlt : l.stackTraces = false) (D : va_G) (cI cJ cZ cO : ClassId) (o : Nat) (j : Nat) (kd : Int32) (n : Nat) (mo : Nat → Int32) (na : Nat → Int32) (aa : Nat → Int32) (bb : Nat → Int32) (re : Nat → Int64) (ef : Nat → Int32) (n2 : Nat) (mo2 : Nat → Int32) (na2 : Nat → Int32) (aa2 : Nat → Int32) (bb2 : Nat → Int32) (re2 : Nat → Int64) (ef2 : Nat → Int32) (hj : j < 4) (hkd : ¬ kd = -1) (R : Nat × Nat × Int32) (hR : f_EP_close n = R) : vx_Met l y_EP_close (k_EP_close :: gt) rx_EP_close (PcX D cI cJ cZ cO (blk (o + 2 + 15 * j) 15) [.ref o, .int (nI j)] (fun H => va_P D cls (wEP cO o) H ∧ va_P D cls (wCo (o + 2 + 15 * j) kd ++ (wLi cI cJ cZ (o + 2 + 15 * j + 1) n mo na aa bb re ef ++ wLi cI cJ cZ (o + 2 + 15 * j + 8) n2 mo2 na2 aa2 bb2 re2 ef2)) H)) (Qt R.1 (blk (o + 2 + 15 * j) 15) (some (.int (nI R.2.1))) (fun H => va_P D cls (wCo (o + 2 + 15 * j) R.2.2 ++ (wLi cI cJ cZ (o + 2 + 15 * j + 1) n mo na aa bb re ef ++ wLi cI cJ cZ (o + 2 + 15 * j + 8) n2 mo2 na2 aa2 bb2 re2 ef2)) H)) (Xt R.1 E_NSE (blk (o + 2 + 15 * j) 15) (fun H => va_P D cls (wCo (o + 2 + 15 * j) R.2.2 ++ (wLi cI cJ cZ (o + 2 + 15 * j + 1) n mo na aa bb re ef ++ wLi cI cJ cZ (o + 2 + 15 * j + 8) n2 mo2 na2 aa2 bb2 re2 ef2)) H)) 1 6 (blk (o + 2 + 15 * j) 15) := by
  refine vx_ofW (cc := c_EP_close) (maxL := 3) (ret := (Option.some FieldType.int)) (by decide) rfl ?_
  intro p e s m args below meth c s₁ B hml hno hv
  obtain ⟨rfl, hKn, hZ, hE, hP⟩ := hv
  have hx := B.exec
  have hb := B.bytes
  have hr := B.returns
  have hts := atoms_spec (ws := k_EP_close :: gt) B.pre
  have hg : ∀ w ∈ gt, w.before _ s = true := fun w h => hts w (List.mem_cons_of_mem _ h)
  have hown : s.vm.findClass R_EP = some m.cls := findClass_of_methodNamed B.named
  have hlocks := B.notSynchronized
  have hK := hKn.1
  have hl := lv_entry ([.ref o, .int (nI j)]) (n := 3) (Nat.le_of_ble_eq_true rfl)
  rw [lg_entry_eq]
  generalize (lg_sl ([.ref o, .int (nI j)]) ++ List.replicate (3 - (lg_sl ([.ref o, .int (nI j)])).length) Slot.unset).toArray = ls at hl ⊢
  have hl : lv_has ls 3 [(0, .ref o), (1, .int (nI j))] := hl
  have hS : va_S (blk (o + 2 + 15 * j) 15) s.heap s.heap [] := va_S.rf
  have hE0 := hE
  have hD : va_D (blk (o + 2 + 15 * j) 15) (wCo (o + 2 + 15 * j) kd ++ (wLi cI cJ cZ (o + 2 + 15 * j + 1) n mo na aa bb re ef ++ wLi cI cJ cZ (o + 2 + 15 * j + 8) n2 mo2 na2 aa2 bb2 re2 ef2)) := col_D
  have hR : ((0, n, -1)) = R := hR
  refine lv_aload_n hx hb d_EP_close_0 rfl (lv_at hl 0 rfl) ?_
  refine lv_iload_n hx hb d_EP_close_1 rfl (lv_at hl 1 rfl) ?_
  refine ep_callP (W.runV (As := [.int (nI j)]) (rest := []) ⟨hx, hb, hml, hown, hg⟩ (m_EP_openCollection_ok l D cI cJ cZ cO o j kd (by omega) hkd) (ep_cwV 1 hg tw_327 tw_329 ts_2 tw_1 tk_EP_openCollection rfl rfl (by decide +kernel) ⟨(Nat.le_of_ble_eq_true rfl), (Nat.le_of_ble_eq_true rfl)⟩) ⟨ep_blind, va_recv (q0 := 0) (ci := 8) hK hE rfl rfl, ep_pre hKn (⟨hE, wo_l hP⟩)⟩ rfl rfl hl.1 rfl (lv_room (Nat.le_of_ble_eq_true rfl)) d_EP_close_2 ⟨Nat.zero_le _, Nat.zero_le _⟩) ?_
  refine W.eq (g2 := F0 m 5 ls [.ref (o + 2 + 15 * j)]) rfl ?_
  refine lv_astore_n (lv' := [(2, .ref (o + 2 + 15 * j)), (0, .ref o), (1, .int (nI j))]) hx hb d_EP_close_5 rfl hl (by decide) rfl (fun ls hl => ?_)
  refine lv_aload_n hx hb d_EP_close_6 rfl (lv_at hl 0 rfl) ?_
  refine lv_iconst (v := (-1)) hx hb d_EP_close_7 (by decide) ?_
  refine va_put (D := D) (ci := 0) (v := .int (-1)) (ty := .int) (C := R_Co) (T := F_Co) (N := 3) hx hb hg in_Co t_Co t_Co_ok n_Co hown hK hP hD hS 0 rfl rfl 0 (Nat.le_of_ble_eq_true rfl) (hg _ tw_76) (fun _ h9 => h9) rfl (by decide +kernel) rfl rfl (Nat.le_of_ble_eq_true rfl) d_EP_close_8 (fun H locs hP hD hS => ?_)
  have hP : va_P D cls (wCo (o + 2 + 15 * j) (-1) ++ (wLi cI cJ cZ (o + 2 + 15 * j + 1) n mo na aa bb re ef ++ wLi cI cJ cZ (o + 2 + 15 * j + 8) n2 mo2 na2 aa2 bb2 re2 ef2)) H := hP
  have hD : va_D (blk (o + 2 + 15 * j) 15) (wCo (o + 2 + 15 * j) (-1) ++ (wLi cI cJ cZ (o + 2 + 15 * j + 1) n mo na aa bb re ef ++ wLi cI cJ cZ (o + 2 + 15 * j + 8) n2 mo2 na2 aa2 bb2 re2 ef2)) := hD
  have hE := wo_kp hE0 hS (off_in (rng_of wEP_in) (by intro q h1 h2 h3; simp only [blk] at h3; omega))
  refine lv_aload_n hx hb d_EP_close_11 rfl (lv_at hl 0 rfl) ?_
  refine va_get (D := D) (ci := 0) (v := .ref (o + 2 + 15 * j + 1)) (C := R_Co) (T := F_Co) (N := 3) hx hb hg in_Co hown hK hP 0 rfl rfl 1 (Nat.le_of_ble_eq_true rfl) (hg _ tw_78) (fun _ h9 => h9) rfl d_EP_close_12 ?_
  refine va_get (D := D) (ci := 1) (v := .int (nI n)) (C := R_Li) (T := F_Li) (N := 7) hx hb hg in_Li hown hK hP 1 rfl rfl 0 (Nat.le_of_ble_eq_true rfl) (hg _ tw_44) (fun _ h9 => h9) rfl d_EP_close_15 ?_
  subst hR
  refine vx_ret ?_
  refine W.widen (k := 1) (n := 6) (Nat.le_of_ble_eq_true rfl) (Nat.le_of_ble_eq_true rfl) ?_
  exact W.iret (v := (nI n)) hx hb hr (fun t9 ht hW => ⟨rfl, rfl, hS.F ht, by rw [ht]; exact hP⟩) hS.2.2 d_EP_close_18

def f_EP_operations_b  : Nat × Int32 := (1, 0)

set_option maxHeartbeats 4000000 in
set_option maxRecDepth 100000 in
theorem m_EP_operations_b (l : Launch) (hlt : l.stackTraces = false) (D : va_G) (cI cJ cZ cO : ClassId) (o : Nat) (id : Int32) (hid : ¬ okI id) (R : Nat × Int32) (hR : f_EP_operations_b = R) : vx_Met l y_EP_operations (k_EP_operations :: gt) rx_EP_operations (PcX D cI cJ cZ cO (fun _ => False) [.ref o, .int id] (fun H => va_P D cls (wEP cO o) H)) (Qt R.1 (fun _ => False) (some (.int R.2)) (fun H => True)) (Xt R.1 E_NSE (fun _ => False) (fun H => True)) 1 6 (fun _ => False) := by
  refine vx_ofW (cc := c_EP_operations) (maxL := 2) (ret := (Option.some FieldType.int)) (by decide) rfl ?_
  intro p e s m args below meth c s₁ B hml hno hv
  obtain ⟨rfl, hKn, hZ, hE⟩ := hv
  have hx := B.exec
  have hb := B.bytes
  have hr := B.returns
  have hts := atoms_spec (ws := k_EP_operations :: gt) B.pre
  have hg : ∀ w ∈ gt, w.before _ s = true := fun w h => hts w (List.mem_cons_of_mem _ h)
  have hown : s.vm.findClass R_EP = some m.cls := findClass_of_methodNamed B.named
  have hlocks := B.notSynchronized
  have hK := hKn.1
  have hl := lv_entry ([.ref o, .int id]) (n := 2) (Nat.le_of_ble_eq_true rfl)
  rw [lg_entry_eq]
  generalize (lg_sl ([.ref o, .int id]) ++ List.replicate (2 - (lg_sl ([.ref o, .int id])).length) Slot.unset).toArray = ls at hl ⊢
  have hl : lv_has ls 2 [(0, .ref o), (1, .int id)] := hl
  have hS : va_S (fun _ => False) s.heap s.heap [] := va_S.rf
  have hR : ((1, 0)) = R := hR
  refine lv_aload_n hx hb d_EP_operations_0 rfl (lv_at hl 0 rfl) ?_
  refine lv_iload_n hx hb d_EP_operations_1 rfl (lv_at hl 1 rfl) ?_
  subst hR
  refine ep_callX (E := E_IAE) (vx_runV (As := [.int id]) (rest := []) ⟨hx, hb, hml, hown, hg⟩ (m_EP_openCollection_b l hlt D cI cJ cZ cO o id hid) (ep_cwV 1 hg tw_327 tw_329 ts_2 tw_1 tk_EP_openCollection rfl rfl (by decide +kernel) ⟨(Nat.le_of_ble_eq_true rfl), (Nat.le_of_ble_eq_true rfl)⟩) ⟨ep_blindX, va_recv (q0 := 0) (ci := 8) hK hE rfl rfl, ep_preX hKn (Zs.kept hZ hS (fun q h => h.elim)) (hE)⟩ rfl rfl hl.1 rfl (lv_room (Nat.le_of_ble_eq_true rfl)) d_EP_operations_2 ⟨(Nat.le_of_ble_eq_true rfl), (Nat.le_of_ble_eq_true rfl)⟩) hS (fun q h => h.elim) (fun ce q9 H1 locs1 hz1 hk1 hS1 hce hcv hcl => ?_)
  exact vx_out (fun x h => (hno x h).elim) hlocks hce hcv hcl (fun t9 ht hv => ⟨by show (1 : Nat) ≠ 0; decide, rfl, hS1.F ht, trivial⟩) hS1.2.2 (Nat.le_of_ble_eq_true rfl) (Nat.le_of_ble_eq_true rfl)

def f_EP_operations_c  : Nat × Int32 := (2, 0)

set_option maxHeartbeats 4000000 in
set_option maxRecDepth 100000 in
theorem m_EP_operations_c (l : Launch) (hlt : l.stackTraces = false) (D : va_G) (cI cJ cZ cO : ClassId) (o : Nat) (j : Nat) (hj : j < 4) (R : Nat × Int32) (hR : f_EP_operations_c = R) : vx_Met l y_EP_operations (k_EP_operations :: gt) rx_EP_operations (PcX D cI cJ cZ cO (fun _ => False) [.ref o, .int (nI j)] (fun H => va_P D cls (wEP cO o) H ∧ va_P D cls (wCo (o + 2 + 15 * j) (-1)) H)) (Qt R.1 (fun _ => False) (some (.int R.2)) (fun H => True)) (Xt R.1 E_NSE (fun _ => False) (fun H => True)) 1 6 (fun _ => False) := by
  refine vx_ofW (cc := c_EP_operations) (maxL := 2) (ret := (Option.some FieldType.int)) (by decide) rfl ?_
  intro p e s m args below meth c s₁ B hml hno hv
  obtain ⟨rfl, hKn, hZ, hE, hC⟩ := hv
  have hx := B.exec
  have hb := B.bytes
  have hr := B.returns
  have hts := atoms_spec (ws := k_EP_operations :: gt) B.pre
  have hg : ∀ w ∈ gt, w.before _ s = true := fun w h => hts w (List.mem_cons_of_mem _ h)
  have hown : s.vm.findClass R_EP = some m.cls := findClass_of_methodNamed B.named
  have hlocks := B.notSynchronized
  have hK := hKn.1
  have hl := lv_entry ([.ref o, .int (nI j)]) (n := 2) (Nat.le_of_ble_eq_true rfl)
  rw [lg_entry_eq]
  generalize (lg_sl ([.ref o, .int (nI j)]) ++ List.replicate (2 - (lg_sl ([.ref o, .int (nI j)])).length) Slot.unset).toArray = ls at hl ⊢
  have hl : lv_has ls 2 [(0, .ref o), (1, .int (nI j))] := hl
  have hS : va_S (fun _ => False) s.heap s.heap [] := va_S.rf
  have hR : ((2, 0)) = R := hR
  refine lv_aload_n hx hb d_EP_operations_0 rfl (lv_at hl 0 rfl) ?_
  refine lv_iload_n hx hb d_EP_operations_1 rfl (lv_at hl 1 rfl) ?_
  subst hR
  refine ep_callX (E := E_ISE) (vx_runV (As := [.int (nI j)]) (rest := []) ⟨hx, hb, hml, hown, hg⟩ (m_EP_openCollection_c l hlt D cI cJ cZ cO o j (by omega)) (ep_cwV 1 hg tw_327 tw_329 ts_2 tw_1 tk_EP_openCollection rfl rfl (by decide +kernel) ⟨(Nat.le_of_ble_eq_true rfl), (Nat.le_of_ble_eq_true rfl)⟩) ⟨ep_blindX, va_recv (q0 := 0) (ci := 8) hK hE rfl rfl, ep_preX hKn (Zs.kept hZ hS (fun q h => h.elim)) (⟨hE, hC⟩)⟩ rfl rfl hl.1 rfl (lv_room (Nat.le_of_ble_eq_true rfl)) d_EP_operations_2 ⟨(Nat.le_of_ble_eq_true rfl), (Nat.le_of_ble_eq_true rfl)⟩) hS (fun q h => h.elim) (fun ce q9 H1 locs1 hz1 hk1 hS1 hce hcv hcl => ?_)
  exact vx_out (fun x h => (hno x h).elim) hlocks hce hcv hcl (fun t9 ht hv => ⟨by show (2 : Nat) ≠ 0; decide, rfl, hS1.F ht, trivial⟩) hS1.2.2 (Nat.le_of_ble_eq_true rfl) (Nat.le_of_ble_eq_true rfl)

def f_EP_operations (n : Nat) : Nat × Nat := (0, n)

set_option maxHeartbeats 4000000 in
set_option maxRecDepth 100000 in
theorem m_EP_operations (l : Launch) (hlt : l.stackTraces = false) (D : va_G) (cI cJ cZ cO : ClassId) (o : Nat) (j : Nat) (kd : Int32) (n : Nat) (mo : Nat → Int32) (na : Nat → Int32) (aa : Nat → Int32) (bb : Nat → Int32) (re : Nat → Int64) (ef : Nat → Int32) (hj : j < 4) (hkd : ¬ kd = -1) (R : Nat × Nat) (hR : f_EP_operations n = R) : vx_Met l y_EP_operations (k_EP_operations :: gt) rx_EP_operations (PcX D cI cJ cZ cO (fun _ => False) [.ref o, .int (nI j)] (fun H => va_P D cls (wEP cO o) H ∧ va_P D cls (wCo (o + 2 + 15 * j) kd) H ∧ va_P D cls (wLi cI cJ cZ (o + 2 + 15 * j + 1) n mo na aa bb re ef) H)) (Qt R.1 (fun _ => False) (some (.int (nI R.2))) (fun H => True)) (Xt R.1 E_NSE (fun _ => False) (fun H => True)) 1 6 (fun _ => False) := by
  refine vx_ofW (cc := c_EP_operations) (maxL := 2) (ret := (Option.some FieldType.int)) (by decide) rfl ?_
  intro p e s m args below meth c s₁ B hml hno hv
  obtain ⟨rfl, hKn, hZ, hE, hC, hN⟩ := hv
  have hx := B.exec
  have hb := B.bytes
  have hr := B.returns
  have hts := atoms_spec (ws := k_EP_operations :: gt) B.pre
  have hg : ∀ w ∈ gt, w.before _ s = true := fun w h => hts w (List.mem_cons_of_mem _ h)
  have hown : s.vm.findClass R_EP = some m.cls := findClass_of_methodNamed B.named
  have hlocks := B.notSynchronized
  have hK := hKn.1
  have hl := lv_entry ([.ref o, .int (nI j)]) (n := 2) (Nat.le_of_ble_eq_true rfl)
  rw [lg_entry_eq]
  generalize (lg_sl ([.ref o, .int (nI j)]) ++ List.replicate (2 - (lg_sl ([.ref o, .int (nI j)])).length) Slot.unset).toArray = ls at hl ⊢
  have hl : lv_has ls 2 [(0, .ref o), (1, .int (nI j))] := hl
  have hS : va_S (fun _ => False) s.heap s.heap [] := va_S.rf
  have hR : ((0, n)) = R := hR
  refine lv_aload_n hx hb d_EP_operations_0 rfl (lv_at hl 0 rfl) ?_
  refine lv_iload_n hx hb d_EP_operations_1 rfl (lv_at hl 1 rfl) ?_
  refine ep_callP (W.runV (As := [.int (nI j)]) (rest := []) ⟨hx, hb, hml, hown, hg⟩ (m_EP_openCollection_ok l D cI cJ cZ cO o j kd (by omega) hkd) (ep_cwV 1 hg tw_327 tw_329 ts_2 tw_1 tk_EP_openCollection rfl rfl (by decide +kernel) ⟨(Nat.le_of_ble_eq_true rfl), (Nat.le_of_ble_eq_true rfl)⟩) ⟨ep_blind, va_recv (q0 := 0) (ci := 8) hK hE rfl rfl, ep_pre hKn (⟨hE, hC⟩)⟩ rfl rfl hl.1 rfl (lv_room (Nat.le_of_ble_eq_true rfl)) d_EP_operations_2 ⟨Nat.zero_le _, Nat.zero_le _⟩) ?_
  refine W.eq (g2 := F0 m 5 ls [.ref (o + 2 + 15 * j)]) rfl ?_
  refine va_get (D := D) (ci := 0) (v := .ref (o + 2 + 15 * j + 1)) (C := R_Co) (T := F_Co) (N := 3) hx hb hg in_Co hown hK hC 0 rfl rfl 1 (Nat.le_of_ble_eq_true rfl) (hg _ tw_78) (fun _ h9 => h9) rfl d_EP_operations_5 ?_
  refine va_get (D := D) (ci := 1) (v := .int (nI n)) (C := R_Li) (T := F_Li) (N := 7) hx hb hg in_Li hown hK hN 0 rfl rfl 0 (Nat.le_of_ble_eq_true rfl) (hg _ tw_44) (fun _ h9 => h9) rfl d_EP_operations_8 ?_
  subst hR
  refine vx_ret ?_
  refine W.widen (k := 1) (n := 6) (Nat.le_of_ble_eq_true rfl) (Nat.le_of_ble_eq_true rfl) ?_
  exact W.iret (v := (nI n)) hx hb hr (fun t9 ht hW => ⟨rfl, rfl, hS.F ht, trivial⟩) hS.2.2 d_EP_operations_11

def f_EP_operation_b (f9 : Int32) : Nat × Int32 := if f9 < 0 then ((1, 0)) else (if f9 ≤ 3 then ((1, 0)) else ((1, 0)))

set_option maxHeartbeats 4000000 in
set_option maxRecDepth 100000 in
theorem m_EP_operation_b (l : Launch) (hlt : l.stackTraces = false) (D : va_G) (cI cJ cZ cO : ClassId) (o : Nat) (id : Int32) (i9 : Int32) (f9 : Int32) (hid : ¬ okI id) (R : Nat × Int32) (hR : f_EP_operation_b f9 = R) : vx_Met l y_EP_operation (k_EP_operation :: gt) rx_EP_operation (PcX D cI cJ cZ cO (fun _ => False) [.ref o, .int id, .int i9, .int f9] (fun H => va_P D cls (wEP cO o) H)) (Qt R.1 (fun _ => False) (some (.int R.2)) (fun H => True)) (Xt R.1 E_IOB (fun _ => False) (fun H => True)) 1 6 (fun _ => False) := by
  refine vx_ofW (cc := c_EP_operation) (maxL := 5) (ret := (Option.some FieldType.int)) (by decide) rfl ?_
  intro p e s m args below meth c s₁ B hml hno hv
  obtain ⟨rfl, hKn, hZ, hE⟩ := hv
  have hx := B.exec
  have hb := B.bytes
  have hr := B.returns
  have hts := atoms_spec (ws := k_EP_operation :: gt) B.pre
  have hg : ∀ w ∈ gt, w.before _ s = true := fun w h => hts w (List.mem_cons_of_mem _ h)
  have hown : s.vm.findClass R_EP = some m.cls := findClass_of_methodNamed B.named
  have hlocks := B.notSynchronized
  have hK := hKn.1
  have hl := lv_entry ([.ref o, .int id, .int i9, .int f9]) (n := 5) (Nat.le_of_ble_eq_true rfl)
  rw [lg_entry_eq]
  generalize (lg_sl ([.ref o, .int id, .int i9, .int f9]) ++ List.replicate (5 - (lg_sl ([.ref o, .int id, .int i9, .int f9])).length) Slot.unset).toArray = ls at hl ⊢
  have hl : lv_has ls 5 [(0, .ref o), (1, .int id), (2, .int i9), (3, .int f9)] := hl
  have hS : va_S (fun _ => False) s.heap s.heap [] := va_S.rf
  have hR : (if f9 < 0 then ((1, 0)) else (if f9 ≤ 3 then ((1, 0)) else ((1, 0)))) = R := hR
  refine lv_iload_n hx hb d_EP_operation_0 rfl (lv_at hl 3 rfl) ?_
  refine lv_if_lt (tgt := 9) hx hb d_EP_operation_1 (by decide) (fun hc1 => ?_) (fun hc1 => ?_)
  · have hc1 : f9 < 0 := hc1
    rw [if_pos hc1] at hR
    subst hR
    obtain ⟨sa, hsa⟩ := hKn.2.2.2.2.2 ("EditablePast", 207, "an operation has no such number") (by decide +kernel)
    exact vx_throwS (text := "an operation has no such number") (names := th_n) hx hb hlt hown (by decide +kernel) (by decide +kernel) (hg _ tw_229) (hg _ tw_16) hsa (ta_IAE hg hKn) ta_IAE_o hZ.1 hZ.2 hS (hl.1.trans hml.symm) d_EP_operation_9 d_EP_operation_12 d_EP_operation_13 d_EP_operation_15 d_EP_operation_18 (fun x h => (hno x h).elim) (Nat.le_of_ble_eq_true rfl) (Nat.le_of_ble_eq_true rfl) (Nat.le_of_ble_eq_true rfl) (Nat.le_of_ble_eq_true rfl) hlocks (fun t9 hv h1 h2 => ⟨by show (1 : Nat) ≠ 0; decide, rfl, F_ext hS h1 h2, trivial⟩) hS.2.2 (Nat.le_of_ble_eq_true rfl) (Nat.le_of_ble_eq_true rfl)
  · have hc1 : ¬ (f9 < 0) := hc1
    refine lv_iload_n hx hb d_EP_operation_4 rfl (lv_at hl 3 rfl) ?_
    refine lv_iconst (v := 3) hx hb d_EP_operation_5 (by decide) ?_
    refine lv_icmp_le (tgt := 19) hx hb d_EP_operation_6 (by decide) (fun hc2 => ?_) (fun hc2 => ?_)
    · have hc2 : f9 ≤ 3 := hc2
      refine lv_aload_n hx hb d_EP_operation_19 rfl (lv_at hl 0 rfl) ?_
      refine lv_iload_n hx hb d_EP_operation_20 rfl (lv_at hl 1 rfl) ?_
      rw [if_neg hc1, if_pos hc2] at hR
      subst hR
      refine ep_callX (E := E_IAE) (vx_runV (As := [.int id]) (rest := []) ⟨hx, hb, hml, hown, hg⟩ (m_EP_openCollection_b l hlt D cI cJ cZ cO o id hid) (ep_cwV 1 hg tw_327 tw_329 ts_2 tw_1 tk_EP_openCollection rfl rfl (by decide +kernel) ⟨(Nat.le_of_ble_eq_true rfl), (Nat.le_of_ble_eq_true rfl)⟩) ⟨ep_blindX, va_recv (q0 := 0) (ci := 8) hK hE rfl rfl, ep_preX hKn (Zs.kept hZ hS (fun q h => h.elim)) (hE)⟩ rfl rfl hl.1 rfl (lv_room (Nat.le_of_ble_eq_true rfl)) d_EP_operation_21 ⟨(Nat.le_of_ble_eq_true rfl), (Nat.le_of_ble_eq_true rfl)⟩) hS (fun q h => h.elim) (fun ce q9 H1 locs1 hz1 hk1 hS1 hce hcv hcl => ?_)
      exact vx_out (fun x h => (hno x h).elim) hlocks hce hcv hcl (fun t9 ht hv => ⟨by show (1 : Nat) ≠ 0; decide, rfl, hS1.F ht, trivial⟩) hS1.2.2 (Nat.le_of_ble_eq_true rfl) (Nat.le_of_ble_eq_true rfl)
    · have hc2 : ¬ (f9 ≤ 3) := hc2
      rw [if_neg hc1, if_neg hc2] at hR
      subst hR
      obtain ⟨sa, hsa⟩ := hKn.2.2.2.2.2 ("EditablePast", 207, "an operation has no such number") (by decide +kernel)
      exact vx_throwS (text := "an operation has no such number") (names := th_n) hx hb hlt hown (by decide +kernel) (by decide +kernel) (hg _ tw_229) (hg _ tw_16) hsa (ta_IAE hg hKn) ta_IAE_o hZ.1 hZ.2 hS (hl.1.trans hml.symm) d_EP_operation_9 d_EP_operation_12 d_EP_operation_13 d_EP_operation_15 d_EP_operation_18 (fun x h => (hno x h).elim) (Nat.le_of_ble_eq_true rfl) (Nat.le_of_ble_eq_true rfl) (Nat.le_of_ble_eq_true rfl) (Nat.le_of_ble_eq_true rfl) hlocks (fun t9 hv h1 h2 => ⟨by show (1 : Nat) ≠ 0; decide, rfl, F_ext hS h1 h2, trivial⟩) hS.2.2 (Nat.le_of_ble_eq_true rfl) (Nat.le_of_ble_eq_true rfl)

def f_EP_operation_c (f9 : Int32) : Nat × Int32 := if f9 < 0 then ((1, 0)) else (if f9 ≤ 3 then ((2, 0)) else ((1, 0)))

set_option maxHeartbeats 4000000 in
set_option maxRecDepth 100000 in
theorem m_EP_operation_c (l : Launch) (hlt : l.stackTraces = false) (D : va_G) (cI cJ cZ cO : ClassId) (o : Nat) (j : Nat) (i9 : Int32) (f9 : Int32) (hj : j < 4) (R : Nat × Int32) (hR : f_EP_operation_c f9 = R) : vx_Met l y_EP_operation (k_EP_operation :: gt) rx_EP_operation (PcX D cI cJ cZ cO (fun _ => False) [.ref o, .int (nI j), .int i9, .int f9] (fun H => va_P D cls (wEP cO o) H ∧ va_P D cls (wCo (o + 2 + 15 * j) (-1)) H)) (Qt R.1 (fun _ => False) (some (.int R.2)) (fun H => True)) (Xt R.1 E_IOB (fun _ => False) (fun H => True)) 1 6 (fun _ => False) := by
  refine vx_ofW (cc := c_EP_operation) (maxL := 5) (ret := (Option.some FieldType.int)) (by decide) rfl ?_
  intro p e s m args below meth c s₁ B hml hno hv
  obtain ⟨rfl, hKn, hZ, hE, hC⟩ := hv
  have hx := B.exec
  have hb := B.bytes
  have hr := B.returns
  have hts := atoms_spec (ws := k_EP_operation :: gt) B.pre
  have hg : ∀ w ∈ gt, w.before _ s = true := fun w h => hts w (List.mem_cons_of_mem _ h)
  have hown : s.vm.findClass R_EP = some m.cls := findClass_of_methodNamed B.named
  have hlocks := B.notSynchronized
  have hK := hKn.1
  have hl := lv_entry ([.ref o, .int (nI j), .int i9, .int f9]) (n := 5) (Nat.le_of_ble_eq_true rfl)
  rw [lg_entry_eq]
  generalize (lg_sl ([.ref o, .int (nI j), .int i9, .int f9]) ++ List.replicate (5 - (lg_sl ([.ref o, .int (nI j), .int i9, .int f9])).length) Slot.unset).toArray = ls at hl ⊢
  have hl : lv_has ls 5 [(0, .ref o), (1, .int (nI j)), (2, .int i9), (3, .int f9)] := hl
  have hS : va_S (fun _ => False) s.heap s.heap [] := va_S.rf
  have hR : (if f9 < 0 then ((1, 0)) else (if f9 ≤ 3 then ((2, 0)) else ((1, 0)))) = R := hR
  refine lv_iload_n hx hb d_EP_operation_0 rfl (lv_at hl 3 rfl) ?_
  refine lv_if_lt (tgt := 9) hx hb d_EP_operation_1 (by decide) (fun hc1 => ?_) (fun hc1 => ?_)
  · have hc1 : f9 < 0 := hc1
    rw [if_pos hc1] at hR
    subst hR
    obtain ⟨sa, hsa⟩ := hKn.2.2.2.2.2 ("EditablePast", 207, "an operation has no such number") (by decide +kernel)
    exact vx_throwS (text := "an operation has no such number") (names := th_n) hx hb hlt hown (by decide +kernel) (by decide +kernel) (hg _ tw_229) (hg _ tw_16) hsa (ta_IAE hg hKn) ta_IAE_o hZ.1 hZ.2 hS (hl.1.trans hml.symm) d_EP_operation_9 d_EP_operation_12 d_EP_operation_13 d_EP_operation_15 d_EP_operation_18 (fun x h => (hno x h).elim) (Nat.le_of_ble_eq_true rfl) (Nat.le_of_ble_eq_true rfl) (Nat.le_of_ble_eq_true rfl) (Nat.le_of_ble_eq_true rfl) hlocks (fun t9 hv h1 h2 => ⟨by show (1 : Nat) ≠ 0; decide, rfl, F_ext hS h1 h2, trivial⟩) hS.2.2 (Nat.le_of_ble_eq_true rfl) (Nat.le_of_ble_eq_true rfl)
  · have hc1 : ¬ (f9 < 0) := hc1
    refine lv_iload_n hx hb d_EP_operation_4 rfl (lv_at hl 3 rfl) ?_
    refine lv_iconst (v := 3) hx hb d_EP_operation_5 (by decide) ?_
    refine lv_icmp_le (tgt := 19) hx hb d_EP_operation_6 (by decide) (fun hc2 => ?_) (fun hc2 => ?_)
    · have hc2 : f9 ≤ 3 := hc2
      refine lv_aload_n hx hb d_EP_operation_19 rfl (lv_at hl 0 rfl) ?_
      refine lv_iload_n hx hb d_EP_operation_20 rfl (lv_at hl 1 rfl) ?_
      rw [if_neg hc1, if_pos hc2] at hR
      subst hR
      refine ep_callX (E := E_ISE) (vx_runV (As := [.int (nI j)]) (rest := []) ⟨hx, hb, hml, hown, hg⟩ (m_EP_openCollection_c l hlt D cI cJ cZ cO o j (by omega)) (ep_cwV 1 hg tw_327 tw_329 ts_2 tw_1 tk_EP_openCollection rfl rfl (by decide +kernel) ⟨(Nat.le_of_ble_eq_true rfl), (Nat.le_of_ble_eq_true rfl)⟩) ⟨ep_blindX, va_recv (q0 := 0) (ci := 8) hK hE rfl rfl, ep_preX hKn (Zs.kept hZ hS (fun q h => h.elim)) (⟨hE, hC⟩)⟩ rfl rfl hl.1 rfl (lv_room (Nat.le_of_ble_eq_true rfl)) d_EP_operation_21 ⟨(Nat.le_of_ble_eq_true rfl), (Nat.le_of_ble_eq_true rfl)⟩) hS (fun q h => h.elim) (fun ce q9 H1 locs1 hz1 hk1 hS1 hce hcv hcl => ?_)
      exact vx_out (fun x h => (hno x h).elim) hlocks hce hcv hcl (fun t9 ht hv => ⟨by show (2 : Nat) ≠ 0; decide, rfl, hS1.F ht, trivial⟩) hS1.2.2 (Nat.le_of_ble_eq_true rfl) (Nat.le_of_ble_eq_true rfl)
    · have hc2 : ¬ (f9 ≤ 3) := hc2
      rw [if_neg hc1, if_neg hc2] at hR
      subst hR
      obtain ⟨sa, hsa⟩ := hKn.2.2.2.2.2 ("EditablePast", 207, "an operation has no such number") (by decide +kernel)
      exact vx_throwS (text := "an operation has no such number") (names := th_n) hx hb hlt hown (by decide +kernel) (by decide +kernel) (hg _ tw_229) (hg _ tw_16) hsa (ta_IAE hg hKn) ta_IAE_o hZ.1 hZ.2 hS (hl.1.trans hml.symm) d_EP_operation_9 d_EP_operation_12 d_EP_operation_13 d_EP_operation_15 d_EP_operation_18 (fun x h => (hno x h).elim) (Nat.le_of_ble_eq_true rfl) (Nat.le_of_ble_eq_true rfl) (Nat.le_of_ble_eq_true rfl) (Nat.le_of_ble_eq_true rfl) hlocks (fun t9 hv h1 h2 => ⟨by show (1 : Nat) ≠ 0; decide, rfl, F_ext hS h1 h2, trivial⟩) hS.2.2 (Nat.le_of_ble_eq_true rfl) (Nat.le_of_ble_eq_true rfl)

def f_EP_operation_m (f9 : Int32) : Nat × Int32 := if f9 < 0 then ((1, 0)) else (if f9 ≤ 3 then ((3, 0)) else ((1, 0)))

set_option maxHeartbeats 4000000 in
set_option maxRecDepth 100000 in
theorem m_EP_operation_m (l : Launch) (hlt : l.stackTraces = false) (D : va_G) (cI cJ cZ cO : ClassId) (o : Nat) (j : Nat) (kd : Int32) (n : Nat) (mo : Nat → Int32) (na : Nat → Int32) (aa : Nat → Int32) (bb : Nat → Int32) (re : Nat → Int64) (ef : Nat → Int32) (i9 : Int32) (f9 : Int32) (hj : j < 4) (hkd : ¬ kd = -1) (hi9 : i9 < 0) (R : Nat × Int32) (hR : f_EP_operation_m f9 = R) : vx_Met l y_EP_operation (k_EP_operation :: gt) rx_EP_operation (PcX D cI cJ cZ cO (fun _ => False) [.ref o, .int (nI j), .int i9, .int f9] (fun H => va_P D cls (wEP cO o) H ∧ va_P D cls (wCo (o + 2 + 15 * j) kd) H ∧ va_P D cls (wLi cI cJ cZ (o + 2 + 15 * j + 1) n mo na aa bb re ef) H)) (Qt R.1 (fun _ => False) (some (.int R.2)) (fun H => True)) (Xt R.1 E_IOB (fun _ => False) (fun H => True)) 1 6 (fun _ => False) := by
  refine vx_ofW (cc := c_EP_operation) (maxL := 5) (ret := (Option.some FieldType.int)) (by decide) rfl ?_
  intro p e s m args below meth c s₁ B hml hno hv
  obtain ⟨rfl, hKn, hZ, hE, hC, hN⟩ := hv
  have hx := B.exec
  have hb := B.bytes
  have hr := B.returns
  have hts := atoms_spec (ws := k_EP_operation :: gt) B.pre
  have hg : ∀ w ∈ gt, w.before _ s = true := fun w h => hts w (List.mem_cons_of_mem _ h)
  have hown : s.vm.findClass R_EP = some m.cls := findClass_of_methodNamed B.named
  have hlocks := B.notSynchronized
  have hK := hKn.1
  have hl := lv_entry ([.ref o, .int (nI j), .int i9, .int f9]) (n := 5) (Nat.le_of_ble_eq_true rfl)
  rw [lg_entry_eq]
  generalize (lg_sl ([.ref o, .int (nI j), .int i9, .int f9]) ++ List.replicate (5 - (lg_sl ([.ref o, .int (nI j), .int i9, .int f9])).length) Slot.unset).toArray = ls at hl ⊢
  have hl : lv_has ls 5 [(0, .ref o), (1, .int (nI j)), (2, .int i9), (3, .int f9)] := hl
  have hS : va_S (fun _ => False) s.heap s.heap [] := va_S.rf
  have hR : (if f9 < 0 then ((1, 0)) else (if f9 ≤ 3 then ((3, 0)) else ((1, 0)))) = R := hR
  refine lv_iload_n hx hb d_EP_operation_0 rfl (lv_at hl 3 rfl) ?_
  refine lv_if_lt (tgt := 9) hx hb d_EP_operation_1 (by decide) (fun hc1 => ?_) (fun hc1 => ?_)
  · have hc1 : f9 < 0 := hc1
    rw [if_pos hc1] at hR
    subst hR
    obtain ⟨sa, hsa⟩ := hKn.2.2.2.2.2 ("EditablePast", 207, "an operation has no such number") (by decide +kernel)
    exact vx_throwS (text := "an operation has no such number") (names := th_n) hx hb hlt hown (by decide +kernel) (by decide +kernel) (hg _ tw_229) (hg _ tw_16) hsa (ta_IAE hg hKn) ta_IAE_o hZ.1 hZ.2 hS (hl.1.trans hml.symm) d_EP_operation_9 d_EP_operation_12 d_EP_operation_13 d_EP_operation_15 d_EP_operation_18 (fun x h => (hno x h).elim) (Nat.le_of_ble_eq_true rfl) (Nat.le_of_ble_eq_true rfl) (Nat.le_of_ble_eq_true rfl) (Nat.le_of_ble_eq_true rfl) hlocks (fun t9 hv h1 h2 => ⟨by show (1 : Nat) ≠ 0; decide, rfl, F_ext hS h1 h2, trivial⟩) hS.2.2 (Nat.le_of_ble_eq_true rfl) (Nat.le_of_ble_eq_true rfl)
  · have hc1 : ¬ (f9 < 0) := hc1
    refine lv_iload_n hx hb d_EP_operation_4 rfl (lv_at hl 3 rfl) ?_
    refine lv_iconst (v := 3) hx hb d_EP_operation_5 (by decide) ?_
    refine lv_icmp_le (tgt := 19) hx hb d_EP_operation_6 (by decide) (fun hc2 => ?_) (fun hc2 => ?_)
    · have hc2 : f9 ≤ 3 := hc2
      refine lv_aload_n hx hb d_EP_operation_19 rfl (lv_at hl 0 rfl) ?_
      refine lv_iload_n hx hb d_EP_operation_20 rfl (lv_at hl 1 rfl) ?_
      refine ep_callP (W.runV (As := [.int (nI j)]) (rest := []) ⟨hx, hb, hml, hown, hg⟩ (m_EP_openCollection_ok l D cI cJ cZ cO o j kd (by omega) hkd) (ep_cwV 1 hg tw_327 tw_329 ts_2 tw_1 tk_EP_openCollection rfl rfl (by decide +kernel) ⟨(Nat.le_of_ble_eq_true rfl), (Nat.le_of_ble_eq_true rfl)⟩) ⟨ep_blind, va_recv (q0 := 0) (ci := 8) hK hE rfl rfl, ep_pre hKn (⟨hE, hC⟩)⟩ rfl rfl hl.1 rfl (lv_room (Nat.le_of_ble_eq_true rfl)) d_EP_operation_21 ⟨Nat.zero_le _, Nat.zero_le _⟩) ?_
      refine W.eq (g2 := F0 m 24 ls [.ref (o + 2 + 15 * j)]) rfl ?_
      refine va_get (D := D) (ci := 0) (v := .ref (o + 2 + 15 * j + 1)) (C := R_Co) (T := F_Co) (N := 3) hx hb hg in_Co hown hK hC 0 rfl rfl 1 (Nat.le_of_ble_eq_true rfl) (hg _ tw_78) (fun _ h9 => h9) rfl d_EP_operation_24 ?_
      refine lv_astore (lv' := [(4, .ref (o + 2 + 15 * j + 1)), (0, .ref o), (1, .int (nI j)), (2, .int i9), (3, .int f9)]) hx hb d_EP_operation_27 hl (by decide) rfl (fun ls hl => ?_)
      refine lv_iload_n hx hb d_EP_operation_29 rfl (lv_at hl 3 rfl) ?_
      refine lv_if_lt (tgt := 42) hx hb d_EP_operation_30 (by decide) (fun hc => ?_) (fun hc => absurd hi9 hc)
      rw [if_neg hc1, if_pos hc2] at hR
      subst hR
      obtain ⟨sa, hsa⟩ := hKn.2.2.2.2.2 ("EditablePast", 209, "the line has not so many operations") (by decide +kernel)
      exact vx_throwS (text := "the line has not so many operations") (names := th_n) hx hb hlt hown (by decide +kernel) (by decide +kernel) (hg _ tw_604) (hg _ tw_21) hsa (ta_IOB hg hKn) ta_IOB_o hZ.1 hZ.2 hS (hl.1.trans hml.symm) d_EP_operation_42 d_EP_operation_45 d_EP_operation_46 d_EP_operation_48 d_EP_operation_51 (fun x h => (hno x h).elim) (Nat.le_of_ble_eq_true rfl) (Nat.le_of_ble_eq_true rfl) (Nat.le_of_ble_eq_true rfl) (Nat.le_of_ble_eq_true rfl) hlocks (fun t9 hv h1 h2 => ⟨by show (3 : Nat) ≠ 0; decide, rfl, F_ext hS h1 h2, trivial⟩) hS.2.2 (Nat.le_of_ble_eq_true rfl) (Nat.le_of_ble_eq_true rfl)
    · have hc2 : ¬ (f9 ≤ 3) := hc2
      rw [if_neg hc1, if_neg hc2] at hR
      subst hR
      obtain ⟨sa, hsa⟩ := hKn.2.2.2.2.2 ("EditablePast", 207, "an operation has no such number") (by decide +kernel)
      exact vx_throwS (text := "an operation has no such number") (names := th_n) hx hb hlt hown (by decide +kernel) (by decide +kernel) (hg _ tw_229) (hg _ tw_16) hsa (ta_IAE hg hKn) ta_IAE_o hZ.1 hZ.2 hS (hl.1.trans hml.symm) d_EP_operation_9 d_EP_operation_12 d_EP_operation_13 d_EP_operation_15 d_EP_operation_18 (fun x h => (hno x h).elim) (Nat.le_of_ble_eq_true rfl) (Nat.le_of_ble_eq_true rfl) (Nat.le_of_ble_eq_true rfl) (Nat.le_of_ble_eq_true rfl) hlocks (fun t9 hv h1 h2 => ⟨by show (1 : Nat) ≠ 0; decide, rfl, F_ext hS h1 h2, trivial⟩) hS.2.2 (Nat.le_of_ble_eq_true rfl) (Nat.le_of_ble_eq_true rfl)

def f_EP_operation_0 (n : Nat) (mo : Nat → Int32) (i8 : Nat) : Nat × Int32 := if i8 < n then ((0, mo i8)) else ((3, 0))

set_option maxHeartbeats 4000000 in
set_option maxRecDepth 100000 in
theorem m_EP_operation_0 (l : Launch) (hlt : l.stackTraces = false) (D : va_G) (cI cJ cZ cO : ClassId) (o : Nat) (j : Nat) (kd : Int32) (n : Nat) (mo : Nat → Int32) (na : Nat → Int32) (aa : Nat → Int32) (bb : Nat → Int32) (re : Nat → Int64) (ef : Nat → Int32) (i8 : Nat) (hj : j < 4) (hkd : ¬ kd = -1) (hn : n ≤ 32) (hi8 : i8 < 2 ^ 31) (R : Nat × Int32) (hR : f_EP_operation_0 n mo i8 = R) : vx_Met l y_EP_operation (k_EP_operation :: gt) rx_EP_operation (PcX D cI cJ cZ cO (fun _ => False) [.ref o, .int (nI j), .int (nI i8), .int 0] (fun H => va_P D cls (wEP cO o) H ∧ va_P D cls (wCo (o + 2 + 15 * j) kd) H ∧ va_P D cls (wLi cI cJ cZ (o + 2 + 15 * j + 1) n mo na aa bb re ef) H)) (Qt R.1 (fun _ => False) (some (.int R.2)) (fun H => True)) (Xt R.1 E_IOB (fun _ => False) (fun H => True)) 1 6 (fun _ => False) := by
  refine vx_ofW (cc := c_EP_operation) (maxL := 5) (ret := (Option.some FieldType.int)) (by decide) rfl ?_
  intro p e s m args below meth c s₁ B hml hno hv
  obtain ⟨rfl, hKn, hZ, hE, hC, hN⟩ := hv
  have hx := B.exec
  have hb := B.bytes
  have hr := B.returns
  have hts := atoms_spec (ws := k_EP_operation :: gt) B.pre
  have hg : ∀ w ∈ gt, w.before _ s = true := fun w h => hts w (List.mem_cons_of_mem _ h)
  have hown : s.vm.findClass R_EP = some m.cls := findClass_of_methodNamed B.named
  have hlocks := B.notSynchronized
  have hK := hKn.1
  have hl := lv_entry ([.ref o, .int (nI j), .int (nI i8), .int 0]) (n := 5) (Nat.le_of_ble_eq_true rfl)
  rw [lg_entry_eq]
  generalize (lg_sl ([.ref o, .int (nI j), .int (nI i8), .int 0]) ++ List.replicate (5 - (lg_sl ([.ref o, .int (nI j), .int (nI i8), .int 0])).length) Slot.unset).toArray = ls at hl ⊢
  have hl : lv_has ls 5 [(0, .ref o), (1, .int (nI j)), (2, .int (nI i8)), (3, .int 0)] := hl
  have hS : va_S (fun _ => False) s.heap s.heap [] := va_S.rf
  have hR : (if i8 < n then ((0, mo i8)) else ((3, 0))) = R := hR
  refine lv_iload_n hx hb d_EP_operation_0 rfl (lv_at hl 3 rfl) ?_
  refine lv_if_lt (tgt := 9) hx hb d_EP_operation_1 (by decide) (fun hc => False.elim (by revert hc; decide)) (fun hc => ?_)
  refine lv_iload_n hx hb d_EP_operation_4 rfl (lv_at hl 3 rfl) ?_
  refine lv_iconst (v := 3) hx hb d_EP_operation_5 (by decide) ?_
  refine lv_icmp_le (tgt := 19) hx hb d_EP_operation_6 (by decide) (fun hc => ?_) (fun hc => False.elim (by revert hc; decide))
  refine lv_aload_n hx hb d_EP_operation_19 rfl (lv_at hl 0 rfl) ?_
  refine lv_iload_n hx hb d_EP_operation_20 rfl (lv_at hl 1 rfl) ?_
  refine ep_callP (W.runV (As := [.int (nI j)]) (rest := []) ⟨hx, hb, hml, hown, hg⟩ (m_EP_openCollection_ok l D cI cJ cZ cO o j kd (by omega) hkd) (ep_cwV 1 hg tw_327 tw_329 ts_2 tw_1 tk_EP_openCollection rfl rfl (by decide +kernel) ⟨(Nat.le_of_ble_eq_true rfl), (Nat.le_of_ble_eq_true rfl)⟩) ⟨ep_blind, va_recv (q0 := 0) (ci := 8) hK hE rfl rfl, ep_pre hKn (⟨hE, hC⟩)⟩ rfl rfl hl.1 rfl (lv_room (Nat.le_of_ble_eq_true rfl)) d_EP_operation_21 ⟨Nat.zero_le _, Nat.zero_le _⟩) ?_
  refine W.eq (g2 := F0 m 24 ls [.ref (o + 2 + 15 * j)]) rfl ?_
  refine va_get (D := D) (ci := 0) (v := .ref (o + 2 + 15 * j + 1)) (C := R_Co) (T := F_Co) (N := 3) hx hb hg in_Co hown hK hC 0 rfl rfl 1 (Nat.le_of_ble_eq_true rfl) (hg _ tw_78) (fun _ h9 => h9) rfl d_EP_operation_24 ?_
  refine lv_astore (lv' := [(4, .ref (o + 2 + 15 * j + 1)), (0, .ref o), (1, .int (nI j)), (2, .int (nI i8)), (3, .int 0)]) hx hb d_EP_operation_27 hl (by decide) rfl (fun ls hl => ?_)
  refine lv_iload_n hx hb d_EP_operation_29 rfl (lv_at hl 3 rfl) ?_
  refine lv_if_lt (tgt := 42) hx hb d_EP_operation_30 (by decide) (fun hc => False.elim (by have hc := (nI_ltI (a := i8) (b := 0) (by omega) (by omega)).mp hc; omega)) (fun hc => ?_)
  refine lv_iload_n hx hb d_EP_operation_33 rfl (lv_at hl 3 rfl) ?_
  refine lv_aload hx hb d_EP_operation_34 (lv_at hl 0 rfl) ?_
  refine va_get (D := D) (ci := 1) (v := .int (nI n)) (C := R_Li) (T := F_Li) (N := 7) hx hb hg in_Li hown hK hN 0 rfl rfl 0 (Nat.le_of_ble_eq_true rfl) (hg _ tw_44) (fun _ h9 => h9) rfl d_EP_operation_36 ?_
  refine lv_icmp_lt (tgt := 52) hx hb d_EP_operation_39 (by decide) (fun hc1 => ?_) (fun hc1 => ?_)
  · have hc1 : i8 < n := (nI_ltI (a := i8) (b := n) (by omega) (by omega)).mp hc1
    refine lv_iload_n hx hb d_EP_operation_52 rfl (lv_at hl 4 rfl) ?_
    refine lv_tableIn (tgt := 80) hx hb d_EP_operation_53 (by decide) (by decide) rfl (by decide) ?_
    refine lv_aload hx hb d_EP_operation_80 (lv_at hl 0 rfl) ?_
    refine va_get (D := D) (ci := 1) (v := .ref (o + 2 + 15 * j + 1 + 1)) (C := R_Li) (T := F_Li) (N := 7) hx hb hg in_Li hown hK hN 0 rfl rfl 1 (Nat.le_of_ble_eq_true rfl) (hg _ tw_46) (fun _ h9 => h9) rfl d_EP_operation_82 ?_
    refine lv_iload_n hx hb d_EP_operation_85 rfl (lv_at hl 3 rfl) ?_
    refine ep_iald hx hb hK hN 1 0 rfl rfl (i := i8) (by omega) (by decide) d_EP_operation_86 ?_
    rw [if_pos hc1] at hR
    subst hR
    refine vx_ret ?_
    refine W.widen (k := 1) (n := 6) (Nat.le_of_ble_eq_true rfl) (Nat.le_of_ble_eq_true rfl) ?_
    exact W.iret (v := (mo i8)) hx hb hr (fun t9 ht hW => ⟨rfl, rfl, hS.F ht, trivial⟩) hS.2.2 d_EP_operation_87
  · have hc1 : ¬ (i8 < n) := fun h9 => hc1 ((nI_ltI (a := i8) (b := n) (by omega) (by omega)).mpr h9)
    rw [if_neg hc1] at hR
    subst hR
    obtain ⟨sa, hsa⟩ := hKn.2.2.2.2.2 ("EditablePast", 209, "the line has not so many operations") (by decide +kernel)
    exact vx_throwS (text := "the line has not so many operations") (names := th_n) hx hb hlt hown (by decide +kernel) (by decide +kernel) (hg _ tw_604) (hg _ tw_21) hsa (ta_IOB hg hKn) ta_IOB_o hZ.1 hZ.2 hS (hl.1.trans hml.symm) d_EP_operation_42 d_EP_operation_45 d_EP_operation_46 d_EP_operation_48 d_EP_operation_51 (fun x h => (hno x h).elim) (Nat.le_of_ble_eq_true rfl) (Nat.le_of_ble_eq_true rfl) (Nat.le_of_ble_eq_true rfl) (Nat.le_of_ble_eq_true rfl) hlocks (fun t9 hv h1 h2 => ⟨by show (3 : Nat) ≠ 0; decide, rfl, F_ext hS h1 h2, trivial⟩) hS.2.2 (Nat.le_of_ble_eq_true rfl) (Nat.le_of_ble_eq_true rfl)

def f_EP_operation_1 (n : Nat) (na : Nat → Int32) (i8 : Nat) : Nat × Int32 := if i8 < n then ((0, na i8)) else ((3, 0))

set_option maxHeartbeats 4000000 in
set_option maxRecDepth 100000 in
theorem m_EP_operation_1 (l : Launch) (hlt : l.stackTraces = false) (D : va_G) (cI cJ cZ cO : ClassId) (o : Nat) (j : Nat) (kd : Int32) (n : Nat) (mo : Nat → Int32) (na : Nat → Int32) (aa : Nat → Int32) (bb : Nat → Int32) (re : Nat → Int64) (ef : Nat → Int32) (i8 : Nat) (hj : j < 4) (hkd : ¬ kd = -1) (hn : n ≤ 32) (hi8 : i8 < 2 ^ 31) (R : Nat × Int32) (hR : f_EP_operation_1 n na i8 = R) : vx_Met l y_EP_operation (k_EP_operation :: gt) rx_EP_operation (PcX D cI cJ cZ cO (fun _ => False) [.ref o, .int (nI j), .int (nI i8), .int 1] (fun H => va_P D cls (wEP cO o) H ∧ va_P D cls (wCo (o + 2 + 15 * j) kd) H ∧ va_P D cls (wLi cI cJ cZ (o + 2 + 15 * j + 1) n mo na aa bb re ef) H)) (Qt R.1 (fun _ => False) (some (.int R.2)) (fun H => True)) (Xt R.1 E_IOB (fun _ => False) (fun H => True)) 1 6 (fun _ => False) := by
  refine vx_ofW (cc := c_EP_operation) (maxL := 5) (ret := (Option.some FieldType.int)) (by decide) rfl ?_
  intro p e s m args below meth c s₁ B hml hno hv
  obtain ⟨rfl, hKn, hZ, hE, hC, hN⟩ := hv
  have hx := B.exec
  have hb := B.bytes
  have hr := B.returns
  have hts := atoms_spec (ws := k_EP_operation :: gt) B.pre
  have hg : ∀ w ∈ gt, w.before _ s = true := fun w h => hts w (List.mem_cons_of_mem _ h)
  have hown : s.vm.findClass R_EP = some m.cls := findClass_of_methodNamed B.named
  have hlocks := B.notSynchronized
  have hK := hKn.1
  have hl := lv_entry ([.ref o, .int (nI j), .int (nI i8), .int 1]) (n := 5) (Nat.le_of_ble_eq_true rfl)
  rw [lg_entry_eq]
  generalize (lg_sl ([.ref o, .int (nI j), .int (nI i8), .int 1]) ++ List.replicate (5 - (lg_sl ([.ref o, .int (nI j), .int (nI i8), .int 1])).length) Slot.unset).toArray = ls at hl ⊢
  have hl : lv_has ls 5 [(0, .ref o), (1, .int (nI j)), (2, .int (nI i8)), (3, .int 1)] := hl
  have hS : va_S (fun _ => False) s.heap s.heap [] := va_S.rf
  have hR : (if i8 < n then ((0, na i8)) else ((3, 0))) = R := hR
  refine lv_iload_n hx hb d_EP_operation_0 rfl (lv_at hl 3 rfl) ?_
  refine lv_if_lt (tgt := 9) hx hb d_EP_operation_1 (by decide) (fun hc => False.elim (by revert hc; decide)) (fun hc => ?_)
  refine lv_iload_n hx hb d_EP_operation_4 rfl (lv_at hl 3 rfl) ?_
  refine lv_iconst (v := 3) hx hb d_EP_operation_5 (by decide) ?_
  refine lv_icmp_le (tgt := 19) hx hb d_EP_operation_6 (by decide) (fun hc => ?_) (fun hc => False.elim (by revert hc; decide))
  refine lv_aload_n hx hb d_EP_operation_19 rfl (lv_at hl 0 rfl) ?_
  refine lv_iload_n hx hb d_EP_operation_20 rfl (lv_at hl 1 rfl) ?_
  refine ep_callP (W.runV (As := [.int (nI j)]) (rest := []) ⟨hx, hb, hml, hown, hg⟩ (m_EP_openCollection_ok l D cI cJ cZ cO o j kd (by omega) hkd) (ep_cwV 1 hg tw_327 tw_329 ts_2 tw_1 tk_EP_openCollection rfl rfl (by decide +kernel) ⟨(Nat.le_of_ble_eq_true rfl), (Nat.le_of_ble_eq_true rfl)⟩) ⟨ep_blind, va_recv (q0 := 0) (ci := 8) hK hE rfl rfl, ep_pre hKn (⟨hE, hC⟩)⟩ rfl rfl hl.1 rfl (lv_room (Nat.le_of_ble_eq_true rfl)) d_EP_operation_21 ⟨Nat.zero_le _, Nat.zero_le _⟩) ?_
  refine W.eq (g2 := F0 m 24 ls [.ref (o + 2 + 15 * j)]) rfl ?_
  refine va_get (D := D) (ci := 0) (v := .ref (o + 2 + 15 * j + 1)) (C := R_Co) (T := F_Co) (N := 3) hx hb hg in_Co hown hK hC 0 rfl rfl 1 (Nat.le_of_ble_eq_true rfl) (hg _ tw_78) (fun _ h9 => h9) rfl d_EP_operation_24 ?_
  refine lv_astore (lv' := [(4, .ref (o + 2 + 15 * j + 1)), (0, .ref o), (1, .int (nI j)), (2, .int (nI i8)), (3, .int 1)]) hx hb d_EP_operation_27 hl (by decide) rfl (fun ls hl => ?_)
  refine lv_iload_n hx hb d_EP_operation_29 rfl (lv_at hl 3 rfl) ?_
  refine lv_if_lt (tgt := 42) hx hb d_EP_operation_30 (by decide) (fun hc => False.elim (by have hc := (nI_ltI (a := i8) (b := 0) (by omega) (by omega)).mp hc; omega)) (fun hc => ?_)
  refine lv_iload_n hx hb d_EP_operation_33 rfl (lv_at hl 3 rfl) ?_
  refine lv_aload hx hb d_EP_operation_34 (lv_at hl 0 rfl) ?_
  refine va_get (D := D) (ci := 1) (v := .int (nI n)) (C := R_Li) (T := F_Li) (N := 7) hx hb hg in_Li hown hK hN 0 rfl rfl 0 (Nat.le_of_ble_eq_true rfl) (hg _ tw_44) (fun _ h9 => h9) rfl d_EP_operation_36 ?_
  refine lv_icmp_lt (tgt := 52) hx hb d_EP_operation_39 (by decide) (fun hc1 => ?_) (fun hc1 => ?_)
  · have hc1 : i8 < n := (nI_ltI (a := i8) (b := n) (by omega) (by omega)).mp hc1
    refine lv_iload_n hx hb d_EP_operation_52 rfl (lv_at hl 4 rfl) ?_
    refine lv_tableIn (tgt := 88) hx hb d_EP_operation_53 (by decide) (by decide) rfl (by decide) ?_
    refine lv_aload hx hb d_EP_operation_88 (lv_at hl 0 rfl) ?_
    refine va_get (D := D) (ci := 1) (v := .ref (o + 2 + 15 * j + 1 + 2)) (C := R_Li) (T := F_Li) (N := 7) hx hb hg in_Li hown hK hN 0 rfl rfl 2 (Nat.le_of_ble_eq_true rfl) (hg _ tw_48) (fun _ h9 => h9) rfl d_EP_operation_90 ?_
    refine lv_iload_n hx hb d_EP_operation_93 rfl (lv_at hl 3 rfl) ?_
    refine ep_iald hx hb hK hN 2 0 rfl rfl (i := i8) (by omega) (by decide) d_EP_operation_94 ?_
    rw [if_pos hc1] at hR
    subst hR
    refine vx_ret ?_
    refine W.widen (k := 1) (n := 6) (Nat.le_of_ble_eq_true rfl) (Nat.le_of_ble_eq_true rfl) ?_
    exact W.iret (v := (na i8)) hx hb hr (fun t9 ht hW => ⟨rfl, rfl, hS.F ht, trivial⟩) hS.2.2 d_EP_operation_95
  · have hc1 : ¬ (i8 < n) := fun h9 => hc1 ((nI_ltI (a := i8) (b := n) (by omega) (by omega)).mpr h9)
    rw [if_neg hc1] at hR
    subst hR
    obtain ⟨sa, hsa⟩ := hKn.2.2.2.2.2 ("EditablePast", 209, "the line has not so many operations") (by decide +kernel)
    exact vx_throwS (text := "the line has not so many operations") (names := th_n) hx hb hlt hown (by decide +kernel) (by decide +kernel) (hg _ tw_604) (hg _ tw_21) hsa (ta_IOB hg hKn) ta_IOB_o hZ.1 hZ.2 hS (hl.1.trans hml.symm) d_EP_operation_42 d_EP_operation_45 d_EP_operation_46 d_EP_operation_48 d_EP_operation_51 (fun x h => (hno x h).elim) (Nat.le_of_ble_eq_true rfl) (Nat.le_of_ble_eq_true rfl) (Nat.le_of_ble_eq_true rfl) (Nat.le_of_ble_eq_true rfl) hlocks (fun t9 hv h1 h2 => ⟨by show (3 : Nat) ≠ 0; decide, rfl, F_ext hS h1 h2, trivial⟩) hS.2.2 (Nat.le_of_ble_eq_true rfl) (Nat.le_of_ble_eq_true rfl)

def f_EP_operation_2 (n : Nat) (aa : Nat → Int32) (i8 : Nat) : Nat × Int32 := if i8 < n then ((0, aa i8)) else ((3, 0))

set_option maxHeartbeats 4000000 in
set_option maxRecDepth 100000 in
theorem m_EP_operation_2 (l : Launch) (hlt : l.stackTraces = false) (D : va_G) (cI cJ cZ cO : ClassId) (o : Nat) (j : Nat) (kd : Int32) (n : Nat) (mo : Nat → Int32) (na : Nat → Int32) (aa : Nat → Int32) (bb : Nat → Int32) (re : Nat → Int64) (ef : Nat → Int32) (i8 : Nat) (hj : j < 4) (hkd : ¬ kd = -1) (hn : n ≤ 32) (hi8 : i8 < 2 ^ 31) (R : Nat × Int32) (hR : f_EP_operation_2 n aa i8 = R) : vx_Met l y_EP_operation (k_EP_operation :: gt) rx_EP_operation (PcX D cI cJ cZ cO (fun _ => False) [.ref o, .int (nI j), .int (nI i8), .int 2] (fun H => va_P D cls (wEP cO o) H ∧ va_P D cls (wCo (o + 2 + 15 * j) kd) H ∧ va_P D cls (wLi cI cJ cZ (o + 2 + 15 * j + 1) n mo na aa bb re ef) H)) (Qt R.1 (fun _ => False) (some (.int R.2)) (fun H => True)) (Xt R.1 E_IOB (fun _ => False) (fun H => True)) 1 6 (fun _ => False) := by
  refine vx_ofW (cc := c_EP_operation) (maxL := 5) (ret := (Option.some FieldType.int)) (by decide) rfl ?_
  intro p e s m args below meth c s₁ B hml hno hv
  obtain ⟨rfl, hKn, hZ, hE, hC, hN⟩ := hv
  have hx := B.exec
  have hb := B.bytes
  have hr := B.returns
  have hts := atoms_spec (ws := k_EP_operation :: gt) B.pre
  have hg : ∀ w ∈ gt, w.before _ s = true := fun w h => hts w (List.mem_cons_of_mem _ h)
  have hown : s.vm.findClass R_EP = some m.cls := findClass_of_methodNamed B.named
  have hlocks := B.notSynchronized
  have hK := hKn.1
  have hl := lv_entry ([.ref o, .int (nI j), .int (nI i8), .int 2]) (n := 5) (Nat.le_of_ble_eq_true rfl)
  rw [lg_entry_eq]
  generalize (lg_sl ([.ref o, .int (nI j), .int (nI i8), .int 2]) ++ List.replicate (5 - (lg_sl ([.ref o, .int (nI j), .int (nI i8), .int 2])).length) Slot.unset).toArray = ls at hl ⊢
  have hl : lv_has ls 5 [(0, .ref o), (1, .int (nI j)), (2, .int (nI i8)), (3, .int 2)] := hl
  have hS : va_S (fun _ => False) s.heap s.heap [] := va_S.rf
  have hR : (if i8 < n then ((0, aa i8)) else ((3, 0))) = R := hR
  refine lv_iload_n hx hb d_EP_operation_0 rfl (lv_at hl 3 rfl) ?_
  refine lv_if_lt (tgt := 9) hx hb d_EP_operation_1 (by decide) (fun hc => False.elim (by revert hc; decide)) (fun hc => ?_)
  refine lv_iload_n hx hb d_EP_operation_4 rfl (lv_at hl 3 rfl) ?_
  refine lv_iconst (v := 3) hx hb d_EP_operation_5 (by decide) ?_
  refine lv_icmp_le (tgt := 19) hx hb d_EP_operation_6 (by decide) (fun hc => ?_) (fun hc => False.elim (by revert hc; decide))
  refine lv_aload_n hx hb d_EP_operation_19 rfl (lv_at hl 0 rfl) ?_
  refine lv_iload_n hx hb d_EP_operation_20 rfl (lv_at hl 1 rfl) ?_
  refine ep_callP (W.runV (As := [.int (nI j)]) (rest := []) ⟨hx, hb, hml, hown, hg⟩ (m_EP_openCollection_ok l D cI cJ cZ cO o j kd (by omega) hkd) (ep_cwV 1 hg tw_327 tw_329 ts_2 tw_1 tk_EP_openCollection rfl rfl (by decide +kernel) ⟨(Nat.le_of_ble_eq_true rfl), (Nat.le_of_ble_eq_true rfl)⟩) ⟨ep_blind, va_recv (q0 := 0) (ci := 8) hK hE rfl rfl, ep_pre hKn (⟨hE, hC⟩)⟩ rfl rfl hl.1 rfl (lv_room (Nat.le_of_ble_eq_true rfl)) d_EP_operation_21 ⟨Nat.zero_le _, Nat.zero_le _⟩) ?_
  refine W.eq (g2 := F0 m 24 ls [.ref (o + 2 + 15 * j)]) rfl ?_
  refine va_get (D := D) (ci := 0) (v := .ref (o + 2 + 15 * j + 1)) (C := R_Co) (T := F_Co) (N := 3) hx hb hg in_Co hown hK hC 0 rfl rfl 1 (Nat.le_of_ble_eq_true rfl) (hg _ tw_78) (fun _ h9 => h9) rfl d_EP_operation_24 ?_
  refine lv_astore (lv' := [(4, .ref (o + 2 + 15 * j + 1)), (0, .ref o), (1, .int (nI j)), (2, .int (nI i8)), (3, .int 2)]) hx hb d_EP_operation_27 hl (by decide) rfl (fun ls hl => ?_)
  refine lv_iload_n hx hb d_EP_operation_29 rfl (lv_at hl 3 rfl) ?_
  refine lv_if_lt (tgt := 42) hx hb d_EP_operation_30 (by decide) (fun hc => False.elim (by have hc := (nI_ltI (a := i8) (b := 0) (by omega) (by omega)).mp hc; omega)) (fun hc => ?_)
  refine lv_iload_n hx hb d_EP_operation_33 rfl (lv_at hl 3 rfl) ?_
  refine lv_aload hx hb d_EP_operation_34 (lv_at hl 0 rfl) ?_
  refine va_get (D := D) (ci := 1) (v := .int (nI n)) (C := R_Li) (T := F_Li) (N := 7) hx hb hg in_Li hown hK hN 0 rfl rfl 0 (Nat.le_of_ble_eq_true rfl) (hg _ tw_44) (fun _ h9 => h9) rfl d_EP_operation_36 ?_
  refine lv_icmp_lt (tgt := 52) hx hb d_EP_operation_39 (by decide) (fun hc1 => ?_) (fun hc1 => ?_)
  · have hc1 : i8 < n := (nI_ltI (a := i8) (b := n) (by omega) (by omega)).mp hc1
    refine lv_iload_n hx hb d_EP_operation_52 rfl (lv_at hl 4 rfl) ?_
    refine lv_tableIn (tgt := 96) hx hb d_EP_operation_53 (by decide) (by decide) rfl (by decide) ?_
    refine lv_aload hx hb d_EP_operation_96 (lv_at hl 0 rfl) ?_
    refine va_get (D := D) (ci := 1) (v := .ref (o + 2 + 15 * j + 1 + 3)) (C := R_Li) (T := F_Li) (N := 7) hx hb hg in_Li hown hK hN 0 rfl rfl 3 (Nat.le_of_ble_eq_true rfl) (hg _ tw_50) (fun _ h9 => h9) rfl d_EP_operation_98 ?_
    refine lv_iload_n hx hb d_EP_operation_101 rfl (lv_at hl 3 rfl) ?_
    refine ep_iald hx hb hK hN 3 0 rfl rfl (i := i8) (by omega) (by decide) d_EP_operation_102 ?_
    rw [if_pos hc1] at hR
    subst hR
    refine vx_ret ?_
    refine W.widen (k := 1) (n := 6) (Nat.le_of_ble_eq_true rfl) (Nat.le_of_ble_eq_true rfl) ?_
    exact W.iret (v := (aa i8)) hx hb hr (fun t9 ht hW => ⟨rfl, rfl, hS.F ht, trivial⟩) hS.2.2 d_EP_operation_103
  · have hc1 : ¬ (i8 < n) := fun h9 => hc1 ((nI_ltI (a := i8) (b := n) (by omega) (by omega)).mpr h9)
    rw [if_neg hc1] at hR
    subst hR
    obtain ⟨sa, hsa⟩ := hKn.2.2.2.2.2 ("EditablePast", 209, "the line has not so many operations") (by decide +kernel)
    exact vx_throwS (text := "the line has not so many operations") (names := th_n) hx hb hlt hown (by decide +kernel) (by decide +kernel) (hg _ tw_604) (hg _ tw_21) hsa (ta_IOB hg hKn) ta_IOB_o hZ.1 hZ.2 hS (hl.1.trans hml.symm) d_EP_operation_42 d_EP_operation_45 d_EP_operation_46 d_EP_operation_48 d_EP_operation_51 (fun x h => (hno x h).elim) (Nat.le_of_ble_eq_true rfl) (Nat.le_of_ble_eq_true rfl) (Nat.le_of_ble_eq_true rfl) (Nat.le_of_ble_eq_true rfl) hlocks (fun t9 hv h1 h2 => ⟨by show (3 : Nat) ≠ 0; decide, rfl, F_ext hS h1 h2, trivial⟩) hS.2.2 (Nat.le_of_ble_eq_true rfl) (Nat.le_of_ble_eq_true rfl)

def f_EP_operation_3 (n : Nat) (bb : Nat → Int32) (i8 : Nat) : Nat × Int32 := if i8 < n then ((0, bb i8)) else ((3, 0))

set_option maxHeartbeats 4000000 in
set_option maxRecDepth 100000 in
theorem m_EP_operation_3 (l : Launch) (hlt : l.stackTraces = false) (D : va_G) (cI cJ cZ cO : ClassId) (o : Nat) (j : Nat) (kd : Int32) (n : Nat) (mo : Nat → Int32) (na : Nat → Int32) (aa : Nat → Int32) (bb : Nat → Int32) (re : Nat → Int64) (ef : Nat → Int32) (i8 : Nat) (hj : j < 4) (hkd : ¬ kd = -1) (hn : n ≤ 32) (hi8 : i8 < 2 ^ 31) (R : Nat × Int32) (hR : f_EP_operation_3 n bb i8 = R) : vx_Met l y_EP_operation (k_EP_operation :: gt) rx_EP_operation (PcX D cI cJ cZ cO (fun _ => False) [.ref o, .int (nI j), .int (nI i8), .int 3] (fun H => va_P D cls (wEP cO o) H ∧ va_P D cls (wCo (o + 2 + 15 * j) kd) H ∧ va_P D cls (wLi cI cJ cZ (o + 2 + 15 * j + 1) n mo na aa bb re ef) H)) (Qt R.1 (fun _ => False) (some (.int R.2)) (fun H => True)) (Xt R.1 E_IOB (fun _ => False) (fun H => True)) 1 6 (fun _ => False) := by
  refine vx_ofW (cc := c_EP_operation) (maxL := 5) (ret := (Option.some FieldType.int)) (by decide) rfl ?_
  intro p e s m args below meth c s₁ B hml hno hv
  obtain ⟨rfl, hKn, hZ, hE, hC, hN⟩ := hv
  have hx := B.exec
  have hb := B.bytes
  have hr := B.returns
  have hts := atoms_spec (ws := k_EP_operation :: gt) B.pre
  have hg : ∀ w ∈ gt, w.before _ s = true := fun w h => hts w (List.mem_cons_of_mem _ h)
  have hown : s.vm.findClass R_EP = some m.cls := findClass_of_methodNamed B.named
  have hlocks := B.notSynchronized
  have hK := hKn.1
  have hl := lv_entry ([.ref o, .int (nI j), .int (nI i8), .int 3]) (n := 5) (Nat.le_of_ble_eq_true rfl)
  rw [lg_entry_eq]
  generalize (lg_sl ([.ref o, .int (nI j), .int (nI i8), .int 3]) ++ List.replicate (5 - (lg_sl ([.ref o, .int (nI j), .int (nI i8), .int 3])).length) Slot.unset).toArray = ls at hl ⊢
  have hl : lv_has ls 5 [(0, .ref o), (1, .int (nI j)), (2, .int (nI i8)), (3, .int 3)] := hl
  have hS : va_S (fun _ => False) s.heap s.heap [] := va_S.rf
  have hR : (if i8 < n then ((0, bb i8)) else ((3, 0))) = R := hR
  refine lv_iload_n hx hb d_EP_operation_0 rfl (lv_at hl 3 rfl) ?_
  refine lv_if_lt (tgt := 9) hx hb d_EP_operation_1 (by decide) (fun hc => False.elim (by revert hc; decide)) (fun hc => ?_)
  refine lv_iload_n hx hb d_EP_operation_4 rfl (lv_at hl 3 rfl) ?_
  refine lv_iconst (v := 3) hx hb d_EP_operation_5 (by decide) ?_
  refine lv_icmp_le (tgt := 19) hx hb d_EP_operation_6 (by decide) (fun hc => ?_) (fun hc => False.elim (by revert hc; decide))
  refine lv_aload_n hx hb d_EP_operation_19 rfl (lv_at hl 0 rfl) ?_
  refine lv_iload_n hx hb d_EP_operation_20 rfl (lv_at hl 1 rfl) ?_
  refine ep_callP (W.runV (As := [.int (nI j)]) (rest := []) ⟨hx, hb, hml, hown, hg⟩ (m_EP_openCollection_ok l D cI cJ cZ cO o j kd (by omega) hkd) (ep_cwV 1 hg tw_327 tw_329 ts_2 tw_1 tk_EP_openCollection rfl rfl (by decide +kernel) ⟨(Nat.le_of_ble_eq_true rfl), (Nat.le_of_ble_eq_true rfl)⟩) ⟨ep_blind, va_recv (q0 := 0) (ci := 8) hK hE rfl rfl, ep_pre hKn (⟨hE, hC⟩)⟩ rfl rfl hl.1 rfl (lv_room (Nat.le_of_ble_eq_true rfl)) d_EP_operation_21 ⟨Nat.zero_le _, Nat.zero_le _⟩) ?_
  refine W.eq (g2 := F0 m 24 ls [.ref (o + 2 + 15 * j)]) rfl ?_
  refine va_get (D := D) (ci := 0) (v := .ref (o + 2 + 15 * j + 1)) (C := R_Co) (T := F_Co) (N := 3) hx hb hg in_Co hown hK hC 0 rfl rfl 1 (Nat.le_of_ble_eq_true rfl) (hg _ tw_78) (fun _ h9 => h9) rfl d_EP_operation_24 ?_
  refine lv_astore (lv' := [(4, .ref (o + 2 + 15 * j + 1)), (0, .ref o), (1, .int (nI j)), (2, .int (nI i8)), (3, .int 3)]) hx hb d_EP_operation_27 hl (by decide) rfl (fun ls hl => ?_)
  refine lv_iload_n hx hb d_EP_operation_29 rfl (lv_at hl 3 rfl) ?_
  refine lv_if_lt (tgt := 42) hx hb d_EP_operation_30 (by decide) (fun hc => False.elim (by have hc := (nI_ltI (a := i8) (b := 0) (by omega) (by omega)).mp hc; omega)) (fun hc => ?_)
  refine lv_iload_n hx hb d_EP_operation_33 rfl (lv_at hl 3 rfl) ?_
  refine lv_aload hx hb d_EP_operation_34 (lv_at hl 0 rfl) ?_
  refine va_get (D := D) (ci := 1) (v := .int (nI n)) (C := R_Li) (T := F_Li) (N := 7) hx hb hg in_Li hown hK hN 0 rfl rfl 0 (Nat.le_of_ble_eq_true rfl) (hg _ tw_44) (fun _ h9 => h9) rfl d_EP_operation_36 ?_
  refine lv_icmp_lt (tgt := 52) hx hb d_EP_operation_39 (by decide) (fun hc1 => ?_) (fun hc1 => ?_)
  · have hc1 : i8 < n := (nI_ltI (a := i8) (b := n) (by omega) (by omega)).mp hc1
    refine lv_iload_n hx hb d_EP_operation_52 rfl (lv_at hl 4 rfl) ?_
    refine lv_tableOut (tgt := 104) hx hb d_EP_operation_53 (by decide) (by decide) ?_
    refine lv_aload hx hb d_EP_operation_104 (lv_at hl 0 rfl) ?_
    refine va_get (D := D) (ci := 1) (v := .ref (o + 2 + 15 * j + 1 + 4)) (C := R_Li) (T := F_Li) (N := 7) hx hb hg in_Li hown hK hN 0 rfl rfl 4 (Nat.le_of_ble_eq_true rfl) (hg _ tw_52) (fun _ h9 => h9) rfl d_EP_operation_106 ?_
    refine lv_iload_n hx hb d_EP_operation_109 rfl (lv_at hl 3 rfl) ?_
    refine ep_iald hx hb hK hN 4 0 rfl rfl (i := i8) (by omega) (by decide) d_EP_operation_110 ?_
    rw [if_pos hc1] at hR
    subst hR
    refine vx_ret ?_
    refine W.widen (k := 1) (n := 6) (Nat.le_of_ble_eq_true rfl) (Nat.le_of_ble_eq_true rfl) ?_
    exact W.iret (v := (bb i8)) hx hb hr (fun t9 ht hW => ⟨rfl, rfl, hS.F ht, trivial⟩) hS.2.2 d_EP_operation_111
  · have hc1 : ¬ (i8 < n) := fun h9 => hc1 ((nI_ltI (a := i8) (b := n) (by omega) (by omega)).mpr h9)
    rw [if_neg hc1] at hR
    subst hR
    obtain ⟨sa, hsa⟩ := hKn.2.2.2.2.2 ("EditablePast", 209, "the line has not so many operations") (by decide +kernel)
    exact vx_throwS (text := "the line has not so many operations") (names := th_n) hx hb hlt hown (by decide +kernel) (by decide +kernel) (hg _ tw_604) (hg _ tw_21) hsa (ta_IOB hg hKn) ta_IOB_o hZ.1 hZ.2 hS (hl.1.trans hml.symm) d_EP_operation_42 d_EP_operation_45 d_EP_operation_46 d_EP_operation_48 d_EP_operation_51 (fun x h => (hno x h).elim) (Nat.le_of_ble_eq_true rfl) (Nat.le_of_ble_eq_true rfl) (Nat.le_of_ble_eq_true rfl) (Nat.le_of_ble_eq_true rfl) hlocks (fun t9 hv h1 h2 => ⟨by show (3 : Nat) ≠ 0; decide, rfl, F_ext hS h1 h2, trivial⟩) hS.2.2 (Nat.le_of_ble_eq_true rfl) (Nat.le_of_ble_eq_true rfl)

def f_EP_operation_x (f9 : Int32) : Nat × Int32 := if f9 < 0 then ((1, 0)) else (if f9 ≤ 3 then ((1, 0)) else ((1, 0)))

set_option maxHeartbeats 4000000 in
set_option maxRecDepth 100000 in
theorem m_EP_operation_x (l : Launch) (hlt : l.stackTraces = false) (D : va_G) (cI cJ cZ cO : ClassId) (o : Nat) (id : Int32) (i9 : Int32) (f9 : Int32) (hf9 : ¬ (¬ f9 < 0 ∧ f9 ≤ 3)) (R : Nat × Int32) (hR : f_EP_operation_x f9 = R) : vx_Met l y_EP_operation (k_EP_operation :: gt) rx_EP_operation (PcX D cI cJ cZ cO (fun _ => False) [.ref o, .int id, .int i9, .int f9] (fun H => va_P D cls (wEP cO o) H)) (Qt R.1 (fun _ => False) (some (.int R.2)) (fun H => True)) (Xt R.1 E_IOB (fun _ => False) (fun H => True)) 1 6 (fun _ => False) := by
  refine vx_ofW (cc := c_EP_operation) (maxL := 5) (ret := (Option.some FieldType.int)) (by decide) rfl ?_
  intro p e s m args below meth c s₁ B hml hno hv
  obtain ⟨rfl, hKn, hZ, hE⟩ := hv
  have hx := B.exec
  have hb := B.bytes
  have hr := B.returns
  have hts := atoms_spec (ws := k_EP_operation :: gt) B.pre
  have hg : ∀ w ∈ gt, w.before _ s = true := fun w h => hts w (List.mem_cons_of_mem _ h)
  have hown : s.vm.findClass R_EP = some m.cls := findClass_of_methodNamed B.named
  have hlocks := B.notSynchronized
  have hK := hKn.1
  have hl := lv_entry ([.ref o, .int id, .int i9, .int f9]) (n := 5) (Nat.le_of_ble_eq_true rfl)
  rw [lg_entry_eq]
  generalize (lg_sl ([.ref o, .int id, .int i9, .int f9]) ++ List.replicate (5 - (lg_sl ([.ref o, .int id, .int i9, .int f9])).length) Slot.unset).toArray = ls at hl ⊢
  have hl : lv_has ls 5 [(0, .ref o), (1, .int id), (2, .int i9), (3, .int f9)] := hl
  have hS : va_S (fun _ => False) s.heap s.heap [] := va_S.rf
  have hR : (if f9 < 0 then ((1, 0)) else (if f9 ≤ 3 then ((1, 0)) else ((1, 0)))) = R := hR
  refine lv_iload_n hx hb d_EP_operation_0 rfl (lv_at hl 3 rfl) ?_
  refine lv_if_lt (tgt := 9) hx hb d_EP_operation_1 (by decide) (fun hc1 => ?_) (fun hc1 => ?_)
  · have hc1 : f9 < 0 := hc1
    rw [if_pos hc1] at hR
    subst hR
    obtain ⟨sa, hsa⟩ := hKn.2.2.2.2.2 ("EditablePast", 207, "an operation has no such number") (by decide +kernel)
    exact vx_throwS (text := "an operation has no such number") (names := th_n) hx hb hlt hown (by decide +kernel) (by decide +kernel) (hg _ tw_229) (hg _ tw_16) hsa (ta_IAE hg hKn) ta_IAE_o hZ.1 hZ.2 hS (hl.1.trans hml.symm) d_EP_operation_9 d_EP_operation_12 d_EP_operation_13 d_EP_operation_15 d_EP_operation_18 (fun x h => (hno x h).elim) (Nat.le_of_ble_eq_true rfl) (Nat.le_of_ble_eq_true rfl) (Nat.le_of_ble_eq_true rfl) (Nat.le_of_ble_eq_true rfl) hlocks (fun t9 hv h1 h2 => ⟨by show (1 : Nat) ≠ 0; decide, rfl, F_ext hS h1 h2, trivial⟩) hS.2.2 (Nat.le_of_ble_eq_true rfl) (Nat.le_of_ble_eq_true rfl)
  · have hc1 : ¬ (f9 < 0) := hc1
    refine lv_iload_n hx hb d_EP_operation_4 rfl (lv_at hl 3 rfl) ?_
    refine lv_iconst (v := 3) hx hb d_EP_operation_5 (by decide) ?_
    refine lv_icmp_le (tgt := 19) hx hb d_EP_operation_6 (by decide) (fun hc2 => ?_) (fun hc2 => ?_)
    · have hc2 : f9 ≤ 3 := hc2
      exact (hf9 ⟨hc1, hc2⟩).elim
    · have hc2 : ¬ (f9 ≤ 3) := hc2
      rw [if_neg hc1, if_neg hc2] at hR
      subst hR
      obtain ⟨sa, hsa⟩ := hKn.2.2.2.2.2 ("EditablePast", 207, "an operation has no such number") (by decide +kernel)
      exact vx_throwS (text := "an operation has no such number") (names := th_n) hx hb hlt hown (by decide +kernel) (by decide +kernel) (hg _ tw_229) (hg _ tw_16) hsa (ta_IAE hg hKn) ta_IAE_o hZ.1 hZ.2 hS (hl.1.trans hml.symm) d_EP_operation_9 d_EP_operation_12 d_EP_operation_13 d_EP_operation_15 d_EP_operation_18 (fun x h => (hno x h).elim) (Nat.le_of_ble_eq_true rfl) (Nat.le_of_ble_eq_true rfl) (Nat.le_of_ble_eq_true rfl) (Nat.le_of_ble_eq_true rfl) hlocks (fun t9 hv h1 h2 => ⟨by show (1 : Nat) ≠ 0; decide, rfl, F_ext hS h1 h2, trivial⟩) hS.2.2 (Nat.le_of_ble_eq_true rfl) (Nat.le_of_ble_eq_true rfl)

def f_EP_effective_b (t : Int32) (u : Int32) : Nat × Int32 := if okM t then (if okM u then ((1, 0)) else ((1, 0))) else ((1, 0))

set_option maxHeartbeats 4000000 in
set_option maxRecDepth 100000 in
theorem m_EP_effective_b (l : Launch) (hlt : l.stackTraces = false) (D : va_G) (cI cJ cZ cO : ClassId) (o : Nat) (id : Int32) (t : Int32) (u : Int32) (hid : ¬ okI id) (R : Nat × Int32) (hR : f_EP_effective_b t u = R) : vx_Met l y_EP_effective (k_EP_effective :: gt) rx_EP_effective (PcX D cI cJ cZ cO (fun _ => False) [.ref o, .int id, .int t, .int u] (fun H => va_P D cls (wEP cO o) H)) (Qt R.1 (fun _ => False) (some (.int R.2)) (fun H => True)) (Xt R.1 E_NSE (fun _ => False) (fun H => True)) 1 6 (fun _ => False) := by
  refine vx_ofW (cc := c_EP_effective) (maxL := 4) (ret := (Option.some FieldType.int)) (by decide) rfl ?_
  intro p e s m args below meth c s₁ B hml hno hv
  obtain ⟨rfl, hKn, hZ, hE⟩ := hv
  have hx := B.exec
  have hb := B.bytes
  have hr := B.returns
  have hts := atoms_spec (ws := k_EP_effective :: gt) B.pre
  have hg : ∀ w ∈ gt, w.before _ s = true := fun w h => hts w (List.mem_cons_of_mem _ h)
  have hown : s.vm.findClass R_EP = some m.cls := findClass_of_methodNamed B.named
  have hlocks := B.notSynchronized
  have hK := hKn.1
  have hl := lv_entry ([.ref o, .int id, .int t, .int u]) (n := 4) (Nat.le_of_ble_eq_true rfl)
  rw [lg_entry_eq]
  generalize (lg_sl ([.ref o, .int id, .int t, .int u]) ++ List.replicate (4 - (lg_sl ([.ref o, .int id, .int t, .int u])).length) Slot.unset).toArray = ls at hl ⊢
  have hl : lv_has ls 4 [(0, .ref o), (1, .int id), (2, .int t), (3, .int u)] := hl
  have hS : va_S (fun _ => False) s.heap s.heap [] := va_S.rf
  have hR : (if okM t then (if okM u then ((1, 0)) else ((1, 0))) else ((1, 0))) = R := hR
  refine lv_iload_n hx hb d_EP_effective_0 rfl (lv_at hl 2 rfl) ?_
  by_cases hc1 : okM t
  · refine ep_callP (W.runS (As := [.int t]) (rest := []) ⟨hx, hb, hml, hown, hg⟩ (m_EP_checkMoment_ok l D cI cJ cZ cO t hc1) (ep_cwS 1 hg tw_340 tw_341 tw_1 tk_EP_checkMoment rfl rfl (by decide +kernel) ⟨(Nat.le_of_ble_eq_true rfl), (Nat.le_of_ble_eq_true rfl)⟩) ⟨ep_blind, ep_pre hKn (trivial)⟩ rfl rfl hl.1 rfl (lv_room (Nat.le_of_ble_eq_true rfl)) d_EP_effective_1 ⟨Nat.zero_le _, Nat.zero_le _⟩) ?_
    refine W.eq (g2 := F0 m 4 ls []) rfl ?_
    refine lv_iload_n hx hb d_EP_effective_4 rfl (lv_at hl 3 rfl) ?_
    by_cases hc2 : okM u
    · refine ep_callP (W.runS (As := [.int u]) (rest := []) ⟨hx, hb, hml, hown, hg⟩ (m_EP_checkMoment_ok l D cI cJ cZ cO u hc2) (ep_cwS 1 hg tw_340 tw_341 tw_1 tk_EP_checkMoment rfl rfl (by decide +kernel) ⟨(Nat.le_of_ble_eq_true rfl), (Nat.le_of_ble_eq_true rfl)⟩) ⟨ep_blind, ep_pre hKn (trivial)⟩ rfl rfl hl.1 rfl (lv_room (Nat.le_of_ble_eq_true rfl)) d_EP_effective_5 ⟨Nat.zero_le _, Nat.zero_le _⟩) ?_
      refine W.eq (g2 := F0 m 8 ls []) rfl ?_
      refine lv_aload_n hx hb d_EP_effective_8 rfl (lv_at hl 0 rfl) ?_
      refine lv_iload_n hx hb d_EP_effective_9 rfl (lv_at hl 1 rfl) ?_
      rw [if_pos hc1, if_pos hc2] at hR
      subst hR
      refine ep_callX (E := E_IAE) (vx_runV (As := [.int id]) (rest := []) ⟨hx, hb, hml, hown, hg⟩ (m_EP_openCollection_b l hlt D cI cJ cZ cO o id hid) (ep_cwV 1 hg tw_327 tw_329 ts_2 tw_1 tk_EP_openCollection rfl rfl (by decide +kernel) ⟨(Nat.le_of_ble_eq_true rfl), (Nat.le_of_ble_eq_true rfl)⟩) ⟨ep_blindX, va_recv (q0 := 0) (ci := 8) hK hE rfl rfl, ep_preX hKn (Zs.kept hZ hS (fun q h => h.elim)) (hE)⟩ rfl rfl hl.1 rfl (lv_room (Nat.le_of_ble_eq_true rfl)) d_EP_effective_10 ⟨(Nat.le_of_ble_eq_true rfl), (Nat.le_of_ble_eq_true rfl)⟩) hS (fun q h => h.elim) (fun ce q9 H1 locs1 hz1 hk1 hS1 hce hcv hcl => ?_)
      exact vx_out (fun x h => (hno x h).elim) hlocks hce hcv hcl (fun t9 ht hv => ⟨by show (1 : Nat) ≠ 0; decide, rfl, hS1.F ht, trivial⟩) hS1.2.2 (Nat.le_of_ble_eq_true rfl) (Nat.le_of_ble_eq_true rfl)
    · rw [if_pos hc1, if_neg hc2] at hR
      subst hR
      refine ep_callX (E := E_IAE) (vx_runS (As := [.int u]) (rest := []) ⟨hx, hb, hml, hown, hg⟩ (m_EP_checkMoment_x l hlt D cI cJ cZ cO u hc2) (ep_cwS 1 hg tw_340 tw_341 tw_1 tk_EP_checkMoment rfl rfl (by decide +kernel) ⟨(Nat.le_of_ble_eq_true rfl), (Nat.le_of_ble_eq_true rfl)⟩) ⟨ep_blindX, ep_preX hKn (Zs.kept hZ hS (fun q h => h.elim)) (trivial)⟩ rfl rfl hl.1 rfl (lv_room (Nat.le_of_ble_eq_true rfl)) d_EP_effective_5 ⟨(Nat.le_of_ble_eq_true rfl), (Nat.le_of_ble_eq_true rfl)⟩) hS (fun q h => h.elim) (fun ce q9 H1 locs1 hz1 hk1 hS1 hce hcv hcl => ?_)
      exact vx_out (fun x h => (hno x h).elim) hlocks hce hcv hcl (fun t9 ht hv => ⟨by show (1 : Nat) ≠ 0; decide, rfl, hS1.F ht, trivial⟩) hS1.2.2 (Nat.le_of_ble_eq_true rfl) (Nat.le_of_ble_eq_true rfl)
  · rw [if_neg hc1] at hR
    subst hR
    refine ep_callX (E := E_IAE) (vx_runS (As := [.int t]) (rest := []) ⟨hx, hb, hml, hown, hg⟩ (m_EP_checkMoment_x l hlt D cI cJ cZ cO t hc1) (ep_cwS 1 hg tw_340 tw_341 tw_1 tk_EP_checkMoment rfl rfl (by decide +kernel) ⟨(Nat.le_of_ble_eq_true rfl), (Nat.le_of_ble_eq_true rfl)⟩) ⟨ep_blindX, ep_preX hKn (Zs.kept hZ hS (fun q h => h.elim)) (trivial)⟩ rfl rfl hl.1 rfl (lv_room (Nat.le_of_ble_eq_true rfl)) d_EP_effective_1 ⟨(Nat.le_of_ble_eq_true rfl), (Nat.le_of_ble_eq_true rfl)⟩) hS (fun q h => h.elim) (fun ce q9 H1 locs1 hz1 hk1 hS1 hce hcv hcl => ?_)
    exact vx_out (fun x h => (hno x h).elim) hlocks hce hcv hcl (fun t9 ht hv => ⟨by show (1 : Nat) ≠ 0; decide, rfl, hS1.F ht, trivial⟩) hS1.2.2 (Nat.le_of_ble_eq_true rfl) (Nat.le_of_ble_eq_true rfl)

def f_EP_effective_c (t : Int32) (u : Int32) : Nat × Int32 := if okM t then (if okM u then ((2, 0)) else ((1, 0))) else ((1, 0))

set_option maxHeartbeats 4000000 in
set_option maxRecDepth 100000 in
theorem m_EP_effective_c (l : Launch) (hlt : l.stackTraces = false) (D : va_G) (cI cJ cZ cO : ClassId) (o : Nat) (j : Nat) (t : Int32) (u : Int32) (hj : j < 4) (R : Nat × Int32) (hR : f_EP_effective_c t u = R) : vx_Met l y_EP_effective (k_EP_effective :: gt) rx_EP_effective (PcX D cI cJ cZ cO (fun _ => False) [.ref o, .int (nI j), .int t, .int u] (fun H => va_P D cls (wEP cO o) H ∧ va_P D cls (wCo (o + 2 + 15 * j) (-1)) H)) (Qt R.1 (fun _ => False) (some (.int R.2)) (fun H => True)) (Xt R.1 E_NSE (fun _ => False) (fun H => True)) 1 6 (fun _ => False) := by
  refine vx_ofW (cc := c_EP_effective) (maxL := 4) (ret := (Option.some FieldType.int)) (by decide) rfl ?_
  intro p e s m args below meth c s₁ B hml hno hv
  obtain ⟨rfl, hKn, hZ, hE, hC⟩ := hv
  have hx := B.exec
  have hb := B.bytes
  have hr := B.returns
  have hts := atoms_spec (ws := k_EP_effective :: gt) B.pre
  have hg : ∀ w ∈ gt, w.before _ s = true := fun w h => hts w (List.mem_cons_of_mem _ h)
  have hown : s.vm.findClass R_EP = some m.cls := findClass_of_methodNamed B.named
  have hlocks := B.notSynchronized
  have hK := hKn.1
  have hl := lv_entry ([.ref o, .int (nI j), .int t, .int u]) (n := 4) (Nat.le_of_ble_eq_true rfl)
  rw [lg_entry_eq]
  generalize (lg_sl ([.ref o, .int (nI j), .int t, .int u]) ++ List.replicate (4 - (lg_sl ([.ref o, .int (nI j), .int t, .int u])).length) Slot.unset).toArray = ls at hl ⊢
  have hl : lv_has ls 4 [(0, .ref o), (1, .int (nI j)), (2, .int t), (3, .int u)] := hl
  have hS : va_S (fun _ => False) s.heap s.heap [] := va_S.rf
  have hR : (if okM t then (if okM u then ((2, 0)) else ((1, 0))) else ((1, 0))) = R := hR
  refine lv_iload_n hx hb d_EP_effective_0 rfl (lv_at hl 2 rfl) ?_
  by_cases hc1 : okM t
  · refine ep_callP (W.runS (As := [.int t]) (rest := []) ⟨hx, hb, hml, hown, hg⟩ (m_EP_checkMoment_ok l D cI cJ cZ cO t hc1) (ep_cwS 1 hg tw_340 tw_341 tw_1 tk_EP_checkMoment rfl rfl (by decide +kernel) ⟨(Nat.le_of_ble_eq_true rfl), (Nat.le_of_ble_eq_true rfl)⟩) ⟨ep_blind, ep_pre hKn (trivial)⟩ rfl rfl hl.1 rfl (lv_room (Nat.le_of_ble_eq_true rfl)) d_EP_effective_1 ⟨Nat.zero_le _, Nat.zero_le _⟩) ?_
    refine W.eq (g2 := F0 m 4 ls []) rfl ?_
    refine lv_iload_n hx hb d_EP_effective_4 rfl (lv_at hl 3 rfl) ?_
    by_cases hc2 : okM u
    · refine ep_callP (W.runS (As := [.int u]) (rest := []) ⟨hx, hb, hml, hown, hg⟩ (m_EP_checkMoment_ok l D cI cJ cZ cO u hc2) (ep_cwS 1 hg tw_340 tw_341 tw_1 tk_EP_checkMoment rfl rfl (by decide +kernel) ⟨(Nat.le_of_ble_eq_true rfl), (Nat.le_of_ble_eq_true rfl)⟩) ⟨ep_blind, ep_pre hKn (trivial)⟩ rfl rfl hl.1 rfl (lv_room (Nat.le_of_ble_eq_true rfl)) d_EP_effective_5 ⟨Nat.zero_le _, Nat.zero_le _⟩) ?_
      refine W.eq (g2 := F0 m 8 ls []) rfl ?_
      refine lv_aload_n hx hb d_EP_effective_8 rfl (lv_at hl 0 rfl) ?_
      refine lv_iload_n hx hb d_EP_effective_9 rfl (lv_at hl 1 rfl) ?_
      rw [if_pos hc1, if_pos hc2] at hR
      subst hR
      refine ep_callX (E := E_ISE) (vx_runV (As := [.int (nI j)]) (rest := []) ⟨hx, hb, hml, hown, hg⟩ (m_EP_openCollection_c l hlt D cI cJ cZ cO o j (by omega)) (ep_cwV 1 hg tw_327 tw_329 ts_2 tw_1 tk_EP_openCollection rfl rfl (by decide +kernel) ⟨(Nat.le_of_ble_eq_true rfl), (Nat.le_of_ble_eq_true rfl)⟩) ⟨ep_blindX, va_recv (q0 := 0) (ci := 8) hK hE rfl rfl, ep_preX hKn (Zs.kept hZ hS (fun q h => h.elim)) (⟨hE, hC⟩)⟩ rfl rfl hl.1 rfl (lv_room (Nat.le_of_ble_eq_true rfl)) d_EP_effective_10 ⟨(Nat.le_of_ble_eq_true rfl), (Nat.le_of_ble_eq_true rfl)⟩) hS (fun q h => h.elim) (fun ce q9 H1 locs1 hz1 hk1 hS1 hce hcv hcl => ?_)
      exact vx_out (fun x h => (hno x h).elim) hlocks hce hcv hcl (fun t9 ht hv => ⟨by show (2 : Nat) ≠ 0; decide, rfl, hS1.F ht, trivial⟩) hS1.2.2 (Nat.le_of_ble_eq_true rfl) (Nat.le_of_ble_eq_true rfl)
    · rw [if_pos hc1, if_neg hc2] at hR
      subst hR
      refine ep_callX (E := E_IAE) (vx_runS (As := [.int u]) (rest := []) ⟨hx, hb, hml, hown, hg⟩ (m_EP_checkMoment_x l hlt D cI cJ cZ cO u hc2) (ep_cwS 1 hg tw_340 tw_341 tw_1 tk_EP_checkMoment rfl rfl (by decide +kernel) ⟨(Nat.le_of_ble_eq_true rfl), (Nat.le_of_ble_eq_true rfl)⟩) ⟨ep_blindX, ep_preX hKn (Zs.kept hZ hS (fun q h => h.elim)) (trivial)⟩ rfl rfl hl.1 rfl (lv_room (Nat.le_of_ble_eq_true rfl)) d_EP_effective_5 ⟨(Nat.le_of_ble_eq_true rfl), (Nat.le_of_ble_eq_true rfl)⟩) hS (fun q h => h.elim) (fun ce q9 H1 locs1 hz1 hk1 hS1 hce hcv hcl => ?_)
      exact vx_out (fun x h => (hno x h).elim) hlocks hce hcv hcl (fun t9 ht hv => ⟨by show (1 : Nat) ≠ 0; decide, rfl, hS1.F ht, trivial⟩) hS1.2.2 (Nat.le_of_ble_eq_true rfl) (Nat.le_of_ble_eq_true rfl)
  · rw [if_neg hc1] at hR
    subst hR
    refine ep_callX (E := E_IAE) (vx_runS (As := [.int t]) (rest := []) ⟨hx, hb, hml, hown, hg⟩ (m_EP_checkMoment_x l hlt D cI cJ cZ cO t hc1) (ep_cwS 1 hg tw_340 tw_341 tw_1 tk_EP_checkMoment rfl rfl (by decide +kernel) ⟨(Nat.le_of_ble_eq_true rfl), (Nat.le_of_ble_eq_true rfl)⟩) ⟨ep_blindX, ep_preX hKn (Zs.kept hZ hS (fun q h => h.elim)) (trivial)⟩ rfl rfl hl.1 rfl (lv_room (Nat.le_of_ble_eq_true rfl)) d_EP_effective_1 ⟨(Nat.le_of_ble_eq_true rfl), (Nat.le_of_ble_eq_true rfl)⟩) hS (fun q h => h.elim) (fun ce q9 H1 locs1 hz1 hk1 hS1 hce hcv hcl => ?_)
    exact vx_out (fun x h => (hno x h).elim) hlocks hce hcv hcl (fun t9 ht hv => ⟨by show (1 : Nat) ≠ 0; decide, rfl, hS1.F ht, trivial⟩) hS1.2.2 (Nat.le_of_ble_eq_true rfl) (Nat.le_of_ble_eq_true rfl)

def f_EP_effective (n : Nat) (mo : Nat → Int32) (ef : Nat → Int32) (t : Int32) (u : Int32) : Nat × Nat := if okM t then (if okM u then ((0, cef mo ef u (n - pfr mo t n 0) (pfr mo t n 0))) else ((1, 0))) else ((1, 0))

set_option maxHeartbeats 4000000 in
set_option maxRecDepth 100000 in
theorem m_EP_effective (l : Launch) (hlt : l.stackTraces = false) (D : va_G) (cI cJ cZ cO : ClassId) (o : Nat) (j : Nat) (kd : Int32) (n : Nat) (mo : Nat → Int32) (na : Nat → Int32) (aa : Nat → Int32) (bb : Nat → Int32) (re : Nat → Int64) (ef : Nat → Int32) (t : Int32) (u : Int32) (hj : j < 4) (hkd : ¬ kd = -1) (hn : n ≤ 32) (R : Nat × Nat) (hR : f_EP_effective n mo ef t u = R) : vx_Met l y_EP_effective (k_EP_effective :: gt) rx_EP_effective (PcX D cI cJ cZ cO (fun _ => False) [.ref o, .int (nI j), .int t, .int u] (fun H => va_P D cls (wEP cO o) H ∧ va_P D cls (wCo (o + 2 + 15 * j) kd) H ∧ va_P D cls (wLi cI cJ cZ (o + 2 + 15 * j + 1) n mo na aa bb re ef) H)) (Qt R.1 (fun _ => False) (some (.int (nI R.2))) (fun H => True)) (Xt R.1 E_NSE (fun _ => False) (fun H => True)) 1 6 (fun _ => False) := by
  refine vx_ofW (cc := c_EP_effective) (maxL := 4) (ret := (Option.some FieldType.int)) (by decide) rfl ?_
  intro p e s m args below meth c s₁ B hml hno hv
  obtain ⟨rfl, hKn, hZ, hE, hC, hN⟩ := hv
  have hx := B.exec
  have hb := B.bytes
  have hr := B.returns
  have hts := atoms_spec (ws := k_EP_effective :: gt) B.pre
  have hg : ∀ w ∈ gt, w.before _ s = true := fun w h => hts w (List.mem_cons_of_mem _ h)
  have hown : s.vm.findClass R_EP = some m.cls := findClass_of_methodNamed B.named
  have hlocks := B.notSynchronized
  have hK := hKn.1
  have hl := lv_entry ([.ref o, .int (nI j), .int t, .int u]) (n := 4) (Nat.le_of_ble_eq_true rfl)
  rw [lg_entry_eq]
  generalize (lg_sl ([.ref o, .int (nI j), .int t, .int u]) ++ List.replicate (4 - (lg_sl ([.ref o, .int (nI j), .int t, .int u])).length) Slot.unset).toArray = ls at hl ⊢
  have hl : lv_has ls 4 [(0, .ref o), (1, .int (nI j)), (2, .int t), (3, .int u)] := hl
  have hS : va_S (fun _ => False) s.heap s.heap [] := va_S.rf
  have hR : (if okM t then (if okM u then ((0, cef mo ef u (n - pfr mo t n 0) (pfr mo t n 0))) else ((1, 0))) else ((1, 0))) = R := hR
  refine lv_iload_n hx hb d_EP_effective_0 rfl (lv_at hl 2 rfl) ?_
  by_cases hc1 : okM t
  · refine ep_callP (W.runS (As := [.int t]) (rest := []) ⟨hx, hb, hml, hown, hg⟩ (m_EP_checkMoment_ok l D cI cJ cZ cO t hc1) (ep_cwS 1 hg tw_340 tw_341 tw_1 tk_EP_checkMoment rfl rfl (by decide +kernel) ⟨(Nat.le_of_ble_eq_true rfl), (Nat.le_of_ble_eq_true rfl)⟩) ⟨ep_blind, ep_pre hKn (trivial)⟩ rfl rfl hl.1 rfl (lv_room (Nat.le_of_ble_eq_true rfl)) d_EP_effective_1 ⟨Nat.zero_le _, Nat.zero_le _⟩) ?_
    refine W.eq (g2 := F0 m 4 ls []) rfl ?_
    refine lv_iload_n hx hb d_EP_effective_4 rfl (lv_at hl 3 rfl) ?_
    by_cases hc2 : okM u
    · refine ep_callP (W.runS (As := [.int u]) (rest := []) ⟨hx, hb, hml, hown, hg⟩ (m_EP_checkMoment_ok l D cI cJ cZ cO u hc2) (ep_cwS 1 hg tw_340 tw_341 tw_1 tk_EP_checkMoment rfl rfl (by decide +kernel) ⟨(Nat.le_of_ble_eq_true rfl), (Nat.le_of_ble_eq_true rfl)⟩) ⟨ep_blind, ep_pre hKn (trivial)⟩ rfl rfl hl.1 rfl (lv_room (Nat.le_of_ble_eq_true rfl)) d_EP_effective_5 ⟨Nat.zero_le _, Nat.zero_le _⟩) ?_
      refine W.eq (g2 := F0 m 8 ls []) rfl ?_
      refine lv_aload_n hx hb d_EP_effective_8 rfl (lv_at hl 0 rfl) ?_
      refine lv_iload_n hx hb d_EP_effective_9 rfl (lv_at hl 1 rfl) ?_
      refine ep_callP (W.runV (As := [.int (nI j)]) (rest := []) ⟨hx, hb, hml, hown, hg⟩ (m_EP_openCollection_ok l D cI cJ cZ cO o j kd (by omega) hkd) (ep_cwV 1 hg tw_327 tw_329 ts_2 tw_1 tk_EP_openCollection rfl rfl (by decide +kernel) ⟨(Nat.le_of_ble_eq_true rfl), (Nat.le_of_ble_eq_true rfl)⟩) ⟨ep_blind, va_recv (q0 := 0) (ci := 8) hK hE rfl rfl, ep_pre hKn (⟨hE, hC⟩)⟩ rfl rfl hl.1 rfl (lv_room (Nat.le_of_ble_eq_true rfl)) d_EP_effective_10 ⟨Nat.zero_le _, Nat.zero_le _⟩) ?_
      refine W.eq (g2 := F0 m 13 ls [.ref (o + 2 + 15 * j)]) rfl ?_
      refine va_get (D := D) (ci := 0) (v := .ref (o + 2 + 15 * j + 1)) (C := R_Co) (T := F_Co) (N := 3) hx hb hg in_Co hown hK hC 0 rfl rfl 1 (Nat.le_of_ble_eq_true rfl) (hg _ tw_78) (fun _ h9 => h9) rfl d_EP_effective_13 ?_
      refine lv_iload_n hx hb d_EP_effective_16 rfl (lv_at hl 2 rfl) ?_
      refine lv_iload_n hx hb d_EP_effective_17 rfl (lv_at hl 3 rfl) ?_
      refine ep_callP (W.runV (As := [.int t, .int u]) (rest := []) ⟨hx, hb, hml, hown, hg⟩ (m_Li_countEffects l D cI cJ cZ cO (o + 2 + 15 * j + 1) n mo na aa bb re ef t u hn) (ep_cwV 2 hg tw_657 tw_658 tw_659 tw_3 tk_Li_countEffects rfl rfl (by decide +kernel) ⟨(Nat.le_of_ble_eq_true rfl), (Nat.le_of_ble_eq_true rfl)⟩) ⟨ep_blind, va_recv (q0 := 0) (ci := 1) hK hN rfl rfl, ep_pre hKn (hN)⟩ rfl rfl hl.1 rfl (lv_room (Nat.le_of_ble_eq_true rfl)) d_EP_effective_18 ⟨Nat.zero_le _, Nat.zero_le _⟩) ?_
      refine W.eq (g2 := F0 m 21 ls [.int (nI (cef mo ef u (n - pfr mo t n 0) (pfr mo t n 0)))]) rfl ?_
      rw [if_pos hc1, if_pos hc2] at hR
      subst hR
      refine vx_ret ?_
      refine W.widen (k := 1) (n := 6) (Nat.le_of_ble_eq_true rfl) (Nat.le_of_ble_eq_true rfl) ?_
      exact W.iret (v := (nI (cef mo ef u (n - pfr mo t n 0) (pfr mo t n 0)))) hx hb hr (fun t9 ht hW => ⟨rfl, rfl, hS.F ht, trivial⟩) hS.2.2 d_EP_effective_21
    · rw [if_pos hc1, if_neg hc2] at hR
      subst hR
      refine ep_callX (E := E_IAE) (vx_runS (As := [.int u]) (rest := []) ⟨hx, hb, hml, hown, hg⟩ (m_EP_checkMoment_x l hlt D cI cJ cZ cO u hc2) (ep_cwS 1 hg tw_340 tw_341 tw_1 tk_EP_checkMoment rfl rfl (by decide +kernel) ⟨(Nat.le_of_ble_eq_true rfl), (Nat.le_of_ble_eq_true rfl)⟩) ⟨ep_blindX, ep_preX hKn (Zs.kept hZ hS (fun q h => h.elim)) (trivial)⟩ rfl rfl hl.1 rfl (lv_room (Nat.le_of_ble_eq_true rfl)) d_EP_effective_5 ⟨(Nat.le_of_ble_eq_true rfl), (Nat.le_of_ble_eq_true rfl)⟩) hS (fun q h => h.elim) (fun ce q9 H1 locs1 hz1 hk1 hS1 hce hcv hcl => ?_)
      exact vx_out (fun x h => (hno x h).elim) hlocks hce hcv hcl (fun t9 ht hv => ⟨by show (1 : Nat) ≠ 0; decide, rfl, hS1.F ht, trivial⟩) hS1.2.2 (Nat.le_of_ble_eq_true rfl) (Nat.le_of_ble_eq_true rfl)
  · rw [if_neg hc1] at hR
    subst hR
    refine ep_callX (E := E_IAE) (vx_runS (As := [.int t]) (rest := []) ⟨hx, hb, hml, hown, hg⟩ (m_EP_checkMoment_x l hlt D cI cJ cZ cO t hc1) (ep_cwS 1 hg tw_340 tw_341 tw_1 tk_EP_checkMoment rfl rfl (by decide +kernel) ⟨(Nat.le_of_ble_eq_true rfl), (Nat.le_of_ble_eq_true rfl)⟩) ⟨ep_blindX, ep_preX hKn (Zs.kept hZ hS (fun q h => h.elim)) (trivial)⟩ rfl rfl hl.1 rfl (lv_room (Nat.le_of_ble_eq_true rfl)) d_EP_effective_1 ⟨(Nat.le_of_ble_eq_true rfl), (Nat.le_of_ble_eq_true rfl)⟩) hS (fun q h => h.elim) (fun ce q9 H1 locs1 hz1 hk1 hS1 hce hcv hcl => ?_)
    exact vx_out (fun x h => (hno x h).elim) hlocks hce hcv hcl (fun t9 ht hv => ⟨by show (1 : Nat) ≠ 0; decide, rfl, hS1.F ht, trivial⟩) hS1.2.2 (Nat.le_of_ble_eq_true rfl) (Nat.le_of_ble_eq_true rfl)

def f_EP_result_b (t : Int32) : Nat × Int64 := if okM t then ((1, 0)) else ((1, 0))

set_option maxHeartbeats 4000000 in
set_option maxRecDepth 100000 in
theorem m_EP_result_b (l : Launch) (hlt : l.stackTraces = false) (D : va_G) (cI cJ cZ cO : ClassId) (o : Nat) (id : Int32) (t : Int32) (hid : ¬ okI id) (R : Nat × Int64) (hR : f_EP_result_b t = R) : vx_Met l y_EP_result (k_EP_result :: gt) rx_EP_result (PcX D cI cJ cZ cO (fun _ => False) [.ref o, .int id, .int t] (fun H => va_P D cls (wEP cO o) H)) (Qt R.1 (fun _ => False) (some (.long R.2)) (fun H => True)) (Xt R.1 E_NSE (fun _ => False) (fun H => True)) 1 6 (fun _ => False) := by
  refine vx_ofW (cc := c_EP_result) (maxL := 4) (ret := (Option.some FieldType.long)) (by decide) rfl ?_
  intro p e s m args below meth c s₁ B hml hno hv
  obtain ⟨rfl, hKn, hZ, hE⟩ := hv
  have hx := B.exec
  have hb := B.bytes
  have hr := B.returns
  have hts := atoms_spec (ws := k_EP_result :: gt) B.pre
  have hg : ∀ w ∈ gt, w.before _ s = true := fun w h => hts w (List.mem_cons_of_mem _ h)
  have hown : s.vm.findClass R_EP = some m.cls := findClass_of_methodNamed B.named
  have hlocks := B.notSynchronized
  have hK := hKn.1
  have hl := lv_entry ([.ref o, .int id, .int t]) (n := 4) (Nat.le_of_ble_eq_true rfl)
  rw [lg_entry_eq]
  generalize (lg_sl ([.ref o, .int id, .int t]) ++ List.replicate (4 - (lg_sl ([.ref o, .int id, .int t])).length) Slot.unset).toArray = ls at hl ⊢
  have hl : lv_has ls 4 [(0, .ref o), (1, .int id), (2, .int t)] := hl
  have hS : va_S (fun _ => False) s.heap s.heap [] := va_S.rf
  have hR : (if okM t then ((1, 0)) else ((1, 0))) = R := hR
  refine lv_iload_n hx hb d_EP_result_0 rfl (lv_at hl 2 rfl) ?_
  by_cases hc1 : okM t
  · refine ep_callP (W.runS (As := [.int t]) (rest := []) ⟨hx, hb, hml, hown, hg⟩ (m_EP_checkMoment_ok l D cI cJ cZ cO t hc1) (ep_cwS 1 hg tw_340 tw_341 tw_1 tk_EP_checkMoment rfl rfl (by decide +kernel) ⟨(Nat.le_of_ble_eq_true rfl), (Nat.le_of_ble_eq_true rfl)⟩) ⟨ep_blind, ep_pre hKn (trivial)⟩ rfl rfl hl.1 rfl (lv_room (Nat.le_of_ble_eq_true rfl)) d_EP_result_1 ⟨Nat.zero_le _, Nat.zero_le _⟩) ?_
    refine W.eq (g2 := F0 m 4 ls []) rfl ?_
    refine lv_aload_n hx hb d_EP_result_4 rfl (lv_at hl 0 rfl) ?_
    refine lv_iload_n hx hb d_EP_result_5 rfl (lv_at hl 1 rfl) ?_
    rw [if_pos hc1] at hR
    subst hR
    refine ep_callX (E := E_IAE) (vx_runV (As := [.int id]) (rest := []) ⟨hx, hb, hml, hown, hg⟩ (m_EP_openCollection_b l hlt D cI cJ cZ cO o id hid) (ep_cwV 1 hg tw_327 tw_329 ts_2 tw_1 tk_EP_openCollection rfl rfl (by decide +kernel) ⟨(Nat.le_of_ble_eq_true rfl), (Nat.le_of_ble_eq_true rfl)⟩) ⟨ep_blindX, va_recv (q0 := 0) (ci := 8) hK hE rfl rfl, ep_preX hKn (Zs.kept hZ hS (fun q h => h.elim)) (hE)⟩ rfl rfl hl.1 rfl (lv_room (Nat.le_of_ble_eq_true rfl)) d_EP_result_6 ⟨(Nat.le_of_ble_eq_true rfl), (Nat.le_of_ble_eq_true rfl)⟩) hS (fun q h => h.elim) (fun ce q9 H1 locs1 hz1 hk1 hS1 hce hcv hcl => ?_)
    exact vx_out (fun x h => (hno x h).elim) hlocks hce hcv hcl (fun t9 ht hv => ⟨by show (1 : Nat) ≠ 0; decide, rfl, hS1.F ht, trivial⟩) hS1.2.2 (Nat.le_of_ble_eq_true rfl) (Nat.le_of_ble_eq_true rfl)
  · rw [if_neg hc1] at hR
    subst hR
    refine ep_callX (E := E_IAE) (vx_runS (As := [.int t]) (rest := []) ⟨hx, hb, hml, hown, hg⟩ (m_EP_checkMoment_x l hlt D cI cJ cZ cO t hc1) (ep_cwS 1 hg tw_340 tw_341 tw_1 tk_EP_checkMoment rfl rfl (by decide +kernel) ⟨(Nat.le_of_ble_eq_true rfl), (Nat.le_of_ble_eq_true rfl)⟩) ⟨ep_blindX, ep_preX hKn (Zs.kept hZ hS (fun q h => h.elim)) (trivial)⟩ rfl rfl hl.1 rfl (lv_room (Nat.le_of_ble_eq_true rfl)) d_EP_result_1 ⟨(Nat.le_of_ble_eq_true rfl), (Nat.le_of_ble_eq_true rfl)⟩) hS (fun q h => h.elim) (fun ce q9 H1 locs1 hz1 hk1 hS1 hce hcv hcl => ?_)
    exact vx_out (fun x h => (hno x h).elim) hlocks hce hcv hcl (fun t9 ht hv => ⟨by show (1 : Nat) ≠ 0; decide, rfl, hS1.F ht, trivial⟩) hS1.2.2 (Nat.le_of_ble_eq_true rfl) (Nat.le_of_ble_eq_true rfl)

def f_EP_result_c (t : Int32) : Nat × Int64 := if okM t then ((2, 0)) else ((1, 0))

set_option maxHeartbeats 4000000 in
set_option maxRecDepth 100000 in
theorem m_EP_result_c (l : Launch) (hlt : l.stackTraces = false) (D : va_G) (cI cJ cZ cO : ClassId) (o : Nat) (j : Nat) (t : Int32) (hj : j < 4) (R : Nat × Int64) (hR : f_EP_result_c t = R) : vx_Met l y_EP_result (k_EP_result :: gt) rx_EP_result (PcX D cI cJ cZ cO (fun _ => False) [.ref o, .int (nI j), .int t] (fun H => va_P D cls (wEP cO o) H ∧ va_P D cls (wCo (o + 2 + 15 * j) (-1)) H)) (Qt R.1 (fun _ => False) (some (.long R.2)) (fun H => True)) (Xt R.1 E_NSE (fun _ => False) (fun H => True)) 1 6 (fun _ => False) := by
  refine vx_ofW (cc := c_EP_result) (maxL := 4) (ret := (Option.some FieldType.long)) (by decide) rfl ?_
  intro p e s m args below meth c s₁ B hml hno hv
  obtain ⟨rfl, hKn, hZ, hE, hC⟩ := hv
  have hx := B.exec
  have hb := B.bytes
  have hr := B.returns
  have hts := atoms_spec (ws := k_EP_result :: gt) B.pre
  have hg : ∀ w ∈ gt, w.before _ s = true := fun w h => hts w (List.mem_cons_of_mem _ h)
  have hown : s.vm.findClass R_EP = some m.cls := findClass_of_methodNamed B.named
  have hlocks := B.notSynchronized
  have hK := hKn.1
  have hl := lv_entry ([.ref o, .int (nI j), .int t]) (n := 4) (Nat.le_of_ble_eq_true rfl)
  rw [lg_entry_eq]
  generalize (lg_sl ([.ref o, .int (nI j), .int t]) ++ List.replicate (4 - (lg_sl ([.ref o, .int (nI j), .int t])).length) Slot.unset).toArray = ls at hl ⊢
  have hl : lv_has ls 4 [(0, .ref o), (1, .int (nI j)), (2, .int t)] := hl
  have hS : va_S (fun _ => False) s.heap s.heap [] := va_S.rf
  have hR : (if okM t then ((2, 0)) else ((1, 0))) = R := hR
  refine lv_iload_n hx hb d_EP_result_0 rfl (lv_at hl 2 rfl) ?_
  by_cases hc1 : okM t
  · refine ep_callP (W.runS (As := [.int t]) (rest := []) ⟨hx, hb, hml, hown, hg⟩ (m_EP_checkMoment_ok l D cI cJ cZ cO t hc1) (ep_cwS 1 hg tw_340 tw_341 tw_1 tk_EP_checkMoment rfl rfl (by decide +kernel) ⟨(Nat.le_of_ble_eq_true rfl), (Nat.le_of_ble_eq_true rfl)⟩) ⟨ep_blind, ep_pre hKn (trivial)⟩ rfl rfl hl.1 rfl (lv_room (Nat.le_of_ble_eq_true rfl)) d_EP_result_1 ⟨Nat.zero_le _, Nat.zero_le _⟩) ?_
    refine W.eq (g2 := F0 m 4 ls []) rfl ?_
    refine lv_aload_n hx hb d_EP_result_4 rfl (lv_at hl 0 rfl) ?_
    refine lv_iload_n hx hb d_EP_result_5 rfl (lv_at hl 1 rfl) ?_
    rw [if_pos hc1] at hR
    subst hR
    refine ep_callX (E := E_ISE) (vx_runV (As := [.int (nI j)]) (rest := []) ⟨hx, hb, hml, hown, hg⟩ (m_EP_openCollection_c l hlt D cI cJ cZ cO o j (by omega)) (ep_cwV 1 hg tw_327 tw_329 ts_2 tw_1 tk_EP_openCollection rfl rfl (by decide +kernel) ⟨(Nat.le_of_ble_eq_true rfl), (Nat.le_of_ble_eq_true rfl)⟩) ⟨ep_blindX, va_recv (q0 := 0) (ci := 8) hK hE rfl rfl, ep_preX hKn (Zs.kept hZ hS (fun q h => h.elim)) (⟨hE, hC⟩)⟩ rfl rfl hl.1 rfl (lv_room (Nat.le_of_ble_eq_true rfl)) d_EP_result_6 ⟨(Nat.le_of_ble_eq_true rfl), (Nat.le_of_ble_eq_true rfl)⟩) hS (fun q h => h.elim) (fun ce q9 H1 locs1 hz1 hk1 hS1 hce hcv hcl => ?_)
    exact vx_out (fun x h => (hno x h).elim) hlocks hce hcv hcl (fun t9 ht hv => ⟨by show (2 : Nat) ≠ 0; decide, rfl, hS1.F ht, trivial⟩) hS1.2.2 (Nat.le_of_ble_eq_true rfl) (Nat.le_of_ble_eq_true rfl)
  · rw [if_neg hc1] at hR
    subst hR
    refine ep_callX (E := E_IAE) (vx_runS (As := [.int t]) (rest := []) ⟨hx, hb, hml, hown, hg⟩ (m_EP_checkMoment_x l hlt D cI cJ cZ cO t hc1) (ep_cwS 1 hg tw_340 tw_341 tw_1 tk_EP_checkMoment rfl rfl (by decide +kernel) ⟨(Nat.le_of_ble_eq_true rfl), (Nat.le_of_ble_eq_true rfl)⟩) ⟨ep_blindX, ep_preX hKn (Zs.kept hZ hS (fun q h => h.elim)) (trivial)⟩ rfl rfl hl.1 rfl (lv_room (Nat.le_of_ble_eq_true rfl)) d_EP_result_1 ⟨(Nat.le_of_ble_eq_true rfl), (Nat.le_of_ble_eq_true rfl)⟩) hS (fun q h => h.elim) (fun ce q9 H1 locs1 hz1 hk1 hS1 hce hcv hcl => ?_)
    exact vx_out (fun x h => (hno x h).elim) hlocks hce hcv hcl (fun t9 ht hv => ⟨by show (1 : Nat) ≠ 0; decide, rfl, hS1.F ht, trivial⟩) hS1.2.2 (Nat.le_of_ble_eq_true rfl) (Nat.le_of_ble_eq_true rfl)

def f_EP_result (n : Nat) (mo : Nat → Int32) (re : Nat → Int64) (t : Int32) : Nat × Int64 := if okM t then (if ¬ pat mo t n = -1 then ((0, re ((pat mo t n).toNatClampNeg))) else ((3, 0))) else ((1, 0))

set_option maxHeartbeats 4000000 in
set_option maxRecDepth 100000 in
theorem m_EP_result (l : Launch) (hlt : l.stackTraces = false) (D : va_G) (cI cJ cZ cO : ClassId) (o : Nat) (j : Nat) (kd : Int32) (n : Nat) (mo : Nat → Int32) (na : Nat → Int32) (aa : Nat → Int32) (bb : Nat → Int32) (re : Nat → Int64) (ef : Nat → Int32) (t : Int32) (hj : j < 4) (hkd : ¬ kd = -1) (hn : n ≤ 32) (hz : bz ef) (R : Nat × Int64) (hR : f_EP_result n mo re t = R) : vx_Met l y_EP_result (k_EP_result :: gt) rx_EP_result (PcX D cI cJ cZ cO (fun _ => False) [.ref o, .int (nI j), .int t] (fun H => va_P D cls (wEP cO o) H ∧ va_P D cls (wCo (o + 2 + 15 * j) kd) H ∧ va_P D cls (wLi cI cJ cZ (o + 2 + 15 * j + 1) n mo na aa bb re ef) H)) (Qt R.1 (fun _ => False) (some (.long R.2)) (fun H => True)) (Xt R.1 E_NSE (fun _ => False) (fun H => True)) 1 6 (fun _ => False) := by
  refine vx_ofW (cc := c_EP_result) (maxL := 4) (ret := (Option.some FieldType.long)) (by decide) rfl ?_
  intro p e s m args below meth c s₁ B hml hno hv
  obtain ⟨rfl, hKn, hZ, hE, hC, hN⟩ := hv
  have hx := B.exec
  have hb := B.bytes
  have hr := B.returns
  have hts := atoms_spec (ws := k_EP_result :: gt) B.pre
  have hg : ∀ w ∈ gt, w.before _ s = true := fun w h => hts w (List.mem_cons_of_mem _ h)
  have hown : s.vm.findClass R_EP = some m.cls := findClass_of_methodNamed B.named
  have hlocks := B.notSynchronized
  have hK := hKn.1
  have hl := lv_entry ([.ref o, .int (nI j), .int t]) (n := 4) (Nat.le_of_ble_eq_true rfl)
  rw [lg_entry_eq]
  generalize (lg_sl ([.ref o, .int (nI j), .int t]) ++ List.replicate (4 - (lg_sl ([.ref o, .int (nI j), .int t])).length) Slot.unset).toArray = ls at hl ⊢
  have hl : lv_has ls 4 [(0, .ref o), (1, .int (nI j)), (2, .int t)] := hl
  have hS : va_S (fun _ => False) s.heap s.heap [] := va_S.rf
  have hR : (if okM t then (if ¬ pat mo t n = -1 then ((0, re ((pat mo t n).toNatClampNeg))) else ((3, 0))) else ((1, 0))) = R := hR
  refine lv_iload_n hx hb d_EP_result_0 rfl (lv_at hl 2 rfl) ?_
  by_cases hc1 : okM t
  · refine ep_callP (W.runS (As := [.int t]) (rest := []) ⟨hx, hb, hml, hown, hg⟩ (m_EP_checkMoment_ok l D cI cJ cZ cO t hc1) (ep_cwS 1 hg tw_340 tw_341 tw_1 tk_EP_checkMoment rfl rfl (by decide +kernel) ⟨(Nat.le_of_ble_eq_true rfl), (Nat.le_of_ble_eq_true rfl)⟩) ⟨ep_blind, ep_pre hKn (trivial)⟩ rfl rfl hl.1 rfl (lv_room (Nat.le_of_ble_eq_true rfl)) d_EP_result_1 ⟨Nat.zero_le _, Nat.zero_le _⟩) ?_
    refine W.eq (g2 := F0 m 4 ls []) rfl ?_
    refine lv_aload_n hx hb d_EP_result_4 rfl (lv_at hl 0 rfl) ?_
    refine lv_iload_n hx hb d_EP_result_5 rfl (lv_at hl 1 rfl) ?_
    refine ep_callP (W.runV (As := [.int (nI j)]) (rest := []) ⟨hx, hb, hml, hown, hg⟩ (m_EP_openCollection_ok l D cI cJ cZ cO o j kd (by omega) hkd) (ep_cwV 1 hg tw_327 tw_329 ts_2 tw_1 tk_EP_openCollection rfl rfl (by decide +kernel) ⟨(Nat.le_of_ble_eq_true rfl), (Nat.le_of_ble_eq_true rfl)⟩) ⟨ep_blind, va_recv (q0 := 0) (ci := 8) hK hE rfl rfl, ep_pre hKn (⟨hE, hC⟩)⟩ rfl rfl hl.1 rfl (lv_room (Nat.le_of_ble_eq_true rfl)) d_EP_result_6 ⟨Nat.zero_le _, Nat.zero_le _⟩) ?_
    refine W.eq (g2 := F0 m 9 ls [.ref (o + 2 + 15 * j)]) rfl ?_
    refine va_get (D := D) (ci := 0) (v := .ref (o + 2 + 15 * j + 1)) (C := R_Co) (T := F_Co) (N := 3) hx hb hg in_Co hown hK hC 0 rfl rfl 1 (Nat.le_of_ble_eq_true rfl) (hg _ tw_78) (fun _ h9 => h9) rfl d_EP_result_9 ?_
    refine lv_astore_n (lv' := [(3, .ref (o + 2 + 15 * j + 1)), (0, .ref o), (1, .int (nI j)), (2, .int t)]) hx hb d_EP_result_12 rfl hl (by decide) rfl (fun ls hl => ?_)
    refine lv_aload_n hx hb d_EP_result_13 rfl (lv_at hl 0 rfl) ?_
    refine va_get (D := D) (ci := 1) (v := .ref (o + 2 + 15 * j + 1 + 5)) (C := R_Li) (T := F_Li) (N := 7) hx hb hg in_Li hown hK hN 0 rfl rfl 5 (Nat.le_of_ble_eq_true rfl) (hg _ tw_54) (fun _ h9 => h9) rfl d_EP_result_14 ?_
    refine lv_aload_n hx hb d_EP_result_17 rfl (lv_at hl 0 rfl) ?_
    refine lv_iload_n hx hb d_EP_result_18 rfl (lv_at hl 3 rfl) ?_
    by_cases hc2 : ¬ pat mo t n = -1
    · have hp9 : ((pat mo t n).toNatClampNeg) < n := pat_lt hn hc2
      refine ep_callP (W.runS (As := [.ref (o + 2 + 15 * j + 1), .int t]) (rest := [.ref (o + 2 + 15 * j + 1 + 5)]) ⟨hx, hb, hml, hown, hg⟩ (m_EP_takenPlace_ok l D cI cJ cZ cO (o + 2 + 15 * j + 1) n mo na aa bb re ef t ((pat mo t n).toNatClampNeg) hn hp9 (pat_eq hn hc2)) (ep_cwS 2 hg tw_539 tw_540 tw_1 tk_EP_takenPlace rfl rfl (by decide +kernel) ⟨(Nat.le_of_ble_eq_true rfl), (Nat.le_of_ble_eq_true rfl)⟩) ⟨ep_blind, ep_pre hKn (hN)⟩ rfl rfl hl.1 rfl (lv_room (Nat.le_of_ble_eq_true rfl)) d_EP_result_19 ⟨Nat.zero_le _, Nat.zero_le _⟩) ?_
      refine W.eq (g2 := F0 m 22 ls [.int (nI ((pat mo t n).toNatClampNeg)), .ref (o + 2 + 15 * j + 1 + 5)]) rfl ?_
      refine ep_lald hx hb hK hN 5 1 rfl rfl (i := ((pat mo t n).toNatClampNeg)) (by omega) (by decide) d_EP_result_22 ?_
      rw [if_pos hc1, if_pos hc2] at hR
      subst hR
      refine vx_ret ?_
      refine W.widen (k := 1) (n := 6) (Nat.le_of_ble_eq_true rfl) (Nat.le_of_ble_eq_true rfl) ?_
      exact W.lret (v := (re ((pat mo t n).toNatClampNeg))) hx hb hr (fun t9 ht hW => ⟨rfl, rfl, hS.F ht, trivial⟩) hS.2.2 d_EP_result_23
    · rw [if_pos hc1, if_neg hc2] at hR
      subst hR
      refine ep_callX (E := E_NSE) (vx_runS (As := [.ref (o + 2 + 15 * j + 1), .int t]) (rest := [.ref (o + 2 + 15 * j + 1 + 5)]) ⟨hx, hb, hml, hown, hg⟩ (m_EP_takenPlace_x l hlt D cI cJ cZ cO (o + 2 + 15 * j + 1) n mo na aa bb re ef t hn (Classical.not_not.mp hc2)) (ep_cwS 2 hg tw_539 tw_540 tw_1 tk_EP_takenPlace rfl rfl (by decide +kernel) ⟨(Nat.le_of_ble_eq_true rfl), (Nat.le_of_ble_eq_true rfl)⟩) ⟨ep_blindX, ep_preX hKn (Zs.kept hZ hS (fun q h => h.elim)) (hN)⟩ rfl rfl hl.1 rfl (lv_room (Nat.le_of_ble_eq_true rfl)) d_EP_result_19 ⟨(Nat.le_of_ble_eq_true rfl), (Nat.le_of_ble_eq_true rfl)⟩) hS (fun q h => h.elim) (fun ce q9 H1 locs1 hz1 hk1 hS1 hce hcv hcl => ?_)
      exact vx_out (fun x h => (hno x h).elim) hlocks hce hcv hcl (fun t9 ht hv => ⟨by show (3 : Nat) ≠ 0; decide, rfl, hS1.F ht, trivial⟩) hS1.2.2 (Nat.le_of_ble_eq_true rfl) (Nat.le_of_ble_eq_true rfl)
  · rw [if_neg hc1] at hR
    subst hR
    refine ep_callX (E := E_IAE) (vx_runS (As := [.int t]) (rest := []) ⟨hx, hb, hml, hown, hg⟩ (m_EP_checkMoment_x l hlt D cI cJ cZ cO t hc1) (ep_cwS 1 hg tw_340 tw_341 tw_1 tk_EP_checkMoment rfl rfl (by decide +kernel) ⟨(Nat.le_of_ble_eq_true rfl), (Nat.le_of_ble_eq_true rfl)⟩) ⟨ep_blindX, ep_preX hKn (Zs.kept hZ hS (fun q h => h.elim)) (trivial)⟩ rfl rfl hl.1 rfl (lv_room (Nat.le_of_ble_eq_true rfl)) d_EP_result_1 ⟨(Nat.le_of_ble_eq_true rfl), (Nat.le_of_ble_eq_true rfl)⟩) hS (fun q h => h.elim) (fun ce q9 H1 locs1 hz1 hk1 hS1 hce hcv hcl => ?_)
    exact vx_out (fun x h => (hno x h).elim) hlocks hce hcv hcl (fun t9 ht hv => ⟨by show (1 : Nat) ≠ 0; decide, rfl, hS1.F ht, trivial⟩) hS1.2.2 (Nat.le_of_ble_eq_true rfl) (Nat.le_of_ble_eq_true rfl)

def f_EP_works_b (t : Int32) : Nat × Int32 := if okM t then ((1, 0)) else ((1, 0))

set_option maxHeartbeats 4000000 in
set_option maxRecDepth 100000 in
theorem m_EP_works_b (l : Launch) (hlt : l.stackTraces = false) (D : va_G) (cI cJ cZ cO : ClassId) (o : Nat) (id : Int32) (t : Int32) (hid : ¬ okI id) (R : Nat × Int32) (hR : f_EP_works_b t = R) : vx_Met l y_EP_works (k_EP_works :: gt) rx_EP_works (PcX D cI cJ cZ cO (fun _ => False) [.ref o, .int id, .int t] (fun H => va_P D cls (wEP cO o) H)) (Qt R.1 (fun _ => False) (some (.int R.2)) (fun H => True)) (Xt R.1 E_NSE (fun _ => False) (fun H => True)) 1 6 (fun _ => False) := by
  refine vx_ofW (cc := c_EP_works) (maxL := 4) (ret := (Option.some FieldType.boolean)) (by decide) rfl ?_
  intro p e s m args below meth c s₁ B hml hno hv
  obtain ⟨rfl, hKn, hZ, hE⟩ := hv
  have hx := B.exec
  have hb := B.bytes
  have hr := B.returns
  have hts := atoms_spec (ws := k_EP_works :: gt) B.pre
  have hg : ∀ w ∈ gt, w.before _ s = true := fun w h => hts w (List.mem_cons_of_mem _ h)
  have hown : s.vm.findClass R_EP = some m.cls := findClass_of_methodNamed B.named
  have hlocks := B.notSynchronized
  have hK := hKn.1
  have hl := lv_entry ([.ref o, .int id, .int t]) (n := 4) (Nat.le_of_ble_eq_true rfl)
  rw [lg_entry_eq]
  generalize (lg_sl ([.ref o, .int id, .int t]) ++ List.replicate (4 - (lg_sl ([.ref o, .int id, .int t])).length) Slot.unset).toArray = ls at hl ⊢
  have hl : lv_has ls 4 [(0, .ref o), (1, .int id), (2, .int t)] := hl
  have hS : va_S (fun _ => False) s.heap s.heap [] := va_S.rf
  have hR : (if okM t then ((1, 0)) else ((1, 0))) = R := hR
  refine lv_iload_n hx hb d_EP_works_0 rfl (lv_at hl 2 rfl) ?_
  by_cases hc1 : okM t
  · refine ep_callP (W.runS (As := [.int t]) (rest := []) ⟨hx, hb, hml, hown, hg⟩ (m_EP_checkMoment_ok l D cI cJ cZ cO t hc1) (ep_cwS 1 hg tw_340 tw_341 tw_1 tk_EP_checkMoment rfl rfl (by decide +kernel) ⟨(Nat.le_of_ble_eq_true rfl), (Nat.le_of_ble_eq_true rfl)⟩) ⟨ep_blind, ep_pre hKn (trivial)⟩ rfl rfl hl.1 rfl (lv_room (Nat.le_of_ble_eq_true rfl)) d_EP_works_1 ⟨Nat.zero_le _, Nat.zero_le _⟩) ?_
    refine W.eq (g2 := F0 m 4 ls []) rfl ?_
    refine lv_aload_n hx hb d_EP_works_4 rfl (lv_at hl 0 rfl) ?_
    refine lv_iload_n hx hb d_EP_works_5 rfl (lv_at hl 1 rfl) ?_
    rw [if_pos hc1] at hR
    subst hR
    refine ep_callX (E := E_IAE) (vx_runV (As := [.int id]) (rest := []) ⟨hx, hb, hml, hown, hg⟩ (m_EP_openCollection_b l hlt D cI cJ cZ cO o id hid) (ep_cwV 1 hg tw_327 tw_329 ts_2 tw_1 tk_EP_openCollection rfl rfl (by decide +kernel) ⟨(Nat.le_of_ble_eq_true rfl), (Nat.le_of_ble_eq_true rfl)⟩) ⟨ep_blindX, va_recv (q0 := 0) (ci := 8) hK hE rfl rfl, ep_preX hKn (Zs.kept hZ hS (fun q h => h.elim)) (hE)⟩ rfl rfl hl.1 rfl (lv_room (Nat.le_of_ble_eq_true rfl)) d_EP_works_6 ⟨(Nat.le_of_ble_eq_true rfl), (Nat.le_of_ble_eq_true rfl)⟩) hS (fun q h => h.elim) (fun ce q9 H1 locs1 hz1 hk1 hS1 hce hcv hcl => ?_)
    exact vx_out (fun x h => (hno x h).elim) hlocks hce hcv hcl (fun t9 ht hv => ⟨by show (1 : Nat) ≠ 0; decide, rfl, hS1.F ht, trivial⟩) hS1.2.2 (Nat.le_of_ble_eq_true rfl) (Nat.le_of_ble_eq_true rfl)
  · rw [if_neg hc1] at hR
    subst hR
    refine ep_callX (E := E_IAE) (vx_runS (As := [.int t]) (rest := []) ⟨hx, hb, hml, hown, hg⟩ (m_EP_checkMoment_x l hlt D cI cJ cZ cO t hc1) (ep_cwS 1 hg tw_340 tw_341 tw_1 tk_EP_checkMoment rfl rfl (by decide +kernel) ⟨(Nat.le_of_ble_eq_true rfl), (Nat.le_of_ble_eq_true rfl)⟩) ⟨ep_blindX, ep_preX hKn (Zs.kept hZ hS (fun q h => h.elim)) (trivial)⟩ rfl rfl hl.1 rfl (lv_room (Nat.le_of_ble_eq_true rfl)) d_EP_works_1 ⟨(Nat.le_of_ble_eq_true rfl), (Nat.le_of_ble_eq_true rfl)⟩) hS (fun q h => h.elim) (fun ce q9 H1 locs1 hz1 hk1 hS1 hce hcv hcl => ?_)
    exact vx_out (fun x h => (hno x h).elim) hlocks hce hcv hcl (fun t9 ht hv => ⟨by show (1 : Nat) ≠ 0; decide, rfl, hS1.F ht, trivial⟩) hS1.2.2 (Nat.le_of_ble_eq_true rfl) (Nat.le_of_ble_eq_true rfl)

def f_EP_works_c (t : Int32) : Nat × Int32 := if okM t then ((2, 0)) else ((1, 0))

set_option maxHeartbeats 4000000 in
set_option maxRecDepth 100000 in
theorem m_EP_works_c (l : Launch) (hlt : l.stackTraces = false) (D : va_G) (cI cJ cZ cO : ClassId) (o : Nat) (j : Nat) (t : Int32) (hj : j < 4) (R : Nat × Int32) (hR : f_EP_works_c t = R) : vx_Met l y_EP_works (k_EP_works :: gt) rx_EP_works (PcX D cI cJ cZ cO (fun _ => False) [.ref o, .int (nI j), .int t] (fun H => va_P D cls (wEP cO o) H ∧ va_P D cls (wCo (o + 2 + 15 * j) (-1)) H)) (Qt R.1 (fun _ => False) (some (.int R.2)) (fun H => True)) (Xt R.1 E_NSE (fun _ => False) (fun H => True)) 1 6 (fun _ => False) := by
  refine vx_ofW (cc := c_EP_works) (maxL := 4) (ret := (Option.some FieldType.boolean)) (by decide) rfl ?_
  intro p e s m args below meth c s₁ B hml hno hv
  obtain ⟨rfl, hKn, hZ, hE, hC⟩ := hv
  have hx := B.exec
  have hb := B.bytes
  have hr := B.returns
  have hts := atoms_spec (ws := k_EP_works :: gt) B.pre
  have hg : ∀ w ∈ gt, w.before _ s = true := fun w h => hts w (List.mem_cons_of_mem _ h)
  have hown : s.vm.findClass R_EP = some m.cls := findClass_of_methodNamed B.named
  have hlocks := B.notSynchronized
  have hK := hKn.1
  have hl := lv_entry ([.ref o, .int (nI j), .int t]) (n := 4) (Nat.le_of_ble_eq_true rfl)
  rw [lg_entry_eq]
  generalize (lg_sl ([.ref o, .int (nI j), .int t]) ++ List.replicate (4 - (lg_sl ([.ref o, .int (nI j), .int t])).length) Slot.unset).toArray = ls at hl ⊢
  have hl : lv_has ls 4 [(0, .ref o), (1, .int (nI j)), (2, .int t)] := hl
  have hS : va_S (fun _ => False) s.heap s.heap [] := va_S.rf
  have hR : (if okM t then ((2, 0)) else ((1, 0))) = R := hR
  refine lv_iload_n hx hb d_EP_works_0 rfl (lv_at hl 2 rfl) ?_
  by_cases hc1 : okM t
  · refine ep_callP (W.runS (As := [.int t]) (rest := []) ⟨hx, hb, hml, hown, hg⟩ (m_EP_checkMoment_ok l D cI cJ cZ cO t hc1) (ep_cwS 1 hg tw_340 tw_341 tw_1 tk_EP_checkMoment rfl rfl (by decide +kernel) ⟨(Nat.le_of_ble_eq_true rfl), (Nat.le_of_ble_eq_true rfl)⟩) ⟨ep_blind, ep_pre hKn (trivial)⟩ rfl rfl hl.1 rfl (lv_room (Nat.le_of_ble_eq_true rfl)) d_EP_works_1 ⟨Nat.zero_le _, Nat.zero_le _⟩) ?_
    refine W.eq (g2 := F0 m 4 ls []) rfl ?_
    refine lv_aload_n hx hb d_EP_works_4 rfl (lv_at hl 0 rfl) ?_
    refine lv_iload_n hx hb d_EP_works_5 rfl (lv_at hl 1 rfl) ?_
    rw [if_pos hc1] at hR
    subst hR
    refine ep_callX (E := E_ISE) (vx_runV (As := [.int (nI j)]) (rest := []) ⟨hx, hb, hml, hown, hg⟩ (m_EP_openCollection_c l hlt D cI cJ cZ cO o j (by omega)) (ep_cwV 1 hg tw_327 tw_329 ts_2 tw_1 tk_EP_openCollection rfl rfl (by decide +kernel) ⟨(Nat.le_of_ble_eq_true rfl), (Nat.le_of_ble_eq_true rfl)⟩) ⟨ep_blindX, va_recv (q0 := 0) (ci := 8) hK hE rfl rfl, ep_preX hKn (Zs.kept hZ hS (fun q h => h.elim)) (⟨hE, hC⟩)⟩ rfl rfl hl.1 rfl (lv_room (Nat.le_of_ble_eq_true rfl)) d_EP_works_6 ⟨(Nat.le_of_ble_eq_true rfl), (Nat.le_of_ble_eq_true rfl)⟩) hS (fun q h => h.elim) (fun ce q9 H1 locs1 hz1 hk1 hS1 hce hcv hcl => ?_)
    exact vx_out (fun x h => (hno x h).elim) hlocks hce hcv hcl (fun t9 ht hv => ⟨by show (2 : Nat) ≠ 0; decide, rfl, hS1.F ht, trivial⟩) hS1.2.2 (Nat.le_of_ble_eq_true rfl) (Nat.le_of_ble_eq_true rfl)
  · rw [if_neg hc1] at hR
    subst hR
    refine ep_callX (E := E_IAE) (vx_runS (As := [.int t]) (rest := []) ⟨hx, hb, hml, hown, hg⟩ (m_EP_checkMoment_x l hlt D cI cJ cZ cO t hc1) (ep_cwS 1 hg tw_340 tw_341 tw_1 tk_EP_checkMoment rfl rfl (by decide +kernel) ⟨(Nat.le_of_ble_eq_true rfl), (Nat.le_of_ble_eq_true rfl)⟩) ⟨ep_blindX, ep_preX hKn (Zs.kept hZ hS (fun q h => h.elim)) (trivial)⟩ rfl rfl hl.1 rfl (lv_room (Nat.le_of_ble_eq_true rfl)) d_EP_works_1 ⟨(Nat.le_of_ble_eq_true rfl), (Nat.le_of_ble_eq_true rfl)⟩) hS (fun q h => h.elim) (fun ce q9 H1 locs1 hz1 hk1 hS1 hce hcv hcl => ?_)
    exact vx_out (fun x h => (hno x h).elim) hlocks hce hcv hcl (fun t9 ht hv => ⟨by show (1 : Nat) ≠ 0; decide, rfl, hS1.F ht, trivial⟩) hS1.2.2 (Nat.le_of_ble_eq_true rfl) (Nat.le_of_ble_eq_true rfl)

def f_EP_works (n : Nat) (mo : Nat → Int32) (ef : Nat → Int32) (t : Int32) : Nat × Int32 := if okM t then (if ¬ pat mo t n = -1 then ((0, ef ((pat mo t n).toNatClampNeg))) else ((3, 0))) else ((1, 0))

set_option maxHeartbeats 4000000 in
set_option maxRecDepth 100000 in
theorem m_EP_works (l : Launch) (hlt : l.stackTraces = false) (D : va_G) (cI cJ cZ cO : ClassId) (o : Nat) (j : Nat) (kd : Int32) (n : Nat) (mo : Nat → Int32) (na : Nat → Int32) (aa : Nat → Int32) (bb : Nat → Int32) (re : Nat → Int64) (ef : Nat → Int32) (t : Int32) (hj : j < 4) (hkd : ¬ kd = -1) (hn : n ≤ 32) (hz : bz ef) (R : Nat × Int32) (hR : f_EP_works n mo ef t = R) : vx_Met l y_EP_works (k_EP_works :: gt) rx_EP_works (PcX D cI cJ cZ cO (fun _ => False) [.ref o, .int (nI j), .int t] (fun H => va_P D cls (wEP cO o) H ∧ va_P D cls (wCo (o + 2 + 15 * j) kd) H ∧ va_P D cls (wLi cI cJ cZ (o + 2 + 15 * j + 1) n mo na aa bb re ef) H)) (Qt R.1 (fun _ => False) (some (.int R.2)) (fun H => True)) (Xt R.1 E_NSE (fun _ => False) (fun H => True)) 1 6 (fun _ => False) := by
  refine vx_ofW (cc := c_EP_works) (maxL := 4) (ret := (Option.some FieldType.boolean)) (by decide) rfl ?_
  intro p e s m args below meth c s₁ B hml hno hv
  obtain ⟨rfl, hKn, hZ, hE, hC, hN⟩ := hv
  have hx := B.exec
  have hb := B.bytes
  have hr := B.returns
  have hts := atoms_spec (ws := k_EP_works :: gt) B.pre
  have hg : ∀ w ∈ gt, w.before _ s = true := fun w h => hts w (List.mem_cons_of_mem _ h)
  have hown : s.vm.findClass R_EP = some m.cls := findClass_of_methodNamed B.named
  have hlocks := B.notSynchronized
  have hK := hKn.1
  have hl := lv_entry ([.ref o, .int (nI j), .int t]) (n := 4) (Nat.le_of_ble_eq_true rfl)
  rw [lg_entry_eq]
  generalize (lg_sl ([.ref o, .int (nI j), .int t]) ++ List.replicate (4 - (lg_sl ([.ref o, .int (nI j), .int t])).length) Slot.unset).toArray = ls at hl ⊢
  have hl : lv_has ls 4 [(0, .ref o), (1, .int (nI j)), (2, .int t)] := hl
  have hS : va_S (fun _ => False) s.heap s.heap [] := va_S.rf
  have hR : (if okM t then (if ¬ pat mo t n = -1 then ((0, ef ((pat mo t n).toNatClampNeg))) else ((3, 0))) else ((1, 0))) = R := hR
  refine lv_iload_n hx hb d_EP_works_0 rfl (lv_at hl 2 rfl) ?_
  by_cases hc1 : okM t
  · refine ep_callP (W.runS (As := [.int t]) (rest := []) ⟨hx, hb, hml, hown, hg⟩ (m_EP_checkMoment_ok l D cI cJ cZ cO t hc1) (ep_cwS 1 hg tw_340 tw_341 tw_1 tk_EP_checkMoment rfl rfl (by decide +kernel) ⟨(Nat.le_of_ble_eq_true rfl), (Nat.le_of_ble_eq_true rfl)⟩) ⟨ep_blind, ep_pre hKn (trivial)⟩ rfl rfl hl.1 rfl (lv_room (Nat.le_of_ble_eq_true rfl)) d_EP_works_1 ⟨Nat.zero_le _, Nat.zero_le _⟩) ?_
    refine W.eq (g2 := F0 m 4 ls []) rfl ?_
    refine lv_aload_n hx hb d_EP_works_4 rfl (lv_at hl 0 rfl) ?_
    refine lv_iload_n hx hb d_EP_works_5 rfl (lv_at hl 1 rfl) ?_
    refine ep_callP (W.runV (As := [.int (nI j)]) (rest := []) ⟨hx, hb, hml, hown, hg⟩ (m_EP_openCollection_ok l D cI cJ cZ cO o j kd (by omega) hkd) (ep_cwV 1 hg tw_327 tw_329 ts_2 tw_1 tk_EP_openCollection rfl rfl (by decide +kernel) ⟨(Nat.le_of_ble_eq_true rfl), (Nat.le_of_ble_eq_true rfl)⟩) ⟨ep_blind, va_recv (q0 := 0) (ci := 8) hK hE rfl rfl, ep_pre hKn (⟨hE, hC⟩)⟩ rfl rfl hl.1 rfl (lv_room (Nat.le_of_ble_eq_true rfl)) d_EP_works_6 ⟨Nat.zero_le _, Nat.zero_le _⟩) ?_
    refine W.eq (g2 := F0 m 9 ls [.ref (o + 2 + 15 * j)]) rfl ?_
    refine va_get (D := D) (ci := 0) (v := .ref (o + 2 + 15 * j + 1)) (C := R_Co) (T := F_Co) (N := 3) hx hb hg in_Co hown hK hC 0 rfl rfl 1 (Nat.le_of_ble_eq_true rfl) (hg _ tw_78) (fun _ h9 => h9) rfl d_EP_works_9 ?_
    refine lv_astore_n (lv' := [(3, .ref (o + 2 + 15 * j + 1)), (0, .ref o), (1, .int (nI j)), (2, .int t)]) hx hb d_EP_works_12 rfl hl (by decide) rfl (fun ls hl => ?_)
    refine lv_aload_n hx hb d_EP_works_13 rfl (lv_at hl 0 rfl) ?_
    refine va_get (D := D) (ci := 1) (v := .ref (o + 2 + 15 * j + 1 + 6)) (C := R_Li) (T := F_Li) (N := 7) hx hb hg in_Li hown hK hN 0 rfl rfl 6 (Nat.le_of_ble_eq_true rfl) (hg _ tw_56) (fun _ h9 => h9) rfl d_EP_works_14 ?_
    refine lv_aload_n hx hb d_EP_works_17 rfl (lv_at hl 0 rfl) ?_
    refine lv_iload_n hx hb d_EP_works_18 rfl (lv_at hl 3 rfl) ?_
    by_cases hc2 : ¬ pat mo t n = -1
    · have hp9 : ((pat mo t n).toNatClampNeg) < n := pat_lt hn hc2
      refine ep_callP (W.runS (As := [.ref (o + 2 + 15 * j + 1), .int t]) (rest := [.ref (o + 2 + 15 * j + 1 + 6)]) ⟨hx, hb, hml, hown, hg⟩ (m_EP_takenPlace_ok l D cI cJ cZ cO (o + 2 + 15 * j + 1) n mo na aa bb re ef t ((pat mo t n).toNatClampNeg) hn hp9 (pat_eq hn hc2)) (ep_cwS 2 hg tw_539 tw_540 tw_1 tk_EP_takenPlace rfl rfl (by decide +kernel) ⟨(Nat.le_of_ble_eq_true rfl), (Nat.le_of_ble_eq_true rfl)⟩) ⟨ep_blind, ep_pre hKn (hN)⟩ rfl rfl hl.1 rfl (lv_room (Nat.le_of_ble_eq_true rfl)) d_EP_works_19 ⟨Nat.zero_le _, Nat.zero_le _⟩) ?_
      refine W.eq (g2 := F0 m 22 ls [.int (nI ((pat mo t n).toNatClampNeg)), .ref (o + 2 + 15 * j + 1 + 6)]) rfl ?_
      refine ep_zald hx hb hK hN 6 2 rfl rfl (i := ((pat mo t n).toNatClampNeg)) (by omega) (by decide) d_EP_works_22 ?_
      rw [if_pos hc1, if_pos hc2] at hR
      subst hR
      refine vx_ret ?_
      refine W.widen (k := 1) (n := 6) (Nat.le_of_ble_eq_true rfl) (Nat.le_of_ble_eq_true rfl) ?_
      exact W.zret (v := (ef ((pat mo t n).toNatClampNeg))) hx hb hr (bz_ret (hz _)) (fun t9 ht hW => ⟨rfl, rfl, hS.F ht, trivial⟩) hS.2.2 d_EP_works_23
    · rw [if_pos hc1, if_neg hc2] at hR
      subst hR
      refine ep_callX (E := E_NSE) (vx_runS (As := [.ref (o + 2 + 15 * j + 1), .int t]) (rest := [.ref (o + 2 + 15 * j + 1 + 6)]) ⟨hx, hb, hml, hown, hg⟩ (m_EP_takenPlace_x l hlt D cI cJ cZ cO (o + 2 + 15 * j + 1) n mo na aa bb re ef t hn (Classical.not_not.mp hc2)) (ep_cwS 2 hg tw_539 tw_540 tw_1 tk_EP_takenPlace rfl rfl (by decide +kernel) ⟨(Nat.le_of_ble_eq_true rfl), (Nat.le_of_ble_eq_true rfl)⟩) ⟨ep_blindX, ep_preX hKn (Zs.kept hZ hS (fun q h => h.elim)) (hN)⟩ rfl rfl hl.1 rfl (lv_room (Nat.le_of_ble_eq_true rfl)) d_EP_works_19 ⟨(Nat.le_of_ble_eq_true rfl), (Nat.le_of_ble_eq_true rfl)⟩) hS (fun q h => h.elim) (fun ce q9 H1 locs1 hz1 hk1 hS1 hce hcv hcl => ?_)
      exact vx_out (fun x h => (hno x h).elim) hlocks hce hcv hcl (fun t9 ht hv => ⟨by show (3 : Nat) ≠ 0; decide, rfl, hS1.F ht, trivial⟩) hS1.2.2 (Nat.le_of_ble_eq_true rfl) (Nat.le_of_ble_eq_true rfl)
  · rw [if_neg hc1] at hR
    subst hR
    refine ep_callX (E := E_IAE) (vx_runS (As := [.int t]) (rest := []) ⟨hx, hb, hml, hown, hg⟩ (m_EP_checkMoment_x l hlt D cI cJ cZ cO t hc1) (ep_cwS 1 hg tw_340 tw_341 tw_1 tk_EP_checkMoment rfl rfl (by decide +kernel) ⟨(Nat.le_of_ble_eq_true rfl), (Nat.le_of_ble_eq_true rfl)⟩) ⟨ep_blindX, ep_preX hKn (Zs.kept hZ hS (fun q h => h.elim)) (trivial)⟩ rfl rfl hl.1 rfl (lv_room (Nat.le_of_ble_eq_true rfl)) d_EP_works_1 ⟨(Nat.le_of_ble_eq_true rfl), (Nat.le_of_ble_eq_true rfl)⟩) hS (fun q h => h.elim) (fun ce q9 H1 locs1 hz1 hk1 hS1 hce hcv hcl => ?_)
    exact vx_out (fun x h => (hno x h).elim) hlocks hce hcv hcl (fun t9 ht hv => ⟨by show (1 : Nat) ≠ 0; decide, rfl, hS1.F ht, trivial⟩) hS1.2.2 (Nat.le_of_ble_eq_true rfl) (Nat.le_of_ble_eq_true rfl)
