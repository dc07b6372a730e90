/-! EditablePast's constructor (by wip/whole/gen/ctor.py) -/
abbrev rc_EP_init : Room := { frames := 4, cells := 73, slots := 1809, locals := 80 }
set_option maxHeartbeats 4000000 in
set_option maxRecDepth 100000 in
theorem m_EP_init (l : Launch) (D : va_G) (cI cJ cZ cO : ClassId) (o : Nat) : Met l y_EP_init (k_EP_init :: gt) rc_EP_init (PcA D cI cJ cZ cO [.ref o] (fun H => va_P D cls [(o, .inr (8, [.null, .null, .null, .null, .null, .null, .null]))] H ∧ H.size = o + 1)) (Qd (fun q => o ≤ q) none (fun H => va_P D cls (wEP cO o) H ∧ (∀ j, j < 4 → va_P D cls (wC0 cI cJ cZ (o + 2 + 15 * j)) H) ∧ va_P D cls (wBa cI 2 (o + 62) 0 z32 0 0) H ∧ va_P D cls (wBa cI 3 (o + 64) 0 z32 0 0) H ∧ va_P D cls (wTa cI (o + 66) 0 z32 z32 0 0) H ∧ va_P D cls (wBa cI 4 (o + 69) 0 z32 0 0) H ∧ va_P D cls (wRe (o + 71) 0 0 0 0) H ∧ va_P D cls (wSe cI (o + 72) 0 z32 0 0) H)) 73 1809 (fun q => o ≤ q) := by
  refine Met.ofW (cc := c_EP_init) (maxL := 2) (ret := none) (by decide) rfl ?_
  intro p e s m args below meth c s₁ B hml hv
  obtain ⟨rfl, hKn, hAO, hP, hsz0⟩ := hv
  have hx := B.exec
  have hb := B.bytes
  have hr := B.returns
  have hts := atoms_spec (ws := k_EP_init :: gt) B.pre
  have hg : ∀ w ∈ gt, w.before _ s = true := fun w h => hts w (List.mem_cons_of_mem _ h)
  have hown : s.vm.findClass R_EP = some m.cls := findClass_of_methodNamed B.named
  have hlocks := B.notSynchronized
  have hK := hKn.1
  have hl := lv_entry ([.ref o]) (n := 2) (Nat.le_of_ble_eq_true rfl)
  rw [lg_entry_eq]
  generalize (lg_sl ([.ref o]) ++ List.replicate (2 - (lg_sl ([.ref o])).length) Slot.unset).toArray = ls at hl ⊢
  have hl : lv_has ls 2 [(0, .ref o)] := hl
  have hmn : meth.name = "<init>" := (name_of_methodNamed B.named B.method).1
  have hS : va_S (fun q => o ≤ q) s.heap s.heap [] := va_S.rf
  have hA : ∀ q, s.heap.size ≤ q → o ≤ q := by intro q h9; omega
  have hD : va_D (fun q => o ≤ q) [(o, .inr (8, [.null, .null, .null, .null, .null, .null, .null]))] := one_D (Nat.le_refl _)
  refine lv_aload_n hx hb d_EP_init_0 rfl (lv_at hl 0 rfl) ?_
  refine W.objInit hx hb hown (hg _ tw_27) (hg _ tw_28) (hg _ tk_Ob_init) rfl (hl.1.trans hml.symm) rfl d_EP_init_1 (Nat.le_of_ble_eq_true rfl) (Nat.le_of_ble_eq_true rfl) ?_
  refine W.eq (g2 := F0 m 4 ls []) rfl ?_
  refine lv_aload_n hx hb d_EP_init_4 rfl (lv_at hl 0 rfl) ?_
  refine lv_iconst (v := 4) hx hb d_EP_init_5 (by decide) ?_
  refine ep_newq (C := "EditablePast$Collection") (h := o + 1) (cA := cO) (N' := 4) hx hb hown (hg _ tw_30) hAO hK 3 rfl hP hD hS hA (by decide) (by decide) (by decide) (by show 0 + 1 ≤ 73; decide) (by show 0 + 4 ≤ 1809; decide) d_EP_init_6 hsz0 (fun H hP hD hS hsz => ?_)
  refine W.widen (k := 1) (n := 4) (by decide) (by decide) ?_
  clear hsz
  have hP : va_P D cls ([(o, .inr (8, [.null, .null, .null, .null, .null, .null, .null])), (o + 1, .inl (cO, 4, .inr (.inr (.inr (.inr (fun _ => none))))))]) H := hP
  have hD : va_D (fun q => o ≤ q) ([(o, .inr (8, [.null, .null, .null, .null, .null, .null, .null])), (o + 1, .inl (cO, 4, .inr (.inr (.inr (.inr (fun _ => none))))))]) := hD
  refine va_putF (D := D) (ci := 8) (v := .ref (o + 1)) (ty := (.array (.object "EditablePast$Collection"))) (C := R_EP) (T := F_EP) (N := 7) hx hb hg in_EP t_EP t_EP_ok n_EP hown hK hP hD hS 0 rfl rfl 0 (Nat.le_of_ble_eq_true rfl) (hg _ tw_198) (fun _ h9 => h9) rfl hmn rfl (by decide +kernel) rfl rfl (Nat.le_of_ble_eq_true rfl) d_EP_init_9 (fun H locs hP hD hS => ?_)
  have hP : va_P D cls ([(o, .inr (8, [.ref (o + 1), .null, .null, .null, .null, .null, .null])), (o + 1, .inl (cO, 4, .inr (.inr (.inr (.inr (fun _ => none))))))]) H := hP
  have hD : va_D (fun q => o ≤ q) ([(o, .inr (8, [.ref (o + 1), .null, .null, .null, .null, .null, .null])), (o + 1, .inl (cO, 4, .inr (.inr (.inr (.inr (fun _ => none))))))]) := hD
  refine lv_iconst (v := 0) hx hb d_EP_init_12 (by decide) ?_
  refine lv_istore_n (lv' := [(1, .int 0), (0, .ref o)]) hx hb d_EP_init_13 rfl hl (by decide) rfl (fun ls hl => ?_)
  refine lv_iload_n hx hb d_EP_init_14 rfl (lv_at hl 0 rfl) ?_
  refine lv_iconst (v := 4) hx hb d_EP_init_15 (by decide) ?_
  refine lv_icmp_ge (tgt := 38) hx hb d_EP_init_16 (by decide) (fun hc => absurd hc (by decide)) (fun hc => ?_)
  refine lv_aload_n hx hb d_EP_init_19 rfl (lv_at hl 1 rfl) ?_
  refine va_get (D := D) (ci := 8) (v := .ref (o + 1)) (C := R_EP) (T := F_EP) (N := 7) hx hb hg in_EP hown hK hP 0 rfl rfl 0 (Nat.le_of_ble_eq_true rfl) (hg _ tw_198) (fun _ h9 => h9) rfl d_EP_init_20 ?_
  refine lv_iload_n hx hb d_EP_init_23 rfl (lv_at hl 0 rfl) ?_
  refine ep_size (fun hub => ?_)
  have hlb : o + 1 < H.size := (hP 1 _ rfl).lt
  have hsz1 : H.size = o + 2 := by omega
  clear hub hlb
  have hlt9 : ∀ (k : Nat) (q : Nat × va_E), ([(o, .inr (8, [.ref (o + 1), .null, .null, .null, .null, .null, .null])), (o + 1, .inl (cO, 4, .inr (.inr (.inr (.inr (fun _ => none))))))])[k]? = some q → q.1 < o + 2 := fun k q hk => by have h9 := (hP k q hk).lt; rw [hsz1] at h9; exact h9
  have hD0 := hD
  refine ep_new (C := R_Co) (T := F_Co) (N := 3) (ci := 0) (fs := [.int 0, .null, .null]) (h := o + 2) hx hb hg in_Co t_Co t_Co_ok hown (hg _ tw_30) (hg _ tw_32) (hg _ tw_2) hK hP hD hS hA rfl (by decide +kernel) (by show 1 + 1 ≤ 73; decide) (by show 4 + 3 ≤ 1809; decide) d_EP_init_24 hsz1 (fun H hP hD hS hsz => ?_)
  refine W.widen (k := 2) (n := 7) (by decide) (by decide) ?_
  refine lv_dup hx hb d_EP_init_27 rfl ?_
  refine ep_callC (ep_toC (va_runIN (b := (o + 2)) (As := []) (rest := [.ref (o + 2), .int 0, .ref (o + 1)]) ⟨hx, hb, hml, hown, hg⟩ (m_Co_init l D cI cJ cZ cO (o + 2)) (⟨ep_cnB (host := "EditablePast") 0 hg tk_Co_init rfl rfl (hKn.2.1 ("EditablePast", 15, ⟨"EditablePast$Collection", "<init>", "()V"⟩) (by decide +kernel)) tw_2 (by decide +kernel) ⟨(Nat.le_of_ble_eq_true rfl), (Nat.le_of_ble_eq_true rfl)⟩, rfl, hg _ tw_34⟩) ⟨ep_blind, ep_pre hKn (⟨wo_r hP, hsz⟩)⟩ rfl rfl hl.1 rfl (lv_room (Nat.le_of_ble_eq_true rfl)) d_EP_init_28 ⟨(Nat.le_of_ble_eq_true rfl), (Nat.le_of_ble_eq_true rfl)⟩)) hS (by intro q h9; omega) (fun H locs hsz9 hk1 hP1 hS => ?_)
  refine W.eq (g2 := F0 m 31 ls [.ref (o + 2), .int 0, .ref (o + 1)]) rfl ?_
  refine W.widen (k := 16) (n := 405) (by decide) (by decide) ?_
  have hP : va_P D cls (([(o, .inr (8, [.ref (o + 1), .null, .null, .null, .null, .null, .null])), (o + 1, .inl (cO, 4, .inr (.inr (.inr (.inr (fun _ => none))))))]) ++ wC0 cI cJ cZ (o + 2)) H := (wo_kc (wo_l hP) hk1 (fun k q hk h9 => by have h8 := hlt9 k q hk; have h7 : o + 2 ≤ q.1 := h9; omega)).app hP1
  have hD : va_D (fun q => o ≤ q) (([(o, .inr (8, [.ref (o + 1), .null, .null, .null, .null, .null, .null])), (o + 1, .inl (cO, 4, .inr (.inr (.inr (.inr (fun _ => none))))))]) ++ wC0 cI cJ cZ (o + 2)) := D_app hD0 (col_D.weaken (fun k q hk h9 => by simp only [blk] at h9; show o ≤ q.1; omega)) hlt9 (fun k q hk => (wC0_rng k q hk).1)
  clear hsz hsz1 hlt9 hD0 hk1 hsz9 hP1
  refine va_astq (r := (R_Co, F_Co, 3)) hx hb hK hP hD hS 1 3 2 0 rfl rfl rfl rfl (by unfold vp_in; decide) d_EP_init_31 (fun H locs hP hD hS => ?_)
  have hP : va_P D cls (([(o, .inr (8, [.ref (o + 1), .null, .null, .null, .null, .null, .null])), (o + 1, .inl (cO, 4, .inr (.inr (.inr (.inr (va_up (fun _ => none) 0 (some (o + 2))))))))]) ++ wC0 cI cJ cZ (o + 2)) H := hP
  have hD : va_D (fun q => o ≤ q) (([(o, .inr (8, [.ref (o + 1), .null, .null, .null, .null, .null, .null])), (o + 1, .inl (cO, 4, .inr (.inr (.inr (.inr (va_up (fun _ => none) 0 (some (o + 2))))))))]) ++ wC0 cI cJ cZ (o + 2)) := hD
  refine lv_iinc (k := 0) (lv' := [(1, .int 1), (0, .ref o)]) hx hb d_EP_init_32 hl rfl (by decide) (by decide) rfl (fun ls hl => ?_)
  refine lv_goto (tgt := 14) hx hb d_EP_init_35 (by decide) ?_
  refine lv_iload_n hx hb d_EP_init_14 rfl (lv_at hl 0 rfl) ?_
  refine lv_iconst (v := 4) hx hb d_EP_init_15 (by decide) ?_
  refine lv_icmp_ge (tgt := 38) hx hb d_EP_init_16 (by decide) (fun hc => absurd hc (by decide)) (fun hc => ?_)
  refine lv_aload_n hx hb d_EP_init_19 rfl (lv_at hl 1 rfl) ?_
  refine va_get (D := D) (ci := 8) (v := .ref (o + 1)) (C := R_EP) (T := F_EP) (N := 7) hx hb hg in_EP hown hK hP 0 rfl rfl 0 (Nat.le_of_ble_eq_true rfl) (hg _ tw_198) (fun _ h9 => h9) rfl d_EP_init_20 ?_
  refine lv_iload_n hx hb d_EP_init_23 rfl (lv_at hl 0 rfl) ?_
  refine ep_size (fun hub => ?_)
  have hlb : o + 16 < H.size := (hP 16 _ rfl).lt
  have hsz1 : H.size = o + 17 := by omega
  clear hub hlb
  have hlt9 : ∀ (k : Nat) (q : Nat × va_E), (([(o, .inr (8, [.ref (o + 1), .null, .null, .null, .null, .null, .null])), (o + 1, .inl (cO, 4, .inr (.inr (.inr (.inr (va_up (fun _ => none) 0 (some (o + 2))))))))]) ++ wC0 cI cJ cZ (o + 2))[k]? = some q → q.1 < o + 17 := fun k q hk => by have h9 := (hP k q hk).lt; rw [hsz1] at h9; exact h9
  have hD0 := hD
  refine ep_new (C := R_Co) (T := F_Co) (N := 3) (ci := 0) (fs := [.int 0, .null, .null]) (h := o + 17) hx hb hg in_Co t_Co t_Co_ok hown (hg _ tw_30) (hg _ tw_32) (hg _ tw_2) hK hP hD hS hA rfl (by decide +kernel) (by show 16 + 1 ≤ 73; decide) (by show 405 + 3 ≤ 1809; decide) d_EP_init_24 hsz1 (fun H hP hD hS hsz => ?_)
  refine W.widen (k := 17) (n := 408) (by decide) (by decide) ?_
  refine lv_dup hx hb d_EP_init_27 rfl ?_
  refine ep_callC (ep_toC (va_runIN (b := (o + 17)) (As := []) (rest := [.ref (o + 17), .int 1, .ref (o + 1)]) ⟨hx, hb, hml, hown, hg⟩ (m_Co_init l D cI cJ cZ cO (o + 17)) (⟨ep_cnB (host := "EditablePast") 0 hg tk_Co_init rfl rfl (hKn.2.1 ("EditablePast", 15, ⟨"EditablePast$Collection", "<init>", "()V"⟩) (by decide +kernel)) tw_2 (by decide +kernel) ⟨(Nat.le_of_ble_eq_true rfl), (Nat.le_of_ble_eq_true rfl)⟩, rfl, hg _ tw_34⟩) ⟨ep_blind, ep_pre hKn (⟨wo_r hP, hsz⟩)⟩ rfl rfl hl.1 rfl (lv_room (Nat.le_of_ble_eq_true rfl)) d_EP_init_28 ⟨(Nat.le_of_ble_eq_true rfl), (Nat.le_of_ble_eq_true rfl)⟩)) hS (by intro q h9; omega) (fun H locs hsz9 hk1 hP1 hS => ?_)
  refine W.eq (g2 := F0 m 31 ls [.ref (o + 17), .int 1, .ref (o + 1)]) rfl ?_
  refine W.widen (k := 31) (n := 806) (by decide) (by decide) ?_
  have hP : va_P D cls ((([(o, .inr (8, [.ref (o + 1), .null, .null, .null, .null, .null, .null])), (o + 1, .inl (cO, 4, .inr (.inr (.inr (.inr (va_up (fun _ => none) 0 (some (o + 2))))))))]) ++ wC0 cI cJ cZ (o + 2)) ++ wC0 cI cJ cZ (o + 17)) H := (wo_kc (wo_l hP) hk1 (fun k q hk h9 => by have h8 := hlt9 k q hk; have h7 : o + 17 ≤ q.1 := h9; omega)).app hP1
  have hD : va_D (fun q => o ≤ q) ((([(o, .inr (8, [.ref (o + 1), .null, .null, .null, .null, .null, .null])), (o + 1, .inl (cO, 4, .inr (.inr (.inr (.inr (va_up (fun _ => none) 0 (some (o + 2))))))))]) ++ wC0 cI cJ cZ (o + 2)) ++ wC0 cI cJ cZ (o + 17)) := D_app hD0 (col_D.weaken (fun k q hk h9 => by simp only [blk] at h9; show o ≤ q.1; omega)) hlt9 (fun k q hk => (wC0_rng k q hk).1)
  clear hsz hsz1 hlt9 hD0 hk1 hsz9 hP1
  refine va_astq (r := (R_Co, F_Co, 3)) hx hb hK hP hD hS 1 3 17 0 rfl rfl rfl rfl (by unfold vp_in; decide) d_EP_init_31 (fun H locs hP hD hS => ?_)
  have hP : va_P D cls ((([(o, .inr (8, [.ref (o + 1), .null, .null, .null, .null, .null, .null])), (o + 1, .inl (cO, 4, .inr (.inr (.inr (.inr (va_up (va_up (fun _ => none) 0 (some (o + 2))) 1 (some (o + 17))))))))]) ++ wC0 cI cJ cZ (o + 2)) ++ wC0 cI cJ cZ (o + 17)) H := hP
  have hD : va_D (fun q => o ≤ q) ((([(o, .inr (8, [.ref (o + 1), .null, .null, .null, .null, .null, .null])), (o + 1, .inl (cO, 4, .inr (.inr (.inr (.inr (va_up (va_up (fun _ => none) 0 (some (o + 2))) 1 (some (o + 17))))))))]) ++ wC0 cI cJ cZ (o + 2)) ++ wC0 cI cJ cZ (o + 17)) := hD
  refine lv_iinc (k := 0) (lv' := [(1, .int 2), (0, .ref o)]) hx hb d_EP_init_32 hl rfl (by decide) (by decide) rfl (fun ls hl => ?_)
  refine lv_goto (tgt := 14) hx hb d_EP_init_35 (by decide) ?_
  refine lv_iload_n hx hb d_EP_init_14 rfl (lv_at hl 0 rfl) ?_
  refine lv_iconst (v := 4) hx hb d_EP_init_15 (by decide) ?_
  refine lv_icmp_ge (tgt := 38) hx hb d_EP_init_16 (by decide) (fun hc => absurd hc (by decide)) (fun hc => ?_)
  refine lv_aload_n hx hb d_EP_init_19 rfl (lv_at hl 1 rfl) ?_
  refine va_get (D := D) (ci := 8) (v := .ref (o + 1)) (C := R_EP) (T := F_EP) (N := 7) hx hb hg in_EP hown hK hP 0 rfl rfl 0 (Nat.le_of_ble_eq_true rfl) (hg _ tw_198) (fun _ h9 => h9) rfl d_EP_init_20 ?_
  refine lv_iload_n hx hb d_EP_init_23 rfl (lv_at hl 0 rfl) ?_
  refine ep_size (fun hub => ?_)
  have hlb : o + 31 < H.size := (hP 31 _ rfl).lt
  have hsz1 : H.size = o + 32 := by omega
  clear hub hlb
  have hlt9 : ∀ (k : Nat) (q : Nat × va_E), ((([(o, .inr (8, [.ref (o + 1), .null, .null, .null, .null, .null, .null])), (o + 1, .inl (cO, 4, .inr (.inr (.inr (.inr (va_up (va_up (fun _ => none) 0 (some (o + 2))) 1 (some (o + 17))))))))]) ++ wC0 cI cJ cZ (o + 2)) ++ wC0 cI cJ cZ (o + 17))[k]? = some q → q.1 < o + 32 := fun k q hk => by have h9 := (hP k q hk).lt; rw [hsz1] at h9; exact h9
  have hD0 := hD
  refine ep_new (C := R_Co) (T := F_Co) (N := 3) (ci := 0) (fs := [.int 0, .null, .null]) (h := o + 32) hx hb hg in_Co t_Co t_Co_ok hown (hg _ tw_30) (hg _ tw_32) (hg _ tw_2) hK hP hD hS hA rfl (by decide +kernel) (by show 31 + 1 ≤ 73; decide) (by show 806 + 3 ≤ 1809; decide) d_EP_init_24 hsz1 (fun H hP hD hS hsz => ?_)
  refine W.widen (k := 32) (n := 809) (by decide) (by decide) ?_
  refine lv_dup hx hb d_EP_init_27 rfl ?_
  refine ep_callC (ep_toC (va_runIN (b := (o + 32)) (As := []) (rest := [.ref (o + 32), .int 2, .ref (o + 1)]) ⟨hx, hb, hml, hown, hg⟩ (m_Co_init l D cI cJ cZ cO (o + 32)) (⟨ep_cnB (host := "EditablePast") 0 hg tk_Co_init rfl rfl (hKn.2.1 ("EditablePast", 15, ⟨"EditablePast$Collection", "<init>", "()V"⟩) (by decide +kernel)) tw_2 (by decide +kernel) ⟨(Nat.le_of_ble_eq_true rfl), (Nat.le_of_ble_eq_true rfl)⟩, rfl, hg _ tw_34⟩) ⟨ep_blind, ep_pre hKn (⟨wo_r hP, hsz⟩)⟩ rfl rfl hl.1 rfl (lv_room (Nat.le_of_ble_eq_true rfl)) d_EP_init_28 ⟨(Nat.le_of_ble_eq_true rfl), (Nat.le_of_ble_eq_true rfl)⟩)) hS (by intro q h9; omega) (fun H locs hsz9 hk1 hP1 hS => ?_)
  refine W.eq (g2 := F0 m 31 ls [.ref (o + 32), .int 2, .ref (o + 1)]) rfl ?_
  refine W.widen (k := 46) (n := 1207) (by decide) (by decide) ?_
  have hP : va_P D cls (((([(o, .inr (8, [.ref (o + 1), .null, .null, .null, .null, .null, .null])), (o + 1, .inl (cO, 4, .inr (.inr (.inr (.inr (va_up (va_up (fun _ => none) 0 (some (o + 2))) 1 (some (o + 17))))))))]) ++ wC0 cI cJ cZ (o + 2)) ++ wC0 cI cJ cZ (o + 17)) ++ wC0 cI cJ cZ (o + 32)) H := (wo_kc (wo_l hP) hk1 (fun k q hk h9 => by have h8 := hlt9 k q hk; have h7 : o + 32 ≤ q.1 := h9; omega)).app hP1
  have hD : va_D (fun q => o ≤ q) (((([(o, .inr (8, [.ref (o + 1), .null, .null, .null, .null, .null, .null])), (o + 1, .inl (cO, 4, .inr (.inr (.inr (.inr (va_up (va_up (fun _ => none) 0 (some (o + 2))) 1 (some (o + 17))))))))]) ++ wC0 cI cJ cZ (o + 2)) ++ wC0 cI cJ cZ (o + 17)) ++ wC0 cI cJ cZ (o + 32)) := D_app hD0 (col_D.weaken (fun k q hk h9 => by simp only [blk] at h9; show o ≤ q.1; omega)) hlt9 (fun k q hk => (wC0_rng k q hk).1)
  clear hsz hsz1 hlt9 hD0 hk1 hsz9 hP1
  refine va_astq (r := (R_Co, F_Co, 3)) hx hb hK hP hD hS 1 3 32 0 rfl rfl rfl rfl (by unfold vp_in; decide) d_EP_init_31 (fun H locs hP hD hS => ?_)
  have hP : va_P D cls (((([(o, .inr (8, [.ref (o + 1), .null, .null, .null, .null, .null, .null])), (o + 1, .inl (cO, 4, .inr (.inr (.inr (.inr (va_up (va_up (va_up (fun _ => none) 0 (some (o + 2))) 1 (some (o + 17))) 2 (some (o + 32))))))))]) ++ wC0 cI cJ cZ (o + 2)) ++ wC0 cI cJ cZ (o + 17)) ++ wC0 cI cJ cZ (o + 32)) H := hP
  have hD : va_D (fun q => o ≤ q) (((([(o, .inr (8, [.ref (o + 1), .null, .null, .null, .null, .null, .null])), (o + 1, .inl (cO, 4, .inr (.inr (.inr (.inr (va_up (va_up (va_up (fun _ => none) 0 (some (o + 2))) 1 (some (o + 17))) 2 (some (o + 32))))))))]) ++ wC0 cI cJ cZ (o + 2)) ++ wC0 cI cJ cZ (o + 17)) ++ wC0 cI cJ cZ (o + 32)) := hD
  refine lv_iinc (k := 0) (lv' := [(1, .int 3), (0, .ref o)]) hx hb d_EP_init_32 hl rfl (by decide) (by decide) rfl (fun ls hl => ?_)
  refine lv_goto (tgt := 14) hx hb d_EP_init_35 (by decide) ?_
  refine lv_iload_n hx hb d_EP_init_14 rfl (lv_at hl 0 rfl) ?_
  refine lv_iconst (v := 4) hx hb d_EP_init_15 (by decide) ?_
  refine lv_icmp_ge (tgt := 38) hx hb d_EP_init_16 (by decide) (fun hc => absurd hc (by decide)) (fun hc => ?_)
  refine lv_aload_n hx hb d_EP_init_19 rfl (lv_at hl 1 rfl) ?_
  refine va_get (D := D) (ci := 8) (v := .ref (o + 1)) (C := R_EP) (T := F_EP) (N := 7) hx hb hg in_EP hown hK hP 0 rfl rfl 0 (Nat.le_of_ble_eq_true rfl) (hg _ tw_198) (fun _ h9 => h9) rfl d_EP_init_20 ?_
  refine lv_iload_n hx hb d_EP_init_23 rfl (lv_at hl 0 rfl) ?_
  refine ep_size (fun hub => ?_)
  have hlb : o + 46 < H.size := (hP 46 _ rfl).lt
  have hsz1 : H.size = o + 47 := by omega
  clear hub hlb
  have hlt9 : ∀ (k : Nat) (q : Nat × va_E), (((([(o, .inr (8, [.ref (o + 1), .null, .null, .null, .null, .null, .null])), (o + 1, .inl (cO, 4, .inr (.inr (.inr (.inr (va_up (va_up (va_up (fun _ => none) 0 (some (o + 2))) 1 (some (o + 17))) 2 (some (o + 32))))))))]) ++ wC0 cI cJ cZ (o + 2)) ++ wC0 cI cJ cZ (o + 17)) ++ wC0 cI cJ cZ (o + 32))[k]? = some q → q.1 < o + 47 := fun k q hk => by have h9 := (hP k q hk).lt; rw [hsz1] at h9; exact h9
  have hD0 := hD
  refine ep_new (C := R_Co) (T := F_Co) (N := 3) (ci := 0) (fs := [.int 0, .null, .null]) (h := o + 47) hx hb hg in_Co t_Co t_Co_ok hown (hg _ tw_30) (hg _ tw_32) (hg _ tw_2) hK hP hD hS hA rfl (by decide +kernel) (by show 46 + 1 ≤ 73; decide) (by show 1207 + 3 ≤ 1809; decide) d_EP_init_24 hsz1 (fun H hP hD hS hsz => ?_)
  refine W.widen (k := 47) (n := 1210) (by decide) (by decide) ?_
  refine lv_dup hx hb d_EP_init_27 rfl ?_
  refine ep_callC (ep_toC (va_runIN (b := (o + 47)) (As := []) (rest := [.ref (o + 47), .int 3, .ref (o + 1)]) ⟨hx, hb, hml, hown, hg⟩ (m_Co_init l D cI cJ cZ cO (o + 47)) (⟨ep_cnB (host := "EditablePast") 0 hg tk_Co_init rfl rfl (hKn.2.1 ("EditablePast", 15, ⟨"EditablePast$Collection", "<init>", "()V"⟩) (by decide +kernel)) tw_2 (by decide +kernel) ⟨(Nat.le_of_ble_eq_true rfl), (Nat.le_of_ble_eq_true rfl)⟩, rfl, hg _ tw_34⟩) ⟨ep_blind, ep_pre hKn (⟨wo_r hP, hsz⟩)⟩ rfl rfl hl.1 rfl (lv_room (Nat.le_of_ble_eq_true rfl)) d_EP_init_28 ⟨(Nat.le_of_ble_eq_true rfl), (Nat.le_of_ble_eq_true rfl)⟩)) hS (by intro q h9; omega) (fun H locs hsz9 hk1 hP1 hS => ?_)
  refine W.eq (g2 := F0 m 31 ls [.ref (o + 47), .int 3, .ref (o + 1)]) rfl ?_
  refine W.widen (k := 61) (n := 1608) (by decide) (by decide) ?_
  have hP : va_P D cls ((((([(o, .inr (8, [.ref (o + 1), .null, .null, .null, .null, .null, .null])), (o + 1, .inl (cO, 4, .inr (.inr (.inr (.inr (va_up (va_up (va_up (fun _ => none) 0 (some (o + 2))) 1 (some (o + 17))) 2 (some (o + 32))))))))]) ++ wC0 cI cJ cZ (o + 2)) ++ wC0 cI cJ cZ (o + 17)) ++ wC0 cI cJ cZ (o + 32)) ++ wC0 cI cJ cZ (o + 47)) H := (wo_kc (wo_l hP) hk1 (fun k q hk h9 => by have h8 := hlt9 k q hk; have h7 : o + 47 ≤ q.1 := h9; omega)).app hP1
  have hD : va_D (fun q => o ≤ q) ((((([(o, .inr (8, [.ref (o + 1), .null, .null, .null, .null, .null, .null])), (o + 1, .inl (cO, 4, .inr (.inr (.inr (.inr (va_up (va_up (va_up (fun _ => none) 0 (some (o + 2))) 1 (some (o + 17))) 2 (some (o + 32))))))))]) ++ wC0 cI cJ cZ (o + 2)) ++ wC0 cI cJ cZ (o + 17)) ++ wC0 cI cJ cZ (o + 32)) ++ wC0 cI cJ cZ (o + 47)) := D_app hD0 (col_D.weaken (fun k q hk h9 => by simp only [blk] at h9; show o ≤ q.1; omega)) hlt9 (fun k q hk => (wC0_rng k q hk).1)
  clear hsz hsz1 hlt9 hD0 hk1 hsz9 hP1
  refine va_astq (r := (R_Co, F_Co, 3)) hx hb hK hP hD hS 1 3 47 0 rfl rfl rfl rfl (by unfold vp_in; decide) d_EP_init_31 (fun H locs hP hD hS => ?_)
  have hP : va_P D cls ((((([(o, .inr (8, [.ref (o + 1), .null, .null, .null, .null, .null, .null])), (o + 1, .inl (cO, 4, .inr (.inr (.inr (.inr (va_up (va_up (va_up (va_up (fun _ => none) 0 (some (o + 2))) 1 (some (o + 17))) 2 (some (o + 32))) 3 (some (o + 47))))))))]) ++ wC0 cI cJ cZ (o + 2)) ++ wC0 cI cJ cZ (o + 17)) ++ wC0 cI cJ cZ (o + 32)) ++ wC0 cI cJ cZ (o + 47)) H := hP
  have hD : va_D (fun q => o ≤ q) ((((([(o, .inr (8, [.ref (o + 1), .null, .null, .null, .null, .null, .null])), (o + 1, .inl (cO, 4, .inr (.inr (.inr (.inr (va_up (va_up (va_up (va_up (fun _ => none) 0 (some (o + 2))) 1 (some (o + 17))) 2 (some (o + 32))) 3 (some (o + 47))))))))]) ++ wC0 cI cJ cZ (o + 2)) ++ wC0 cI cJ cZ (o + 17)) ++ wC0 cI cJ cZ (o + 32)) ++ wC0 cI cJ cZ (o + 47)) := hD
  refine lv_iinc (k := 0) (lv' := [(1, .int 4), (0, .ref o)]) hx hb d_EP_init_32 hl rfl (by decide) (by decide) rfl (fun ls hl => ?_)
  refine lv_goto (tgt := 14) hx hb d_EP_init_35 (by decide) ?_
  refine lv_iload_n hx hb d_EP_init_14 rfl (lv_at hl 0 rfl) ?_
  refine lv_iconst (v := 4) hx hb d_EP_init_15 (by decide) ?_
  refine lv_icmp_ge (tgt := 38) hx hb d_EP_init_16 (by decide) (fun hc => ?_) (fun hc => absurd (by decide) hc)
  refine lv_aload_n hx hb d_EP_init_38 rfl (lv_at hl 1 rfl) ?_
  refine ep_size (fun hub => ?_)
  have hlb : o + 61 < H.size := (hP 61 _ rfl).lt
  have hsz1 : H.size = o + 62 := by omega
  clear hub hlb
  have hlt9 : ∀ (k : Nat) (q : Nat × va_E), ((((([(o, .inr (8, [.ref (o + 1), .null, .null, .null, .null, .null, .null])), (o + 1, .inl (cO, 4, .inr (.inr (.inr (.inr (va_up (va_up (va_up (va_up (fun _ => none) 0 (some (o + 2))) 1 (some (o + 17))) 2 (some (o + 32))) 3 (some (o + 47))))))))]) ++ wC0 cI cJ cZ (o + 2)) ++ wC0 cI cJ cZ (o + 17)) ++ wC0 cI cJ cZ (o + 32)) ++ wC0 cI cJ cZ (o + 47))[k]? = some q → q.1 < o + 62 := fun k q hk => by have h9 := (hP k q hk).lt; rw [hsz1] at h9; exact h9
  have hD0 := hD
  refine ep_new (C := R_Qu) (T := F_Qu) (N := 4) (ci := 2) (fs := [.null, .int 0, .long 0, .int 0]) (h := o + 62) hx hb hg in_Qu t_Qu t_Qu_ok hown (hg _ tw_88) (hg _ tw_89) (hg _ tw_6) hK hP hD hS hA rfl (by decide +kernel) (by show 61 + 1 ≤ 73; decide) (by show 1608 + 4 ≤ 1809; decide) d_EP_init_39 hsz1 (fun H hP hD hS hsz => ?_)
  refine W.widen (k := 62) (n := 1612) (by decide) (by decide) ?_
  refine lv_dup hx hb d_EP_init_42 rfl ?_
  refine ep_callC (ep_toC (va_runIN (b := (o + 62)) (As := []) (rest := [.ref (o + 62), .ref o]) ⟨hx, hb, hml, hown, hg⟩ (m_Qu_init l D cI cJ cZ cO (o + 62)) (⟨ep_cnB (host := "EditablePast") 0 hg tk_Qu_init rfl rfl (hKn.2.1 ("EditablePast", 18, ⟨"EditablePast$Queue", "<init>", "()V"⟩) (by decide +kernel)) tw_6 (by decide +kernel) ⟨(Nat.le_of_ble_eq_true rfl), (Nat.le_of_ble_eq_true rfl)⟩, rfl, hg _ tw_91⟩) ⟨ep_blind, ep_pre hKn (⟨wo_r hP, hsz⟩)⟩ rfl rfl hl.1 rfl (lv_room (Nat.le_of_ble_eq_true rfl)) d_EP_init_43 ⟨(Nat.le_of_ble_eq_true rfl), (Nat.le_of_ble_eq_true rfl)⟩)) hS (by intro q h9; omega) (fun H locs hsz9 hk1 hP1 hS => ?_)
  refine W.eq (g2 := F0 m 46 ls [.ref (o + 62), .ref o]) rfl ?_
  refine W.widen (k := 63) (n := 1644) (by decide) (by decide) ?_
  have hP : va_P D cls (((((([(o, .inr (8, [.ref (o + 1), .null, .null, .null, .null, .null, .null])), (o + 1, .inl (cO, 4, .inr (.inr (.inr (.inr (va_up (va_up (va_up (va_up (fun _ => none) 0 (some (o + 2))) 1 (some (o + 17))) 2 (some (o + 32))) 3 (some (o + 47))))))))]) ++ wC0 cI cJ cZ (o + 2)) ++ wC0 cI cJ cZ (o + 17)) ++ wC0 cI cJ cZ (o + 32)) ++ wC0 cI cJ cZ (o + 47)) ++ wBa cI 2 (o + 62) 0 z32 0 0) H := (wo_kc (wo_l hP) hk1 (fun k q hk h9 => by have h8 := hlt9 k q hk; have h7 : o + 62 ≤ q.1 := h9; omega)).app hP1
  have hD : va_D (fun q => o ≤ q) (((((([(o, .inr (8, [.ref (o + 1), .null, .null, .null, .null, .null, .null])), (o + 1, .inl (cO, 4, .inr (.inr (.inr (.inr (va_up (va_up (va_up (va_up (fun _ => none) 0 (some (o + 2))) 1 (some (o + 17))) 2 (some (o + 32))) 3 (some (o + 47))))))))]) ++ wC0 cI cJ cZ (o + 2)) ++ wC0 cI cJ cZ (o + 17)) ++ wC0 cI cJ cZ (o + 32)) ++ wC0 cI cJ cZ (o + 47)) ++ wBa cI 2 (o + 62) 0 z32 0 0) := D_app hD0 ((blk_D wBa_in).weaken (fun k q hk h9 => by simp only [blk] at h9; show o ≤ q.1; omega)) hlt9 (fun k q hk => (rng_of wBa_in k q hk).1)
  clear hsz hsz1 hlt9 hD0 hk1 hsz9 hP1
  refine va_putF (D := D) (ci := 8) (v := .ref (o + 62)) (ty := (.object "EditablePast$Queue")) (C := R_EP) (T := F_EP) (N := 7) hx hb hg in_EP t_EP t_EP_ok n_EP hown hK hP hD hS 0 rfl rfl 1 (Nat.le_of_ble_eq_true rfl) (hg _ tw_199) (fun _ h9 => h9) rfl hmn rfl (by decide +kernel) rfl rfl (Nat.le_of_ble_eq_true rfl) d_EP_init_46 (fun H locs hP hD hS => ?_)
  have hP : va_P D cls (((((([(o, .inr (8, [.ref (o + 1), .ref (o + 62), .null, .null, .null, .null, .null])), (o + 1, .inl (cO, 4, .inr (.inr (.inr (.inr (va_up (va_up (va_up (va_up (fun _ => none) 0 (some (o + 2))) 1 (some (o + 17))) 2 (some (o + 32))) 3 (some (o + 47))))))))]) ++ wC0 cI cJ cZ (o + 2)) ++ wC0 cI cJ cZ (o + 17)) ++ wC0 cI cJ cZ (o + 32)) ++ wC0 cI cJ cZ (o + 47)) ++ wBa cI 2 (o + 62) 0 z32 0 0) H := hP
  have hD : va_D (fun q => o ≤ q) (((((([(o, .inr (8, [.ref (o + 1), .ref (o + 62), .null, .null, .null, .null, .null])), (o + 1, .inl (cO, 4, .inr (.inr (.inr (.inr (va_up (va_up (va_up (va_up (fun _ => none) 0 (some (o + 2))) 1 (some (o + 17))) 2 (some (o + 32))) 3 (some (o + 47))))))))]) ++ wC0 cI cJ cZ (o + 2)) ++ wC0 cI cJ cZ (o + 17)) ++ wC0 cI cJ cZ (o + 32)) ++ wC0 cI cJ cZ (o + 47)) ++ wBa cI 2 (o + 62) 0 z32 0 0) := hD
  refine lv_aload_n hx hb d_EP_init_49 rfl (lv_at hl 1 rfl) ?_
  refine ep_size (fun hub => ?_)
  have hlb : o + 63 < H.size := (hP 63 _ rfl).lt
  have hsz1 : H.size = o + 64 := by omega
  clear hub hlb
  have hlt9 : ∀ (k : Nat) (q : Nat × va_E), (((((([(o, .inr (8, [.ref (o + 1), .ref (o + 62), .null, .null, .null, .null, .null])), (o + 1, .inl (cO, 4, .inr (.inr (.inr (.inr (va_up (va_up (va_up (va_up (fun _ => none) 0 (some (o + 2))) 1 (some (o + 17))) 2 (some (o + 32))) 3 (some (o + 47))))))))]) ++ wC0 cI cJ cZ (o + 2)) ++ wC0 cI cJ cZ (o + 17)) ++ wC0 cI cJ cZ (o + 32)) ++ wC0 cI cJ cZ (o + 47)) ++ wBa cI 2 (o + 62) 0 z32 0 0)[k]? = some q → q.1 < o + 64 := fun k q hk => by have h9 := (hP k q hk).lt; rw [hsz1] at h9; exact h9
  have hD0 := hD
  refine ep_new (C := R_St) (T := F_St) (N := 4) (ci := 3) (fs := [.null, .int 0, .long 0, .int 0]) (h := o + 64) hx hb hg in_St t_St t_St_ok hown (hg _ tw_131) (hg _ tw_132) (hg _ tw_7) hK hP hD hS hA rfl (by decide +kernel) (by show 63 + 1 ≤ 73; decide) (by show 1644 + 4 ≤ 1809; decide) d_EP_init_50 hsz1 (fun H hP hD hS hsz => ?_)
  refine W.widen (k := 64) (n := 1648) (by decide) (by decide) ?_
  refine lv_dup hx hb d_EP_init_53 rfl ?_
  refine ep_callC (ep_toC (va_runIN (b := (o + 64)) (As := []) (rest := [.ref (o + 64), .ref o]) ⟨hx, hb, hml, hown, hg⟩ (m_St_init l D cI cJ cZ cO (o + 64)) (⟨ep_cnB (host := "EditablePast") 0 hg tk_St_init rfl rfl (hKn.2.1 ("EditablePast", 25, ⟨"EditablePast$Stack", "<init>", "()V"⟩) (by decide +kernel)) tw_7 (by decide +kernel) ⟨(Nat.le_of_ble_eq_true rfl), (Nat.le_of_ble_eq_true rfl)⟩, rfl, hg _ tw_134⟩) ⟨ep_blind, ep_pre hKn (⟨wo_r hP, hsz⟩)⟩ rfl rfl hl.1 rfl (lv_room (Nat.le_of_ble_eq_true rfl)) d_EP_init_54 ⟨(Nat.le_of_ble_eq_true rfl), (Nat.le_of_ble_eq_true rfl)⟩)) hS (by intro q h9; omega) (fun H locs hsz9 hk1 hP1 hS => ?_)
  refine W.eq (g2 := F0 m 57 ls [.ref (o + 64), .ref o]) rfl ?_
  refine W.widen (k := 65) (n := 1680) (by decide) (by decide) ?_
  have hP : va_P D cls ((((((([(o, .inr (8, [.ref (o + 1), .ref (o + 62), .null, .null, .null, .null, .null])), (o + 1, .inl (cO, 4, .inr (.inr (.inr (.inr (va_up (va_up (va_up (va_up (fun _ => none) 0 (some (o + 2))) 1 (some (o + 17))) 2 (some (o + 32))) 3 (some (o + 47))))))))]) ++ wC0 cI cJ cZ (o + 2)) ++ wC0 cI cJ cZ (o + 17)) ++ wC0 cI cJ cZ (o + 32)) ++ wC0 cI cJ cZ (o + 47)) ++ wBa cI 2 (o + 62) 0 z32 0 0) ++ wBa cI 3 (o + 64) 0 z32 0 0) H := (wo_kc (wo_l hP) hk1 (fun k q hk h9 => by have h8 := hlt9 k q hk; have h7 : o + 64 ≤ q.1 := h9; omega)).app hP1
  have hD : va_D (fun q => o ≤ q) ((((((([(o, .inr (8, [.ref (o + 1), .ref (o + 62), .null, .null, .null, .null, .null])), (o + 1, .inl (cO, 4, .inr (.inr (.inr (.inr (va_up (va_up (va_up (va_up (fun _ => none) 0 (some (o + 2))) 1 (some (o + 17))) 2 (some (o + 32))) 3 (some (o + 47))))))))]) ++ wC0 cI cJ cZ (o + 2)) ++ wC0 cI cJ cZ (o + 17)) ++ wC0 cI cJ cZ (o + 32)) ++ wC0 cI cJ cZ (o + 47)) ++ wBa cI 2 (o + 62) 0 z32 0 0) ++ wBa cI 3 (o + 64) 0 z32 0 0) := D_app hD0 ((blk_D wBa_in).weaken (fun k q hk h9 => by simp only [blk] at h9; show o ≤ q.1; omega)) hlt9 (fun k q hk => (rng_of wBa_in k q hk).1)
  clear hsz hsz1 hlt9 hD0 hk1 hsz9 hP1
  refine va_putF (D := D) (ci := 8) (v := .ref (o + 64)) (ty := (.object "EditablePast$Stack")) (C := R_EP) (T := F_EP) (N := 7) hx hb hg in_EP t_EP t_EP_ok n_EP hown hK hP hD hS 0 rfl rfl 2 (Nat.le_of_ble_eq_true rfl) (hg _ tw_200) (fun _ h9 => h9) rfl hmn rfl (by decide +kernel) rfl rfl (Nat.le_of_ble_eq_true rfl) d_EP_init_57 (fun H locs hP hD hS => ?_)
  have hP : va_P D cls ((((((([(o, .inr (8, [.ref (o + 1), .ref (o + 62), .ref (o + 64), .null, .null, .null, .null])), (o + 1, .inl (cO, 4, .inr (.inr (.inr (.inr (va_up (va_up (va_up (va_up (fun _ => none) 0 (some (o + 2))) 1 (some (o + 17))) 2 (some (o + 32))) 3 (some (o + 47))))))))]) ++ wC0 cI cJ cZ (o + 2)) ++ wC0 cI cJ cZ (o + 17)) ++ wC0 cI cJ cZ (o + 32)) ++ wC0 cI cJ cZ (o + 47)) ++ wBa cI 2 (o + 62) 0 z32 0 0) ++ wBa cI 3 (o + 64) 0 z32 0 0) H := hP
  have hD : va_D (fun q => o ≤ q) ((((((([(o, .inr (8, [.ref (o + 1), .ref (o + 62), .ref (o + 64), .null, .null, .null, .null])), (o + 1, .inl (cO, 4, .inr (.inr (.inr (.inr (va_up (va_up (va_up (va_up (fun _ => none) 0 (some (o + 2))) 1 (some (o + 17))) 2 (some (o + 32))) 3 (some (o + 47))))))))]) ++ wC0 cI cJ cZ (o + 2)) ++ wC0 cI cJ cZ (o + 17)) ++ wC0 cI cJ cZ (o + 32)) ++ wC0 cI cJ cZ (o + 47)) ++ wBa cI 2 (o + 62) 0 z32 0 0) ++ wBa cI 3 (o + 64) 0 z32 0 0) := hD
  refine lv_aload_n hx hb d_EP_init_60 rfl (lv_at hl 1 rfl) ?_
  refine ep_size (fun hub => ?_)
  have hlb : o + 65 < H.size := (hP 65 _ rfl).lt
  have hsz1 : H.size = o + 66 := by omega
  clear hub hlb
  have hlt9 : ∀ (k : Nat) (q : Nat × va_E), ((((((([(o, .inr (8, [.ref (o + 1), .ref (o + 62), .ref (o + 64), .null, .null, .null, .null])), (o + 1, .inl (cO, 4, .inr (.inr (.inr (.inr (va_up (va_up (va_up (va_up (fun _ => none) 0 (some (o + 2))) 1 (some (o + 17))) 2 (some (o + 32))) 3 (some (o + 47))))))))]) ++ wC0 cI cJ cZ (o + 2)) ++ wC0 cI cJ cZ (o + 17)) ++ wC0 cI cJ cZ (o + 32)) ++ wC0 cI cJ cZ (o + 47)) ++ wBa cI 2 (o + 62) 0 z32 0 0) ++ wBa cI 3 (o + 64) 0 z32 0 0)[k]? = some q → q.1 < o + 66 := fun k q hk => by have h9 := (hP k q hk).lt; rw [hsz1] at h9; exact h9
  have hD0 := hD
  refine ep_new (C := R_Ta) (T := F_Ta) (N := 5) (ci := 5) (fs := [.null, .null, .int 0, .long 0, .int 0]) (h := o + 66) hx hb hg in_Ta t_Ta t_Ta_ok hown (hg _ tw_142) (hg _ tw_143) (hg _ tw_8) hK hP hD hS hA rfl (by decide +kernel) (by show 65 + 1 ≤ 73; decide) (by show 1680 + 5 ≤ 1809; decide) d_EP_init_61 hsz1 (fun H hP hD hS hsz => ?_)
  refine W.widen (k := 66) (n := 1685) (by decide) (by decide) ?_
  refine lv_dup hx hb d_EP_init_64 rfl ?_
  refine ep_callC (ep_toC (va_runIN (b := (o + 66)) (As := []) (rest := [.ref (o + 66), .ref o]) ⟨hx, hb, hml, hown, hg⟩ (m_Ta_init l D cI cJ cZ cO (o + 66)) (⟨ep_cnB (host := "EditablePast") 0 hg tk_Ta_init rfl rfl (hKn.2.1 ("EditablePast", 32, ⟨"EditablePast$Table", "<init>", "()V"⟩) (by decide +kernel)) tw_8 (by decide +kernel) ⟨(Nat.le_of_ble_eq_true rfl), (Nat.le_of_ble_eq_true rfl)⟩, rfl, hg _ tw_145⟩) ⟨ep_blind, ep_pre hKn (⟨wo_r hP, hsz⟩)⟩ rfl rfl hl.1 rfl (lv_room (Nat.le_of_ble_eq_true rfl)) d_EP_init_65 ⟨(Nat.le_of_ble_eq_true rfl), (Nat.le_of_ble_eq_true rfl)⟩)) hS (by intro q h9; omega) (fun H locs hsz9 hk1 hP1 hS => ?_)
  refine W.eq (g2 := F0 m 68 ls [.ref (o + 66), .ref o]) rfl ?_
  refine W.widen (k := 68) (n := 1749) (by decide) (by decide) ?_
  have hP : va_P D cls (((((((([(o, .inr (8, [.ref (o + 1), .ref (o + 62), .ref (o + 64), .null, .null, .null, .null])), (o + 1, .inl (cO, 4, .inr (.inr (.inr (.inr (va_up (va_up (va_up (va_up (fun _ => none) 0 (some (o + 2))) 1 (some (o + 17))) 2 (some (o + 32))) 3 (some (o + 47))))))))]) ++ wC0 cI cJ cZ (o + 2)) ++ wC0 cI cJ cZ (o + 17)) ++ wC0 cI cJ cZ (o + 32)) ++ wC0 cI cJ cZ (o + 47)) ++ wBa cI 2 (o + 62) 0 z32 0 0) ++ wBa cI 3 (o + 64) 0 z32 0 0) ++ wTa cI (o + 66) 0 z32 z32 0 0) H := (wo_kc (wo_l hP) hk1 (fun k q hk h9 => by have h8 := hlt9 k q hk; have h7 : o + 66 ≤ q.1 := h9; omega)).app hP1
  have hD : va_D (fun q => o ≤ q) (((((((([(o, .inr (8, [.ref (o + 1), .ref (o + 62), .ref (o + 64), .null, .null, .null, .null])), (o + 1, .inl (cO, 4, .inr (.inr (.inr (.inr (va_up (va_up (va_up (va_up (fun _ => none) 0 (some (o + 2))) 1 (some (o + 17))) 2 (some (o + 32))) 3 (some (o + 47))))))))]) ++ wC0 cI cJ cZ (o + 2)) ++ wC0 cI cJ cZ (o + 17)) ++ wC0 cI cJ cZ (o + 32)) ++ wC0 cI cJ cZ (o + 47)) ++ wBa cI 2 (o + 62) 0 z32 0 0) ++ wBa cI 3 (o + 64) 0 z32 0 0) ++ wTa cI (o + 66) 0 z32 z32 0 0) := D_app hD0 ((blk_D wTa_in).weaken (fun k q hk h9 => by simp only [blk] at h9; show o ≤ q.1; omega)) hlt9 (fun k q hk => (rng_of wTa_in k q hk).1)
  clear hsz hsz1 hlt9 hD0 hk1 hsz9 hP1
  refine va_putF (D := D) (ci := 8) (v := .ref (o + 66)) (ty := (.object "EditablePast$Table")) (C := R_EP) (T := F_EP) (N := 7) hx hb hg in_EP t_EP t_EP_ok n_EP hown hK hP hD hS 0 rfl rfl 3 (Nat.le_of_ble_eq_true rfl) (hg _ tw_201) (fun _ h9 => h9) rfl hmn rfl (by decide +kernel) rfl rfl (Nat.le_of_ble_eq_true rfl) d_EP_init_68 (fun H locs hP hD hS => ?_)
  have hP : va_P D cls (((((((([(o, .inr (8, [.ref (o + 1), .ref (o + 62), .ref (o + 64), .ref (o + 66), .null, .null, .null])), (o + 1, .inl (cO, 4, .inr (.inr (.inr (.inr (va_up (va_up (va_up (va_up (fun _ => none) 0 (some (o + 2))) 1 (some (o + 17))) 2 (some (o + 32))) 3 (some (o + 47))))))))]) ++ wC0 cI cJ cZ (o + 2)) ++ wC0 cI cJ cZ (o + 17)) ++ wC0 cI cJ cZ (o + 32)) ++ wC0 cI cJ cZ (o + 47)) ++ wBa cI 2 (o + 62) 0 z32 0 0) ++ wBa cI 3 (o + 64) 0 z32 0 0) ++ wTa cI (o + 66) 0 z32 z32 0 0) H := hP
  have hD : va_D (fun q => o ≤ q) (((((((([(o, .inr (8, [.ref (o + 1), .ref (o + 62), .ref (o + 64), .ref (o + 66), .null, .null, .null])), (o + 1, .inl (cO, 4, .inr (.inr (.inr (.inr (va_up (va_up (va_up (va_up (fun _ => none) 0 (some (o + 2))) 1 (some (o + 17))) 2 (some (o + 32))) 3 (some (o + 47))))))))]) ++ wC0 cI cJ cZ (o + 2)) ++ wC0 cI cJ cZ (o + 17)) ++ wC0 cI cJ cZ (o + 32)) ++ wC0 cI cJ cZ (o + 47)) ++ wBa cI 2 (o + 62) 0 z32 0 0) ++ wBa cI 3 (o + 64) 0 z32 0 0) ++ wTa cI (o + 66) 0 z32 z32 0 0) := hD
  refine lv_aload_n hx hb d_EP_init_71 rfl (lv_at hl 1 rfl) ?_
  refine ep_size (fun hub => ?_)
  have hlb : o + 68 < H.size := (hP 68 _ rfl).lt
  have hsz1 : H.size = o + 69 := by omega
  clear hub hlb
  have hlt9 : ∀ (k : Nat) (q : Nat × va_E), (((((((([(o, .inr (8, [.ref (o + 1), .ref (o + 62), .ref (o + 64), .ref (o + 66), .null, .null, .null])), (o + 1, .inl (cO, 4, .inr (.inr (.inr (.inr (va_up (va_up (va_up (va_up (fun _ => none) 0 (some (o + 2))) 1 (some (o + 17))) 2 (some (o + 32))) 3 (some (o + 47))))))))]) ++ wC0 cI cJ cZ (o + 2)) ++ wC0 cI cJ cZ (o + 17)) ++ wC0 cI cJ cZ (o + 32)) ++ wC0 cI cJ cZ (o + 47)) ++ wBa cI 2 (o + 62) 0 z32 0 0) ++ wBa cI 3 (o + 64) 0 z32 0 0) ++ wTa cI (o + 66) 0 z32 z32 0 0)[k]? = some q → q.1 < o + 69 := fun k q hk => by have h9 := (hP k q hk).lt; rw [hsz1] at h9; exact h9
  have hD0 := hD
  refine ep_new (C := R_He) (T := F_He) (N := 4) (ci := 4) (fs := [.null, .int 0, .long 0, .int 0]) (h := o + 69) hx hb hg in_He t_He t_He_ok hown (hg _ tw_159) (hg _ tw_160) (hg _ tw_9) hK hP hD hS hA rfl (by decide +kernel) (by show 68 + 1 ≤ 73; decide) (by show 1749 + 4 ≤ 1809; decide) d_EP_init_72 hsz1 (fun H hP hD hS hsz => ?_)
  refine W.widen (k := 69) (n := 1753) (by decide) (by decide) ?_
  refine lv_dup hx hb d_EP_init_75 rfl ?_
  refine ep_callC (ep_toC (va_runIN (b := (o + 69)) (As := []) (rest := [.ref (o + 69), .ref o]) ⟨hx, hb, hml, hown, hg⟩ (m_He_init l D cI cJ cZ cO (o + 69)) (⟨ep_cnB (host := "EditablePast") 0 hg tk_He_init rfl rfl (hKn.2.1 ("EditablePast", 39, ⟨"EditablePast$Heap", "<init>", "()V"⟩) (by decide +kernel)) tw_9 (by decide +kernel) ⟨(Nat.le_of_ble_eq_true rfl), (Nat.le_of_ble_eq_true rfl)⟩, rfl, hg _ tw_162⟩) ⟨ep_blind, ep_pre hKn (⟨wo_r hP, hsz⟩)⟩ rfl rfl hl.1 rfl (lv_room (Nat.le_of_ble_eq_true rfl)) d_EP_init_76 ⟨(Nat.le_of_ble_eq_true rfl), (Nat.le_of_ble_eq_true rfl)⟩)) hS (by intro q h9; omega) (fun H locs hsz9 hk1 hP1 hS => ?_)
  refine W.eq (g2 := F0 m 79 ls [.ref (o + 69), .ref o]) rfl ?_
  refine W.widen (k := 70) (n := 1785) (by decide) (by decide) ?_
  have hP : va_P D cls ((((((((([(o, .inr (8, [.ref (o + 1), .ref (o + 62), .ref (o + 64), .ref (o + 66), .null, .null, .null])), (o + 1, .inl (cO, 4, .inr (.inr (.inr (.inr (va_up (va_up (va_up (va_up (fun _ => none) 0 (some (o + 2))) 1 (some (o + 17))) 2 (some (o + 32))) 3 (some (o + 47))))))))]) ++ wC0 cI cJ cZ (o + 2)) ++ wC0 cI cJ cZ (o + 17)) ++ wC0 cI cJ cZ (o + 32)) ++ wC0 cI cJ cZ (o + 47)) ++ wBa cI 2 (o + 62) 0 z32 0 0) ++ wBa cI 3 (o + 64) 0 z32 0 0) ++ wTa cI (o + 66) 0 z32 z32 0 0) ++ wBa cI 4 (o + 69) 0 z32 0 0) H := (wo_kc (wo_l hP) hk1 (fun k q hk h9 => by have h8 := hlt9 k q hk; have h7 : o + 69 ≤ q.1 := h9; omega)).app hP1
  have hD : va_D (fun q => o ≤ q) ((((((((([(o, .inr (8, [.ref (o + 1), .ref (o + 62), .ref (o + 64), .ref (o + 66), .null, .null, .null])), (o + 1, .inl (cO, 4, .inr (.inr (.inr (.inr (va_up (va_up (va_up (va_up (fun _ => none) 0 (some (o + 2))) 1 (some (o + 17))) 2 (some (o + 32))) 3 (some (o + 47))))))))]) ++ wC0 cI cJ cZ (o + 2)) ++ wC0 cI cJ cZ (o + 17)) ++ wC0 cI cJ cZ (o + 32)) ++ wC0 cI cJ cZ (o + 47)) ++ wBa cI 2 (o + 62) 0 z32 0 0) ++ wBa cI 3 (o + 64) 0 z32 0 0) ++ wTa cI (o + 66) 0 z32 z32 0 0) ++ wBa cI 4 (o + 69) 0 z32 0 0) := D_app hD0 ((blk_D wBa_in).weaken (fun k q hk h9 => by simp only [blk] at h9; show o ≤ q.1; omega)) hlt9 (fun k q hk => (rng_of wBa_in k q hk).1)
  clear hsz hsz1 hlt9 hD0 hk1 hsz9 hP1
  refine va_putF (D := D) (ci := 8) (v := .ref (o + 69)) (ty := (.object "EditablePast$Heap")) (C := R_EP) (T := F_EP) (N := 7) hx hb hg in_EP t_EP t_EP_ok n_EP hown hK hP hD hS 0 rfl rfl 4 (Nat.le_of_ble_eq_true rfl) (hg _ tw_202) (fun _ h9 => h9) rfl hmn rfl (by decide +kernel) rfl rfl (Nat.le_of_ble_eq_true rfl) d_EP_init_79 (fun H locs hP hD hS => ?_)
  have hP : va_P D cls ((((((((([(o, .inr (8, [.ref (o + 1), .ref (o + 62), .ref (o + 64), .ref (o + 66), .ref (o + 69), .null, .null])), (o + 1, .inl (cO, 4, .inr (.inr (.inr (.inr (va_up (va_up (va_up (va_up (fun _ => none) 0 (some (o + 2))) 1 (some (o + 17))) 2 (some (o + 32))) 3 (some (o + 47))))))))]) ++ wC0 cI cJ cZ (o + 2)) ++ wC0 cI cJ cZ (o + 17)) ++ wC0 cI cJ cZ (o + 32)) ++ wC0 cI cJ cZ (o + 47)) ++ wBa cI 2 (o + 62) 0 z32 0 0) ++ wBa cI 3 (o + 64) 0 z32 0 0) ++ wTa cI (o + 66) 0 z32 z32 0 0) ++ wBa cI 4 (o + 69) 0 z32 0 0) H := hP
  have hD : va_D (fun q => o ≤ q) ((((((((([(o, .inr (8, [.ref (o + 1), .ref (o + 62), .ref (o + 64), .ref (o + 66), .ref (o + 69), .null, .null])), (o + 1, .inl (cO, 4, .inr (.inr (.inr (.inr (va_up (va_up (va_up (va_up (fun _ => none) 0 (some (o + 2))) 1 (some (o + 17))) 2 (some (o + 32))) 3 (some (o + 47))))))))]) ++ wC0 cI cJ cZ (o + 2)) ++ wC0 cI cJ cZ (o + 17)) ++ wC0 cI cJ cZ (o + 32)) ++ wC0 cI cJ cZ (o + 47)) ++ wBa cI 2 (o + 62) 0 z32 0 0) ++ wBa cI 3 (o + 64) 0 z32 0 0) ++ wTa cI (o + 66) 0 z32 z32 0 0) ++ wBa cI 4 (o + 69) 0 z32 0 0) := hD
  refine lv_aload_n hx hb d_EP_init_82 rfl (lv_at hl 1 rfl) ?_
  refine ep_size (fun hub => ?_)
  have hlb : o + 70 < H.size := (hP 70 _ rfl).lt
  have hsz1 : H.size = o + 71 := by omega
  clear hub hlb
  have hlt9 : ∀ (k : Nat) (q : Nat × va_E), ((((((((([(o, .inr (8, [.ref (o + 1), .ref (o + 62), .ref (o + 64), .ref (o + 66), .ref (o + 69), .null, .null])), (o + 1, .inl (cO, 4, .inr (.inr (.inr (.inr (va_up (va_up (va_up (va_up (fun _ => none) 0 (some (o + 2))) 1 (some (o + 17))) 2 (some (o + 32))) 3 (some (o + 47))))))))]) ++ wC0 cI cJ cZ (o + 2)) ++ wC0 cI cJ cZ (o + 17)) ++ wC0 cI cJ cZ (o + 32)) ++ wC0 cI cJ cZ (o + 47)) ++ wBa cI 2 (o + 62) 0 z32 0 0) ++ wBa cI 3 (o + 64) 0 z32 0 0) ++ wTa cI (o + 66) 0 z32 z32 0 0) ++ wBa cI 4 (o + 69) 0 z32 0 0)[k]? = some q → q.1 < o + 71 := fun k q hk => by have h9 := (hP k q hk).lt; rw [hsz1] at h9; exact h9
  have hD0 := hD
  refine ep_new (C := R_Re) (T := F_Re) (N := 4) (ci := 6) (fs := [.long 0, .int 0, .long 0, .int 0]) (h := o + 71) hx hb hg in_Re t_Re t_Re_ok hown (hg _ tw_170) (hg _ tw_171) (hg _ tw_10) hK hP hD hS hA rfl (by decide +kernel) (by show 70 + 1 ≤ 73; decide) (by show 1785 + 4 ≤ 1809; decide) d_EP_init_83 hsz1 (fun H hP hD hS hsz => ?_)
  refine W.widen (k := 71) (n := 1789) (by decide) (by decide) ?_
  refine lv_dup hx hb d_EP_init_86 rfl ?_
  refine ep_callC (ep_toC (va_runIN (b := (o + 71)) (As := []) (rest := [.ref (o + 71), .ref o]) ⟨hx, hb, hml, hown, hg⟩ (m_Re_init l D cI cJ cZ cO (o + 71)) (⟨ep_cnB (host := "EditablePast") 0 hg tk_Re_init rfl rfl (hKn.2.1 ("EditablePast", 46, ⟨"EditablePast$Register", "<init>", "()V"⟩) (by decide +kernel)) tw_10 (by decide +kernel) ⟨(Nat.le_of_ble_eq_true rfl), (Nat.le_of_ble_eq_true rfl)⟩, rfl, hg _ tw_173⟩) ⟨ep_blind, ep_pre hKn (⟨wo_r hP, hsz⟩)⟩ rfl rfl hl.1 rfl (lv_room (Nat.le_of_ble_eq_true rfl)) d_EP_init_87 ⟨(Nat.le_of_ble_eq_true rfl), (Nat.le_of_ble_eq_true rfl)⟩)) hS (by intro q h9; omega) (fun H locs hsz9 hk1 hP1 hS => ?_)
  refine W.eq (g2 := F0 m 90 ls [.ref (o + 71), .ref o]) rfl ?_
  refine W.widen (k := 71) (n := 1789) (by decide) (by decide) ?_
  have hP : va_P D cls (((((((((([(o, .inr (8, [.ref (o + 1), .ref (o + 62), .ref (o + 64), .ref (o + 66), .ref (o + 69), .null, .null])), (o + 1, .inl (cO, 4, .inr (.inr (.inr (.inr (va_up (va_up (va_up (va_up (fun _ => none) 0 (some (o + 2))) 1 (some (o + 17))) 2 (some (o + 32))) 3 (some (o + 47))))))))]) ++ wC0 cI cJ cZ (o + 2)) ++ wC0 cI cJ cZ (o + 17)) ++ wC0 cI cJ cZ (o + 32)) ++ wC0 cI cJ cZ (o + 47)) ++ wBa cI 2 (o + 62) 0 z32 0 0) ++ wBa cI 3 (o + 64) 0 z32 0 0) ++ wTa cI (o + 66) 0 z32 z32 0 0) ++ wBa cI 4 (o + 69) 0 z32 0 0) ++ wRe (o + 71) 0 0 0 0) H := (wo_kc (wo_l hP) hk1 (fun k q hk h9 => by have h8 := hlt9 k q hk; have h7 : o + 71 ≤ q.1 := h9; omega)).app hP1
  have hD : va_D (fun q => o ≤ q) (((((((((([(o, .inr (8, [.ref (o + 1), .ref (o + 62), .ref (o + 64), .ref (o + 66), .ref (o + 69), .null, .null])), (o + 1, .inl (cO, 4, .inr (.inr (.inr (.inr (va_up (va_up (va_up (va_up (fun _ => none) 0 (some (o + 2))) 1 (some (o + 17))) 2 (some (o + 32))) 3 (some (o + 47))))))))]) ++ wC0 cI cJ cZ (o + 2)) ++ wC0 cI cJ cZ (o + 17)) ++ wC0 cI cJ cZ (o + 32)) ++ wC0 cI cJ cZ (o + 47)) ++ wBa cI 2 (o + 62) 0 z32 0 0) ++ wBa cI 3 (o + 64) 0 z32 0 0) ++ wTa cI (o + 66) 0 z32 z32 0 0) ++ wBa cI 4 (o + 69) 0 z32 0 0) ++ wRe (o + 71) 0 0 0 0) := D_app hD0 ((blk_D wRe_in).weaken (fun k q hk h9 => by simp only [blk] at h9; show o ≤ q.1; omega)) hlt9 (fun k q hk => (rng_of wRe_in k q hk).1)
  clear hsz hsz1 hlt9 hD0 hk1 hsz9 hP1
  refine va_putF (D := D) (ci := 8) (v := .ref (o + 71)) (ty := (.object "EditablePast$Register")) (C := R_EP) (T := F_EP) (N := 7) hx hb hg in_EP t_EP t_EP_ok n_EP hown hK hP hD hS 0 rfl rfl 5 (Nat.le_of_ble_eq_true rfl) (hg _ tw_203) (fun _ h9 => h9) rfl hmn rfl (by decide +kernel) rfl rfl (Nat.le_of_ble_eq_true rfl) d_EP_init_90 (fun H locs hP hD hS => ?_)
  have hP : va_P D cls (((((((((([(o, .inr (8, [.ref (o + 1), .ref (o + 62), .ref (o + 64), .ref (o + 66), .ref (o + 69), .ref (o + 71), .null])), (o + 1, .inl (cO, 4, .inr (.inr (.inr (.inr (va_up (va_up (va_up (va_up (fun _ => none) 0 (some (o + 2))) 1 (some (o + 17))) 2 (some (o + 32))) 3 (some (o + 47))))))))]) ++ wC0 cI cJ cZ (o + 2)) ++ wC0 cI cJ cZ (o + 17)) ++ wC0 cI cJ cZ (o + 32)) ++ wC0 cI cJ cZ (o + 47)) ++ wBa cI 2 (o + 62) 0 z32 0 0) ++ wBa cI 3 (o + 64) 0 z32 0 0) ++ wTa cI (o + 66) 0 z32 z32 0 0) ++ wBa cI 4 (o + 69) 0 z32 0 0) ++ wRe (o + 71) 0 0 0 0) H := hP
  have hD : va_D (fun q => o ≤ q) (((((((((([(o, .inr (8, [.ref (o + 1), .ref (o + 62), .ref (o + 64), .ref (o + 66), .ref (o + 69), .ref (o + 71), .null])), (o + 1, .inl (cO, 4, .inr (.inr (.inr (.inr (va_up (va_up (va_up (va_up (fun _ => none) 0 (some (o + 2))) 1 (some (o + 17))) 2 (some (o + 32))) 3 (some (o + 47))))))))]) ++ wC0 cI cJ cZ (o + 2)) ++ wC0 cI cJ cZ (o + 17)) ++ wC0 cI cJ cZ (o + 32)) ++ wC0 cI cJ cZ (o + 47)) ++ wBa cI 2 (o + 62) 0 z32 0 0) ++ wBa cI 3 (o + 64) 0 z32 0 0) ++ wTa cI (o + 66) 0 z32 z32 0 0) ++ wBa cI 4 (o + 69) 0 z32 0 0) ++ wRe (o + 71) 0 0 0 0) := hD
  refine lv_aload_n hx hb d_EP_init_93 rfl (lv_at hl 1 rfl) ?_
  refine ep_size (fun hub => ?_)
  have hlb : o + 71 < H.size := (hP 71 _ rfl).lt
  have hsz1 : H.size = o + 72 := by omega
  clear hub hlb
  have hlt9 : ∀ (k : Nat) (q : Nat × va_E), (((((((((([(o, .inr (8, [.ref (o + 1), .ref (o + 62), .ref (o + 64), .ref (o + 66), .ref (o + 69), .ref (o + 71), .null])), (o + 1, .inl (cO, 4, .inr (.inr (.inr (.inr (va_up (va_up (va_up (va_up (fun _ => none) 0 (some (o + 2))) 1 (some (o + 17))) 2 (some (o + 32))) 3 (some (o + 47))))))))]) ++ wC0 cI cJ cZ (o + 2)) ++ wC0 cI cJ cZ (o + 17)) ++ wC0 cI cJ cZ (o + 32)) ++ wC0 cI cJ cZ (o + 47)) ++ wBa cI 2 (o + 62) 0 z32 0 0) ++ wBa cI 3 (o + 64) 0 z32 0 0) ++ wTa cI (o + 66) 0 z32 z32 0 0) ++ wBa cI 4 (o + 69) 0 z32 0 0) ++ wRe (o + 71) 0 0 0 0)[k]? = some q → q.1 < o + 72 := fun k q hk => by have h9 := (hP k q hk).lt; rw [hsz1] at h9; exact h9
  have hD0 := hD
  refine ep_new (C := R_Se) (T := F_Se) (N := 4) (ci := 7) (fs := [.null, .int 0, .long 0, .int 0]) (h := o + 72) hx hb hg in_Se t_Se t_Se_ok hown (hg _ tw_184) (hg _ tw_185) (hg _ tw_11) hK hP hD hS hA rfl (by decide +kernel) (by show 71 + 1 ≤ 73; decide) (by show 1789 + 4 ≤ 1809; decide) d_EP_init_94 hsz1 (fun H hP hD hS hsz => ?_)
  refine W.widen (k := 72) (n := 1793) (by decide) (by decide) ?_
  refine lv_dup hx hb d_EP_init_97 rfl ?_
  refine ep_callC (ep_toC (va_runIN (b := (o + 72)) (As := []) (rest := [.ref (o + 72), .ref o]) ⟨hx, hb, hml, hown, hg⟩ (m_Se_init l D cI cJ cZ cO (o + 72)) (⟨ep_cnB (host := "EditablePast") 0 hg tk_Se_init rfl rfl (hKn.2.1 ("EditablePast", 53, ⟨"EditablePast$Sets", "<init>", "()V"⟩) (by decide +kernel)) tw_11 (by decide +kernel) ⟨(Nat.le_of_ble_eq_true rfl), (Nat.le_of_ble_eq_true rfl)⟩, rfl, hg _ tw_187⟩) ⟨ep_blind, ep_pre hKn (⟨wo_r hP, hsz⟩)⟩ rfl rfl hl.1 rfl (lv_room (Nat.le_of_ble_eq_true rfl)) d_EP_init_98 ⟨(Nat.le_of_ble_eq_true rfl), (Nat.le_of_ble_eq_true rfl)⟩)) hS (by intro q h9; omega) (fun H locs hsz9 hk1 hP1 hS => ?_)
  refine W.eq (g2 := F0 m 101 ls [.ref (o + 72), .ref o]) rfl ?_
  refine W.widen (k := 73) (n := 1809) (by decide) (by decide) ?_
  have hP : va_P D cls ((((((((((([(o, .inr (8, [.ref (o + 1), .ref (o + 62), .ref (o + 64), .ref (o + 66), .ref (o + 69), .ref (o + 71), .null])), (o + 1, .inl (cO, 4, .inr (.inr (.inr (.inr (va_up (va_up (va_up (va_up (fun _ => none) 0 (some (o + 2))) 1 (some (o + 17))) 2 (some (o + 32))) 3 (some (o + 47))))))))]) ++ wC0 cI cJ cZ (o + 2)) ++ wC0 cI cJ cZ (o + 17)) ++ wC0 cI cJ cZ (o + 32)) ++ wC0 cI cJ cZ (o + 47)) ++ wBa cI 2 (o + 62) 0 z32 0 0) ++ wBa cI 3 (o + 64) 0 z32 0 0) ++ wTa cI (o + 66) 0 z32 z32 0 0) ++ wBa cI 4 (o + 69) 0 z32 0 0) ++ wRe (o + 71) 0 0 0 0) ++ wSe cI (o + 72) 0 z32 0 0) H := (wo_kc (wo_l hP) hk1 (fun k q hk h9 => by have h8 := hlt9 k q hk; have h7 : o + 72 ≤ q.1 := h9; omega)).app hP1
  have hD : va_D (fun q => o ≤ q) ((((((((((([(o, .inr (8, [.ref (o + 1), .ref (o + 62), .ref (o + 64), .ref (o + 66), .ref (o + 69), .ref (o + 71), .null])), (o + 1, .inl (cO, 4, .inr (.inr (.inr (.inr (va_up (va_up (va_up (va_up (fun _ => none) 0 (some (o + 2))) 1 (some (o + 17))) 2 (some (o + 32))) 3 (some (o + 47))))))))]) ++ wC0 cI cJ cZ (o + 2)) ++ wC0 cI cJ cZ (o + 17)) ++ wC0 cI cJ cZ (o + 32)) ++ wC0 cI cJ cZ (o + 47)) ++ wBa cI 2 (o + 62) 0 z32 0 0) ++ wBa cI 3 (o + 64) 0 z32 0 0) ++ wTa cI (o + 66) 0 z32 z32 0 0) ++ wBa cI 4 (o + 69) 0 z32 0 0) ++ wRe (o + 71) 0 0 0 0) ++ wSe cI (o + 72) 0 z32 0 0) := D_app hD0 ((blk_D wSe_in).weaken (fun k q hk h9 => by simp only [blk] at h9; show o ≤ q.1; omega)) hlt9 (fun k q hk => (rng_of wSe_in k q hk).1)
  clear hsz hsz1 hlt9 hD0 hk1 hsz9 hP1
  refine va_putF (D := D) (ci := 8) (v := .ref (o + 72)) (ty := (.object "EditablePast$Sets")) (C := R_EP) (T := F_EP) (N := 7) hx hb hg in_EP t_EP t_EP_ok n_EP hown hK hP hD hS 0 rfl rfl 6 (Nat.le_of_ble_eq_true rfl) (hg _ tw_204) (fun _ h9 => h9) rfl hmn rfl (by decide +kernel) rfl rfl (Nat.le_of_ble_eq_true rfl) d_EP_init_101 (fun H locs hP hD hS => ?_)
  have hP : va_P D cls ((((((((((([(o, .inr (8, [.ref (o + 1), .ref (o + 62), .ref (o + 64), .ref (o + 66), .ref (o + 69), .ref (o + 71), .ref (o + 72)])), (o + 1, .inl (cO, 4, .inr (.inr (.inr (.inr (va_up (va_up (va_up (va_up (fun _ => none) 0 (some (o + 2))) 1 (some (o + 17))) 2 (some (o + 32))) 3 (some (o + 47))))))))]) ++ wC0 cI cJ cZ (o + 2)) ++ wC0 cI cJ cZ (o + 17)) ++ wC0 cI cJ cZ (o + 32)) ++ wC0 cI cJ cZ (o + 47)) ++ wBa cI 2 (o + 62) 0 z32 0 0) ++ wBa cI 3 (o + 64) 0 z32 0 0) ++ wTa cI (o + 66) 0 z32 z32 0 0) ++ wBa cI 4 (o + 69) 0 z32 0 0) ++ wRe (o + 71) 0 0 0 0) ++ wSe cI (o + 72) 0 z32 0 0) H := hP
  have hD : va_D (fun q => o ≤ q) ((((((((((([(o, .inr (8, [.ref (o + 1), .ref (o + 62), .ref (o + 64), .ref (o + 66), .ref (o + 69), .ref (o + 71), .ref (o + 72)])), (o + 1, .inl (cO, 4, .inr (.inr (.inr (.inr (va_up (va_up (va_up (va_up (fun _ => none) 0 (some (o + 2))) 1 (some (o + 17))) 2 (some (o + 32))) 3 (some (o + 47))))))))]) ++ wC0 cI cJ cZ (o + 2)) ++ wC0 cI cJ cZ (o + 17)) ++ wC0 cI cJ cZ (o + 32)) ++ wC0 cI cJ cZ (o + 47)) ++ wBa cI 2 (o + 62) 0 z32 0 0) ++ wBa cI 3 (o + 64) 0 z32 0 0) ++ wTa cI (o + 66) 0 z32 z32 0 0) ++ wBa cI 4 (o + 69) 0 z32 0 0) ++ wRe (o + 71) 0 0 0 0) ++ wSe cI (o + 72) 0 z32 0 0) := hD
  have hW : va_P D cls (wEP cO o) H := q_congr (fun i hi => by rcases (show i = 0 ∨ i = 1 ∨ i = 2 ∨ i = 3 by omega) with rfl | rfl | rfl | rfl <;> rfl) (wo_l (wo_l (wo_l (wo_l (wo_l (wo_l (wo_l (wo_l (wo_l (wo_l hP))))))))))
  have hcol : ∀ j, j < 4 → va_P D cls (wC0 cI cJ cZ (o + 2 + 15 * j)) H := by
    intro j hj
    rcases (show j = 0 ∨ j = 1 ∨ j = 2 ∨ j = 3 by omega) with rfl | rfl | rfl | rfl
    · exact wo_r (wo_l (wo_l (wo_l (wo_l (wo_l (wo_l (wo_l (wo_l (wo_l hP)))))))))
    · exact wo_r (wo_l (wo_l (wo_l (wo_l (wo_l (wo_l (wo_l (wo_l hP))))))))
    · exact wo_r (wo_l (wo_l (wo_l (wo_l (wo_l (wo_l (wo_l hP)))))))
    · exact wo_r (wo_l (wo_l (wo_l (wo_l (wo_l (wo_l hP))))))
  exact W.vret hx hb hr (fun t9 ht hW9 => ⟨rfl, hS.F ht, by rw [ht]; exact ⟨hW, hcol, wo_r (wo_l (wo_l (wo_l (wo_l (wo_l hP))))), wo_r (wo_l (wo_l (wo_l (wo_l hP)))), wo_r (wo_l (wo_l (wo_l hP))), wo_r (wo_l (wo_l hP)), wo_r (wo_l hP), wo_r (hP)⟩⟩) hS.2.2 d_EP_init_104
