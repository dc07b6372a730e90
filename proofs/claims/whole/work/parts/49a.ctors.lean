/-! constructors (by wip/whole/gen/ctor.py) -/
abbrev rc_Li_init : Room := { frames := 1, cells := 6, slots := 192, locals := 20 }
set_option maxHeartbeats 4000000 in
set_option maxRecDepth 100000 in
theorem m_Li_init (l : Launch) (D : va_G) (cI cJ cZ cO : ClassId) (a : Nat) : Met l y_Li_init (k_Li_init :: gt) rc_Li_init (Pc0 D cI cJ cZ cO [.ref a] (fun H => va_P D cls ([(a, .inr (1, [.int 0, .null, .null, .null, .null, .null, .null]))]) H ∧ H.size = a + 1)) (Qd (fun q => a ≤ q) none (fun H => va_P D cls (wL0 cI cJ cZ a) H)) 6 192 (fun q => a ≤ q) := by
  refine Met.ofW (cc := c_Li_init) (maxL := 1) (ret := none) (by decide) rfl ?_
  intro p e s m args below meth c s₁ B hml hv
  obtain ⟨rfl, hKn, hP, hsz0⟩ := hv
  have hx := B.exec
  have hb := B.bytes
  have hr := B.returns
  have hts := atoms_spec (ws := k_Li_init :: gt) B.pre
  have hg : ∀ w ∈ gt, w.before _ s = true := fun w h => hts w (List.mem_cons_of_mem _ h)
  have hown : s.vm.findClass R_Li = some m.cls := findClass_of_methodNamed B.named
  have hlocks := B.notSynchronized
  have hK := hKn.1
  have hl := lv_entry ([.ref a]) (n := 1) (Nat.le_of_ble_eq_true rfl)
  rw [lg_entry_eq]
  generalize (lg_sl ([.ref a]) ++ List.replicate (1 - (lg_sl ([.ref a])).length) Slot.unset).toArray = ls at hl ⊢
  have hl : lv_has ls 1 [(0, .ref a)] := hl
  have hmn : meth.name = "<init>" := (name_of_methodNamed B.named B.method).1
  have hS : va_S (fun q => a ≤ q) s.heap s.heap [] := va_S.rf
  have hA : ∀ q, s.heap.size ≤ q → a ≤ q := by intro q h9; omega
  have hD : va_D (fun q => a ≤ q) ([(a, .inr (1, [.int 0, .null, .null, .null, .null, .null, .null]))]) := one_D (Nat.le_refl _)
  refine lv_aload_n hx hb d_Li_init_0 rfl (lv_at hl 0 rfl) ?_
  refine W.objInit hx hb hown (hg _ tw_42) (hg _ tw_28) (hg _ tk_Ob_init) rfl (hl.1.trans hml.symm) rfl d_Li_init_1 (Nat.le_of_ble_eq_true rfl) (Nat.le_of_ble_eq_true rfl) ?_
  refine W.eq (g2 := F0 m 4 ls []) rfl ?_
  refine lv_aload_n hx hb d_Li_init_4 rfl (lv_at hl 0 rfl) ?_
  refine lv_bipush (v := 32) hx hb d_Li_init_5 (by decide) ?_
  refine ep_size (fun hub => ?_)
  have hlb : a < s.heap.size := (hP 0 _ rfl).lt
  have hsz1 : s.heap.size = a + 1 := by omega
  clear hub hlb
  refine ep_newa (atype := .int) (ty := .int) (h := a + 1) (cA := cI) (a0 := (32, .inl z32)) hx hb (hg _ tw_72) rfl hK 0 rfl (fun h => h) hP hD hS hA rfl (nI_pos (n := 32) (by decide)) (nI_clamp (n := 32) (by decide)) (by show 32 * 4 ≤ 536870912; decide) (by show 0 + 1 ≤ 6; decide) (by show 0 + 32 ≤ 192; decide) d_Li_init_7 hsz1 (fun H hP hD hS hsz => ?_)
  refine W.widen (k := 1) (n := 32) (by decide) (by decide) ?_
  clear hsz hsz1
  have hP : va_P D cls ([(a, .inr (1, [.int 0, .null, .null, .null, .null, .null, .null])), (a + 1, .inl (cI, 32, .inl z32))]) H := hP
  have hD : va_D (fun q => a ≤ q) ([(a, .inr (1, [.int 0, .null, .null, .null, .null, .null, .null])), (a + 1, .inl (cI, 32, .inl z32))]) := hD
  refine va_putF (D := D) (ci := 1) (v := .ref (a + 1)) (ty := (.array .int)) (C := R_Li) (T := F_Li) (N := 7) hx hb hg in_Li t_Li t_Li_ok n_Li hown hK hP hD hS 0 rfl rfl 1 (Nat.le_of_ble_eq_true rfl) (hg _ tw_45) (fun _ h9 => h9) rfl hmn rfl (by decide +kernel) rfl rfl (Nat.le_of_ble_eq_true rfl) d_Li_init_9 (fun H locs hP hD hS => ?_)
  have hP : va_P D cls ([(a, .inr (1, [.int 0, .ref (a + 1), .null, .null, .null, .null, .null])), (a + 1, .inl (cI, 32, .inl z32))]) H := hP
  have hD : va_D (fun q => a ≤ q) ([(a, .inr (1, [.int 0, .ref (a + 1), .null, .null, .null, .null, .null])), (a + 1, .inl (cI, 32, .inl z32))]) := hD
  refine lv_aload_n hx hb d_Li_init_12 rfl (lv_at hl 0 rfl) ?_
  refine lv_bipush (v := 32) hx hb d_Li_init_13 (by decide) ?_
  refine ep_size (fun hub => ?_)
  have hlb : a + 1 < H.size := (hP 1 _ rfl).lt
  have hsz1 : H.size = a + 2 := by omega
  clear hub hlb
  refine ep_newa (atype := .int) (ty := .int) (h := a + 2) (cA := cI) (a0 := (32, .inl z32)) hx hb (hg _ tw_72) rfl hK 0 rfl (fun h => h) hP hD hS hA rfl (nI_pos (n := 32) (by decide)) (nI_clamp (n := 32) (by decide)) (by show 32 * 4 ≤ 536870912; decide) (by show 1 + 1 ≤ 6; decide) (by show 32 + 32 ≤ 192; decide) d_Li_init_15 hsz1 (fun H hP hD hS hsz => ?_)
  refine W.widen (k := 2) (n := 64) (by decide) (by decide) ?_
  clear hsz hsz1
  have hP : va_P D cls ([(a, .inr (1, [.int 0, .ref (a + 1), .null, .null, .null, .null, .null])), (a + 1, .inl (cI, 32, .inl z32)), (a + 2, .inl (cI, 32, .inl z32))]) H := hP
  have hD : va_D (fun q => a ≤ q) ([(a, .inr (1, [.int 0, .ref (a + 1), .null, .null, .null, .null, .null])), (a + 1, .inl (cI, 32, .inl z32)), (a + 2, .inl (cI, 32, .inl z32))]) := hD
  refine va_putF (D := D) (ci := 1) (v := .ref (a + 2)) (ty := (.array .int)) (C := R_Li) (T := F_Li) (N := 7) hx hb hg in_Li t_Li t_Li_ok n_Li hown hK hP hD hS 0 rfl rfl 2 (Nat.le_of_ble_eq_true rfl) (hg _ tw_47) (fun _ h9 => h9) rfl hmn rfl (by decide +kernel) rfl rfl (Nat.le_of_ble_eq_true rfl) d_Li_init_17 (fun H locs hP hD hS => ?_)
  have hP : va_P D cls ([(a, .inr (1, [.int 0, .ref (a + 1), .ref (a + 2), .null, .null, .null, .null])), (a + 1, .inl (cI, 32, .inl z32)), (a + 2, .inl (cI, 32, .inl z32))]) H := hP
  have hD : va_D (fun q => a ≤ q) ([(a, .inr (1, [.int 0, .ref (a + 1), .ref (a + 2), .null, .null, .null, .null])), (a + 1, .inl (cI, 32, .inl z32)), (a + 2, .inl (cI, 32, .inl z32))]) := hD
  refine lv_aload_n hx hb d_Li_init_20 rfl (lv_at hl 0 rfl) ?_
  refine lv_bipush (v := 32) hx hb d_Li_init_21 (by decide) ?_
  refine ep_size (fun hub => ?_)
  have hlb : a + 2 < H.size := (hP 2 _ rfl).lt
  have hsz1 : H.size = a + 3 := by omega
  clear hub hlb
  refine ep_newa (atype := .int) (ty := .int) (h := a + 3) (cA := cI) (a0 := (32, .inl z32)) hx hb (hg _ tw_72) rfl hK 0 rfl (fun h => h) hP hD hS hA rfl (nI_pos (n := 32) (by decide)) (nI_clamp (n := 32) (by decide)) (by show 32 * 4 ≤ 536870912; decide) (by show 2 + 1 ≤ 6; decide) (by show 64 + 32 ≤ 192; decide) d_Li_init_23 hsz1 (fun H hP hD hS hsz => ?_)
  refine W.widen (k := 3) (n := 96) (by decide) (by decide) ?_
  clear hsz hsz1
  have hP : va_P D cls ([(a, .inr (1, [.int 0, .ref (a + 1), .ref (a + 2), .null, .null, .null, .null])), (a + 1, .inl (cI, 32, .inl z32)), (a + 2, .inl (cI, 32, .inl z32)), (a + 3, .inl (cI, 32, .inl z32))]) H := hP
  have hD : va_D (fun q => a ≤ q) ([(a, .inr (1, [.int 0, .ref (a + 1), .ref (a + 2), .null, .null, .null, .null])), (a + 1, .inl (cI, 32, .inl z32)), (a + 2, .inl (cI, 32, .inl z32)), (a + 3, .inl (cI, 32, .inl z32))]) := hD
  refine va_putF (D := D) (ci := 1) (v := .ref (a + 3)) (ty := (.array .int)) (C := R_Li) (T := F_Li) (N := 7) hx hb hg in_Li t_Li t_Li_ok n_Li hown hK hP hD hS 0 rfl rfl 3 (Nat.le_of_ble_eq_true rfl) (hg _ tw_49) (fun _ h9 => h9) rfl hmn rfl (by decide +kernel) rfl rfl (Nat.le_of_ble_eq_true rfl) d_Li_init_25 (fun H locs hP hD hS => ?_)
  have hP : va_P D cls ([(a, .inr (1, [.int 0, .ref (a + 1), .ref (a + 2), .ref (a + 3), .null, .null, .null])), (a + 1, .inl (cI, 32, .inl z32)), (a + 2, .inl (cI, 32, .inl z32)), (a + 3, .inl (cI, 32, .inl z32))]) H := hP
  have hD : va_D (fun q => a ≤ q) ([(a, .inr (1, [.int 0, .ref (a + 1), .ref (a + 2), .ref (a + 3), .null, .null, .null])), (a + 1, .inl (cI, 32, .inl z32)), (a + 2, .inl (cI, 32, .inl z32)), (a + 3, .inl (cI, 32, .inl z32))]) := hD
  refine lv_aload_n hx hb d_Li_init_28 rfl (lv_at hl 0 rfl) ?_
  refine lv_bipush (v := 32) hx hb d_Li_init_29 (by decide) ?_
  refine ep_size (fun hub => ?_)
  have hlb : a + 3 < H.size := (hP 3 _ rfl).lt
  have hsz1 : H.size = a + 4 := by omega
  clear hub hlb
  refine ep_newa (atype := .int) (ty := .int) (h := a + 4) (cA := cI) (a0 := (32, .inl z32)) hx hb (hg _ tw_72) rfl hK 0 rfl (fun h => h) hP hD hS hA rfl (nI_pos (n := 32) (by decide)) (nI_clamp (n := 32) (by decide)) (by show 32 * 4 ≤ 536870912; decide) (by show 3 + 1 ≤ 6; decide) (by show 96 + 32 ≤ 192; decide) d_Li_init_31 hsz1 (fun H hP hD hS hsz => ?_)
  refine W.widen (k := 4) (n := 128) (by decide) (by decide) ?_
  clear hsz hsz1
  have hP : va_P D cls ([(a, .inr (1, [.int 0, .ref (a + 1), .ref (a + 2), .ref (a + 3), .null, .null, .null])), (a + 1, .inl (cI, 32, .inl z32)), (a + 2, .inl (cI, 32, .inl z32)), (a + 3, .inl (cI, 32, .inl z32)), (a + 4, .inl (cI, 32, .inl z32))]) H := hP
  have hD : va_D (fun q => a ≤ q) ([(a, .inr (1, [.int 0, .ref (a + 1), .ref (a + 2), .ref (a + 3), .null, .null, .null])), (a + 1, .inl (cI, 32, .inl z32)), (a + 2, .inl (cI, 32, .inl z32)), (a + 3, .inl (cI, 32, .inl z32)), (a + 4, .inl (cI, 32, .inl z32))]) := hD
  refine va_putF (D := D) (ci := 1) (v := .ref (a + 4)) (ty := (.array .int)) (C := R_Li) (T := F_Li) (N := 7) hx hb hg in_Li t_Li t_Li_ok n_Li hown hK hP hD hS 0 rfl rfl 4 (Nat.le_of_ble_eq_true rfl) (hg _ tw_51) (fun _ h9 => h9) rfl hmn rfl (by decide +kernel) rfl rfl (Nat.le_of_ble_eq_true rfl) d_Li_init_33 (fun H locs hP hD hS => ?_)
  have hP : va_P D cls ([(a, .inr (1, [.int 0, .ref (a + 1), .ref (a + 2), .ref (a + 3), .ref (a + 4), .null, .null])), (a + 1, .inl (cI, 32, .inl z32)), (a + 2, .inl (cI, 32, .inl z32)), (a + 3, .inl (cI, 32, .inl z32)), (a + 4, .inl (cI, 32, .inl z32))]) H := hP
  have hD : va_D (fun q => a ≤ q) ([(a, .inr (1, [.int 0, .ref (a + 1), .ref (a + 2), .ref (a + 3), .ref (a + 4), .null, .null])), (a + 1, .inl (cI, 32, .inl z32)), (a + 2, .inl (cI, 32, .inl z32)), (a + 3, .inl (cI, 32, .inl z32)), (a + 4, .inl (cI, 32, .inl z32))]) := hD
  refine lv_aload_n hx hb d_Li_init_36 rfl (lv_at hl 0 rfl) ?_
  refine lv_bipush (v := 32) hx hb d_Li_init_37 (by decide) ?_
  refine ep_size (fun hub => ?_)
  have hlb : a + 4 < H.size := (hP 4 _ rfl).lt
  have hsz1 : H.size = a + 5 := by omega
  clear hub hlb
  refine ep_newa (atype := .long) (ty := .long) (h := a + 5) (cA := cJ) (a0 := (32, .inr (.inl z64))) hx hb (hg _ tw_73) rfl hK 1 rfl (fun h => h) hP hD hS hA rfl (nI_pos (n := 32) (by decide)) (nI_clamp (n := 32) (by decide)) (by show 32 * 8 ≤ 536870912; decide) (by show 4 + 1 ≤ 6; decide) (by show 128 + 32 ≤ 192; decide) d_Li_init_39 hsz1 (fun H hP hD hS hsz => ?_)
  refine W.widen (k := 5) (n := 160) (by decide) (by decide) ?_
  clear hsz hsz1
  have hP : va_P D cls ([(a, .inr (1, [.int 0, .ref (a + 1), .ref (a + 2), .ref (a + 3), .ref (a + 4), .null, .null])), (a + 1, .inl (cI, 32, .inl z32)), (a + 2, .inl (cI, 32, .inl z32)), (a + 3, .inl (cI, 32, .inl z32)), (a + 4, .inl (cI, 32, .inl z32)), (a + 5, .inl (cJ, 32, .inr (.inl z64)))]) H := hP
  have hD : va_D (fun q => a ≤ q) ([(a, .inr (1, [.int 0, .ref (a + 1), .ref (a + 2), .ref (a + 3), .ref (a + 4), .null, .null])), (a + 1, .inl (cI, 32, .inl z32)), (a + 2, .inl (cI, 32, .inl z32)), (a + 3, .inl (cI, 32, .inl z32)), (a + 4, .inl (cI, 32, .inl z32)), (a + 5, .inl (cJ, 32, .inr (.inl z64)))]) := hD
  refine va_putF (D := D) (ci := 1) (v := .ref (a + 5)) (ty := (.array .long)) (C := R_Li) (T := F_Li) (N := 7) hx hb hg in_Li t_Li t_Li_ok n_Li hown hK hP hD hS 0 rfl rfl 5 (Nat.le_of_ble_eq_true rfl) (hg _ tw_53) (fun _ h9 => h9) rfl hmn rfl (by decide +kernel) rfl rfl (Nat.le_of_ble_eq_true rfl) d_Li_init_41 (fun H locs hP hD hS => ?_)
  have hP : va_P D cls ([(a, .inr (1, [.int 0, .ref (a + 1), .ref (a + 2), .ref (a + 3), .ref (a + 4), .ref (a + 5), .null])), (a + 1, .inl (cI, 32, .inl z32)), (a + 2, .inl (cI, 32, .inl z32)), (a + 3, .inl (cI, 32, .inl z32)), (a + 4, .inl (cI, 32, .inl z32)), (a + 5, .inl (cJ, 32, .inr (.inl z64)))]) H := hP
  have hD : va_D (fun q => a ≤ q) ([(a, .inr (1, [.int 0, .ref (a + 1), .ref (a + 2), .ref (a + 3), .ref (a + 4), .ref (a + 5), .null])), (a + 1, .inl (cI, 32, .inl z32)), (a + 2, .inl (cI, 32, .inl z32)), (a + 3, .inl (cI, 32, .inl z32)), (a + 4, .inl (cI, 32, .inl z32)), (a + 5, .inl (cJ, 32, .inr (.inl z64)))]) := hD
  refine lv_aload_n hx hb d_Li_init_44 rfl (lv_at hl 0 rfl) ?_
  refine lv_bipush (v := 32) hx hb d_Li_init_45 (by decide) ?_
  refine ep_size (fun hub => ?_)
  have hlb : a + 5 < H.size := (hP 5 _ rfl).lt
  have hsz1 : H.size = a + 6 := by omega
  clear hub hlb
  refine ep_newa (atype := .boolean) (ty := .boolean) (h := a + 6) (cA := cZ) (a0 := (32, .inl z32)) hx hb (hg _ tw_74) rfl hK 2 rfl (fun h => h) hP hD hS hA rfl (nI_pos (n := 32) (by decide)) (nI_clamp (n := 32) (by decide)) (by show 32 * 1 ≤ 536870912; decide) (by show 5 + 1 ≤ 6; decide) (by show 160 + 32 ≤ 192; decide) d_Li_init_47 hsz1 (fun H hP hD hS hsz => ?_)
  refine W.widen (k := 6) (n := 192) (by decide) (by decide) ?_
  clear hsz hsz1
  have hP : va_P D cls ([(a, .inr (1, [.int 0, .ref (a + 1), .ref (a + 2), .ref (a + 3), .ref (a + 4), .ref (a + 5), .null])), (a + 1, .inl (cI, 32, .inl z32)), (a + 2, .inl (cI, 32, .inl z32)), (a + 3, .inl (cI, 32, .inl z32)), (a + 4, .inl (cI, 32, .inl z32)), (a + 5, .inl (cJ, 32, .inr (.inl z64))), (a + 6, .inl (cZ, 32, .inl z32))]) H := hP
  have hD : va_D (fun q => a ≤ q) ([(a, .inr (1, [.int 0, .ref (a + 1), .ref (a + 2), .ref (a + 3), .ref (a + 4), .ref (a + 5), .null])), (a + 1, .inl (cI, 32, .inl z32)), (a + 2, .inl (cI, 32, .inl z32)), (a + 3, .inl (cI, 32, .inl z32)), (a + 4, .inl (cI, 32, .inl z32)), (a + 5, .inl (cJ, 32, .inr (.inl z64))), (a + 6, .inl (cZ, 32, .inl z32))]) := hD
  refine va_putF (D := D) (ci := 1) (v := .ref (a + 6)) (ty := (.array .boolean)) (C := R_Li) (T := F_Li) (N := 7) hx hb hg in_Li t_Li t_Li_ok n_Li hown hK hP hD hS 0 rfl rfl 6 (Nat.le_of_ble_eq_true rfl) (hg _ tw_55) (fun _ h9 => h9) rfl hmn rfl (by decide +kernel) rfl rfl (Nat.le_of_ble_eq_true rfl) d_Li_init_49 (fun H locs hP hD hS => ?_)
  have hP : va_P D cls ([(a, .inr (1, [.int 0, .ref (a + 1), .ref (a + 2), .ref (a + 3), .ref (a + 4), .ref (a + 5), .ref (a + 6)])), (a + 1, .inl (cI, 32, .inl z32)), (a + 2, .inl (cI, 32, .inl z32)), (a + 3, .inl (cI, 32, .inl z32)), (a + 4, .inl (cI, 32, .inl z32)), (a + 5, .inl (cJ, 32, .inr (.inl z64))), (a + 6, .inl (cZ, 32, .inl z32))]) H := hP
  have hD : va_D (fun q => a ≤ q) ([(a, .inr (1, [.int 0, .ref (a + 1), .ref (a + 2), .ref (a + 3), .ref (a + 4), .ref (a + 5), .ref (a + 6)])), (a + 1, .inl (cI, 32, .inl z32)), (a + 2, .inl (cI, 32, .inl z32)), (a + 3, .inl (cI, 32, .inl z32)), (a + 4, .inl (cI, 32, .inl z32)), (a + 5, .inl (cJ, 32, .inr (.inl z64))), (a + 6, .inl (cZ, 32, .inl z32))]) := hD
  exact W.vret hx hb hr (fun t9 ht hW => ⟨rfl, hS.F ht, by rw [ht]; exact hP⟩) hS.2.2 d_Li_init_52

set_option maxHeartbeats 4000000 in
theorem m_Ct_init (l : Launch) (D : va_G) (cI cJ cZ cO : ClassId) (b : Nat) : Met l y_Ct_init (k_Ct_init :: gt) rm_Ct_init (Pc0 D cI cJ cZ cO [.ref b] (fun H => True)) (Qp none) 0 0 (fun _ => False) := by
  refine Met.ofW (cc := c_Ct_init) (maxL := 1) (ret := none) (by decide) rfl ?_
  intro p e s m args below meth c s₁ B hml hv
  obtain ⟨rfl, hKn, -⟩ := hv
  have hx := B.exec
  have hb := B.bytes
  have hr := B.returns
  have hts := atoms_spec (ws := k_Ct_init :: gt) B.pre
  have hg : ∀ w ∈ gt, w.before _ s = true := fun w h => hts w (List.mem_cons_of_mem _ h)
  have hown : s.vm.findClass R_Ct = some m.cls := findClass_of_methodNamed B.named
  have hlocks := B.notSynchronized
  have hK := hKn.1
  have hl := lv_entry ([.ref b]) (n := 1) (Nat.le_of_ble_eq_true rfl)
  rw [lg_entry_eq]
  generalize (lg_sl ([.ref b]) ++ List.replicate (1 - (lg_sl ([.ref b])).length) Slot.unset).toArray = ls at hl ⊢
  have hl : lv_has ls 1 [(0, .ref b)] := hl
  refine lv_aload_n hx hb d_Ct_init_0 rfl (lv_at hl 0 rfl) ?_
  refine W.objInit hx hb hown (hg _ tw_99) (hg _ tw_28) (hg _ tk_Ob_init) rfl (hl.1.trans hml.symm) rfl d_Ct_init_1 (Nat.le_of_ble_eq_true rfl) (Nat.le_of_ble_eq_true rfl) ?_
  refine W.eq (g2 := F0 m 4 ls []) rfl ?_
  exact W.vret hx hb hr (fun t9 ht hW => ⟨rfl, ht⟩) (fun q h => nomatch h) d_Ct_init_4

abbrev rc_Ba_init_Qu : Room := { frames := 2, cells := 1, slots := 32, locals := 40 }
set_option maxHeartbeats 4000000 in
set_option maxRecDepth 100000 in
theorem m_Ba_init_Qu (l : Launch) (D : va_G) (cI cJ cZ cO : ClassId) (b : Nat) : Met l y_Ba_init (k_Ba_init :: gt) rc_Ba_init_Qu (Pc0 D cI cJ cZ cO [.ref b] (fun H => va_P D cls ([(b, .inr (2, [.null, .int 0, .long 0, .int 0]))]) H ∧ H.size = b + 1)) (Qd (fun q => b ≤ q) none (fun H => va_P D cls (wBa cI 2 b 0 z32 0 0) H)) 1 32 (fun q => b ≤ q) := by
  refine Met.ofW (cc := c_Ba_init) (maxL := 1) (ret := none) (by decide) rfl ?_
  intro p e s m args below meth c s₁ B hml hv
  obtain ⟨rfl, hKn, hP, hsz0⟩ := hv
  have hx := B.exec
  have hb := B.bytes
  have hr := B.returns
  have hts := atoms_spec (ws := k_Ba_init :: gt) B.pre
  have hg : ∀ w ∈ gt, w.before _ s = true := fun w h => hts w (List.mem_cons_of_mem _ h)
  have hown : s.vm.findClass R_Ba = some m.cls := findClass_of_methodNamed B.named
  have hlocks := B.notSynchronized
  have hK := hKn.1
  have hl := lv_entry ([.ref b]) (n := 1) (Nat.le_of_ble_eq_true rfl)
  rw [lg_entry_eq]
  generalize (lg_sl ([.ref b]) ++ List.replicate (1 - (lg_sl ([.ref b])).length) Slot.unset).toArray = ls at hl ⊢
  have hl : lv_has ls 1 [(0, .ref b)] := hl
  have hmn : meth.name = "<init>" := (name_of_methodNamed B.named B.method).1
  have hS : va_S (fun q => b ≤ q) s.heap s.heap [] := va_S.rf
  have hA : ∀ q, s.heap.size ≤ q → b ≤ q := by intro q h9; omega
  have hD : va_D (fun q => b ≤ q) ([(b, .inr (2, [.null, .int 0, .long 0, .int 0]))]) := one_D (Nat.le_refl _)
  refine lv_aload_n hx hb d_Ba_init_0 rfl (lv_at hl 0 rfl) ?_
  refine ep_callP (ep_toC (va_runIN (b := b) (As := []) (rest := []) ⟨hx, hb, hml, hown, hg⟩ (m_Ct_init l D cI cJ cZ cO b) (⟨ep_cnB (host := "EditablePast") 0 hg tk_Ct_init rfl rfl (hKn.2.1 ("EditablePast$Bag", 3, ⟨"EditablePast$Contents", "<init>", "()V"⟩) (by decide +kernel)) tw_4 (by decide +kernel) ⟨(Nat.le_of_ble_eq_true rfl), (Nat.le_of_ble_eq_true rfl)⟩, rfl, hg _ tw_97⟩) ⟨ep_blind, ep_pre hKn (trivial)⟩ rfl rfl hl.1 rfl (lv_room (Nat.le_of_ble_eq_true rfl)) d_Ba_init_1 ⟨(Nat.le_of_ble_eq_true rfl), (Nat.le_of_ble_eq_true rfl)⟩)) ?_
  refine W.eq (g2 := F0 m 4 ls []) rfl ?_
  refine lv_aload_n hx hb d_Ba_init_4 rfl (lv_at hl 0 rfl) ?_
  refine lv_bipush (v := 32) hx hb d_Ba_init_5 (by decide) ?_
  refine ep_size (fun hub => ?_)
  have hlb : b < s.heap.size := (hP 0 _ rfl).lt
  have hsz1 : s.heap.size = b + 1 := by omega
  clear hub hlb
  refine ep_newa (atype := .int) (ty := .int) (h := b + 1) (cA := cI) (a0 := (32, .inl z32)) hx hb (hg _ tw_72) rfl hK 0 rfl (fun h => h) hP hD hS hA rfl (nI_pos (n := 32) (by decide)) (nI_clamp (n := 32) (by decide)) (by show 32 * 4 ≤ 536870912; decide) (by show 0 + 1 ≤ 1; decide) (by show 0 + 32 ≤ 32; decide) d_Ba_init_7 hsz1 (fun H hP hD hS hsz => ?_)
  refine W.widen (k := 1) (n := 32) (by decide) (by decide) ?_
  clear hsz hsz1
  have hP : va_P D cls ([(b, .inr (2, [.null, .int 0, .long 0, .int 0])), (b + 1, .inl (cI, 32, .inl z32))]) H := hP
  have hD : va_D (fun q => b ≤ q) ([(b, .inr (2, [.null, .int 0, .long 0, .int 0])), (b + 1, .inl (cI, 32, .inl z32))]) := hD
  refine va_putF (D := D) (ci := 2) (v := .ref (b + 1)) (ty := (.array .int)) (C := R_Qu) (T := F_Qu) (N := 4) hx hb hg in_Qu t_Qu t_Qu_ok n_Qu hown hK hP hD hS 0 rfl rfl 0 (Nat.le_of_ble_eq_true rfl) (hg _ tw_100) (fun _ h9 => h9) rfl hmn rfl (by decide +kernel) rfl rfl (Nat.le_of_ble_eq_true rfl) d_Ba_init_9 (fun H locs hP hD hS => ?_)
  have hP : va_P D cls ([(b, .inr (2, [.ref (b + 1), .int 0, .long 0, .int 0])), (b + 1, .inl (cI, 32, .inl z32))]) H := hP
  have hD : va_D (fun q => b ≤ q) ([(b, .inr (2, [.ref (b + 1), .int 0, .long 0, .int 0])), (b + 1, .inl (cI, 32, .inl z32))]) := hD
  exact W.vret hx hb hr (fun t9 ht hW => ⟨rfl, hS.F ht, by rw [ht]; exact hP⟩) hS.2.2 d_Ba_init_12

abbrev rc_Ba_init_St : Room := { frames := 2, cells := 1, slots := 32, locals := 40 }
set_option maxHeartbeats 4000000 in
set_option maxRecDepth 100000 in
theorem m_Ba_init_St (l : Launch) (D : va_G) (cI cJ cZ cO : ClassId) (b : Nat) : Met l y_Ba_init (k_Ba_init :: gt) rc_Ba_init_St (Pc0 D cI cJ cZ cO [.ref b] (fun H => va_P D cls ([(b, .inr (3, [.null, .int 0, .long 0, .int 0]))]) H ∧ H.size = b + 1)) (Qd (fun q => b ≤ q) none (fun H => va_P D cls (wBa cI 3 b 0 z32 0 0) H)) 1 32 (fun q => b ≤ q) := by
  refine Met.ofW (cc := c_Ba_init) (maxL := 1) (ret := none) (by decide) rfl ?_
  intro p e s m args below meth c s₁ B hml hv
  obtain ⟨rfl, hKn, hP, hsz0⟩ := hv
  have hx := B.exec
  have hb := B.bytes
  have hr := B.returns
  have hts := atoms_spec (ws := k_Ba_init :: gt) B.pre
  have hg : ∀ w ∈ gt, w.before _ s = true := fun w h => hts w (List.mem_cons_of_mem _ h)
  have hown : s.vm.findClass R_Ba = some m.cls := findClass_of_methodNamed B.named
  have hlocks := B.notSynchronized
  have hK := hKn.1
  have hl := lv_entry ([.ref b]) (n := 1) (Nat.le_of_ble_eq_true rfl)
  rw [lg_entry_eq]
  generalize (lg_sl ([.ref b]) ++ List.replicate (1 - (lg_sl ([.ref b])).length) Slot.unset).toArray = ls at hl ⊢
  have hl : lv_has ls 1 [(0, .ref b)] := hl
  have hmn : meth.name = "<init>" := (name_of_methodNamed B.named B.method).1
  have hS : va_S (fun q => b ≤ q) s.heap s.heap [] := va_S.rf
  have hA : ∀ q, s.heap.size ≤ q → b ≤ q := by intro q h9; omega
  have hD : va_D (fun q => b ≤ q) ([(b, .inr (3, [.null, .int 0, .long 0, .int 0]))]) := one_D (Nat.le_refl _)
  refine lv_aload_n hx hb d_Ba_init_0 rfl (lv_at hl 0 rfl) ?_
  refine ep_callP (ep_toC (va_runIN (b := b) (As := []) (rest := []) ⟨hx, hb, hml, hown, hg⟩ (m_Ct_init l D cI cJ cZ cO b) (⟨ep_cnB (host := "EditablePast") 0 hg tk_Ct_init rfl rfl (hKn.2.1 ("EditablePast$Bag", 3, ⟨"EditablePast$Contents", "<init>", "()V"⟩) (by decide +kernel)) tw_4 (by decide +kernel) ⟨(Nat.le_of_ble_eq_true rfl), (Nat.le_of_ble_eq_true rfl)⟩, rfl, hg _ tw_97⟩) ⟨ep_blind, ep_pre hKn (trivial)⟩ rfl rfl hl.1 rfl (lv_room (Nat.le_of_ble_eq_true rfl)) d_Ba_init_1 ⟨(Nat.le_of_ble_eq_true rfl), (Nat.le_of_ble_eq_true rfl)⟩)) ?_
  refine W.eq (g2 := F0 m 4 ls []) rfl ?_
  refine lv_aload_n hx hb d_Ba_init_4 rfl (lv_at hl 0 rfl) ?_
  refine lv_bipush (v := 32) hx hb d_Ba_init_5 (by decide) ?_
  refine ep_size (fun hub => ?_)
  have hlb : b < s.heap.size := (hP 0 _ rfl).lt
  have hsz1 : s.heap.size = b + 1 := by omega
  clear hub hlb
  refine ep_newa (atype := .int) (ty := .int) (h := b + 1) (cA := cI) (a0 := (32, .inl z32)) hx hb (hg _ tw_72) rfl hK 0 rfl (fun h => h) hP hD hS hA rfl (nI_pos (n := 32) (by decide)) (nI_clamp (n := 32) (by decide)) (by show 32 * 4 ≤ 536870912; decide) (by show 0 + 1 ≤ 1; decide) (by show 0 + 32 ≤ 32; decide) d_Ba_init_7 hsz1 (fun H hP hD hS hsz => ?_)
  refine W.widen (k := 1) (n := 32) (by decide) (by decide) ?_
  clear hsz hsz1
  have hP : va_P D cls ([(b, .inr (3, [.null, .int 0, .long 0, .int 0])), (b + 1, .inl (cI, 32, .inl z32))]) H := hP
  have hD : va_D (fun q => b ≤ q) ([(b, .inr (3, [.null, .int 0, .long 0, .int 0])), (b + 1, .inl (cI, 32, .inl z32))]) := hD
  refine va_putF (D := D) (ci := 3) (v := .ref (b + 1)) (ty := (.array .int)) (C := R_St) (T := F_St) (N := 4) hx hb hg in_St t_St t_St_ok n_St hown hK hP hD hS 0 rfl rfl 0 (Nat.le_of_ble_eq_true rfl) (hg _ tw_100) (fun _ h9 => h9) rfl hmn rfl (by decide +kernel) rfl rfl (Nat.le_of_ble_eq_true rfl) d_Ba_init_9 (fun H locs hP hD hS => ?_)
  have hP : va_P D cls ([(b, .inr (3, [.ref (b + 1), .int 0, .long 0, .int 0])), (b + 1, .inl (cI, 32, .inl z32))]) H := hP
  have hD : va_D (fun q => b ≤ q) ([(b, .inr (3, [.ref (b + 1), .int 0, .long 0, .int 0])), (b + 1, .inl (cI, 32, .inl z32))]) := hD
  exact W.vret hx hb hr (fun t9 ht hW => ⟨rfl, hS.F ht, by rw [ht]; exact hP⟩) hS.2.2 d_Ba_init_12

abbrev rc_Ba_init_He : Room := { frames := 2, cells := 1, slots := 32, locals := 40 }
set_option maxHeartbeats 4000000 in
set_option maxRecDepth 100000 in
theorem m_Ba_init_He (l : Launch) (D : va_G) (cI cJ cZ cO : ClassId) (b : Nat) : Met l y_Ba_init (k_Ba_init :: gt) rc_Ba_init_He (Pc0 D cI cJ cZ cO [.ref b] (fun H => va_P D cls ([(b, .inr (4, [.null, .int 0, .long 0, .int 0]))]) H ∧ H.size = b + 1)) (Qd (fun q => b ≤ q) none (fun H => va_P D cls (wBa cI 4 b 0 z32 0 0) H)) 1 32 (fun q => b ≤ q) := by
  refine Met.ofW (cc := c_Ba_init) (maxL := 1) (ret := none) (by decide) rfl ?_
  intro p e s m args below meth c s₁ B hml hv
  obtain ⟨rfl, hKn, hP, hsz0⟩ := hv
  have hx := B.exec
  have hb := B.bytes
  have hr := B.returns
  have hts := atoms_spec (ws := k_Ba_init :: gt) B.pre
  have hg : ∀ w ∈ gt, w.before _ s = true := fun w h => hts w (List.mem_cons_of_mem _ h)
  have hown : s.vm.findClass R_Ba = some m.cls := findClass_of_methodNamed B.named
  have hlocks := B.notSynchronized
  have hK := hKn.1
  have hl := lv_entry ([.ref b]) (n := 1) (Nat.le_of_ble_eq_true rfl)
  rw [lg_entry_eq]
  generalize (lg_sl ([.ref b]) ++ List.replicate (1 - (lg_sl ([.ref b])).length) Slot.unset).toArray = ls at hl ⊢
  have hl : lv_has ls 1 [(0, .ref b)] := hl
  have hmn : meth.name = "<init>" := (name_of_methodNamed B.named B.method).1
  have hS : va_S (fun q => b ≤ q) s.heap s.heap [] := va_S.rf
  have hA : ∀ q, s.heap.size ≤ q → b ≤ q := by intro q h9; omega
  have hD : va_D (fun q => b ≤ q) ([(b, .inr (4, [.null, .int 0, .long 0, .int 0]))]) := one_D (Nat.le_refl _)
  refine lv_aload_n hx hb d_Ba_init_0 rfl (lv_at hl 0 rfl) ?_
  refine ep_callP (ep_toC (va_runIN (b := b) (As := []) (rest := []) ⟨hx, hb, hml, hown, hg⟩ (m_Ct_init l D cI cJ cZ cO b) (⟨ep_cnB (host := "EditablePast") 0 hg tk_Ct_init rfl rfl (hKn.2.1 ("EditablePast$Bag", 3, ⟨"EditablePast$Contents", "<init>", "()V"⟩) (by decide +kernel)) tw_4 (by decide +kernel) ⟨(Nat.le_of_ble_eq_true rfl), (Nat.le_of_ble_eq_true rfl)⟩, rfl, hg _ tw_97⟩) ⟨ep_blind, ep_pre hKn (trivial)⟩ rfl rfl hl.1 rfl (lv_room (Nat.le_of_ble_eq_true rfl)) d_Ba_init_1 ⟨(Nat.le_of_ble_eq_true rfl), (Nat.le_of_ble_eq_true rfl)⟩)) ?_
  refine W.eq (g2 := F0 m 4 ls []) rfl ?_
  refine lv_aload_n hx hb d_Ba_init_4 rfl (lv_at hl 0 rfl) ?_
  refine lv_bipush (v := 32) hx hb d_Ba_init_5 (by decide) ?_
  refine ep_size (fun hub => ?_)
  have hlb : b < s.heap.size := (hP 0 _ rfl).lt
  have hsz1 : s.heap.size = b + 1 := by omega
  clear hub hlb
  refine ep_newa (atype := .int) (ty := .int) (h := b + 1) (cA := cI) (a0 := (32, .inl z32)) hx hb (hg _ tw_72) rfl hK 0 rfl (fun h => h) hP hD hS hA rfl (nI_pos (n := 32) (by decide)) (nI_clamp (n := 32) (by decide)) (by show 32 * 4 ≤ 536870912; decide) (by show 0 + 1 ≤ 1; decide) (by show 0 + 32 ≤ 32; decide) d_Ba_init_7 hsz1 (fun H hP hD hS hsz => ?_)
  refine W.widen (k := 1) (n := 32) (by decide) (by decide) ?_
  clear hsz hsz1
  have hP : va_P D cls ([(b, .inr (4, [.null, .int 0, .long 0, .int 0])), (b + 1, .inl (cI, 32, .inl z32))]) H := hP
  have hD : va_D (fun q => b ≤ q) ([(b, .inr (4, [.null, .int 0, .long 0, .int 0])), (b + 1, .inl (cI, 32, .inl z32))]) := hD
  refine va_putF (D := D) (ci := 4) (v := .ref (b + 1)) (ty := (.array .int)) (C := R_He) (T := F_He) (N := 4) hx hb hg in_He t_He t_He_ok n_He hown hK hP hD hS 0 rfl rfl 0 (Nat.le_of_ble_eq_true rfl) (hg _ tw_100) (fun _ h9 => h9) rfl hmn rfl (by decide +kernel) rfl rfl (Nat.le_of_ble_eq_true rfl) d_Ba_init_9 (fun H locs hP hD hS => ?_)
  have hP : va_P D cls ([(b, .inr (4, [.ref (b + 1), .int 0, .long 0, .int 0])), (b + 1, .inl (cI, 32, .inl z32))]) H := hP
  have hD : va_D (fun q => b ≤ q) ([(b, .inr (4, [.ref (b + 1), .int 0, .long 0, .int 0])), (b + 1, .inl (cI, 32, .inl z32))]) := hD
  exact W.vret hx hb hr (fun t9 ht hW => ⟨rfl, hS.F ht, by rw [ht]; exact hP⟩) hS.2.2 d_Ba_init_12

abbrev rc_Qu_init : Room := { frames := 3, cells := 1, slots := 32, locals := 60 }
set_option maxHeartbeats 4000000 in
set_option maxRecDepth 100000 in
theorem m_Qu_init (l : Launch) (D : va_G) (cI cJ cZ cO : ClassId) (b : Nat) : Met l y_Qu_init (k_Qu_init :: gt) rc_Qu_init (Pc0 D cI cJ cZ cO [.ref b] (fun H => va_P D cls ([(b, .inr (2, [.null, .int 0, .long 0, .int 0]))]) H ∧ H.size = b + 1)) (Qd (fun q => b ≤ q) none (fun H => va_P D cls (wBa cI 2 b 0 z32 0 0) H)) 1 32 (fun q => b ≤ q) := by
  refine Met.ofW (cc := c_Qu_init) (maxL := 1) (ret := none) (by decide) rfl ?_
  intro p e s m args below meth c s₁ B hml hv
  obtain ⟨rfl, hKn, hP, hsz0⟩ := hv
  have hx := B.exec
  have hb := B.bytes
  have hr := B.returns
  have hts := atoms_spec (ws := k_Qu_init :: gt) B.pre
  have hg : ∀ w ∈ gt, w.before _ s = true := fun w h => hts w (List.mem_cons_of_mem _ h)
  have hown : s.vm.findClass R_Qu = some m.cls := findClass_of_methodNamed B.named
  have hlocks := B.notSynchronized
  have hK := hKn.1
  have hl := lv_entry ([.ref b]) (n := 1) (Nat.le_of_ble_eq_true rfl)
  rw [lg_entry_eq]
  generalize (lg_sl ([.ref b]) ++ List.replicate (1 - (lg_sl ([.ref b])).length) Slot.unset).toArray = ls at hl ⊢
  have hl : lv_has ls 1 [(0, .ref b)] := hl
  have hmn : meth.name = "<init>" := (name_of_methodNamed B.named B.method).1
  have hS : va_S (fun q => b ≤ q) s.heap s.heap [] := va_S.rf
  have hA : ∀ q, s.heap.size ≤ q → b ≤ q := by intro q h9; omega
  refine lv_aload_n hx hb d_Qu_init_0 rfl (lv_at hl 0 rfl) ?_
  refine ep_callC (ep_toC (va_runIN (b := b) (As := []) (rest := []) ⟨hx, hb, hml, hown, hg⟩ (m_Ba_init_Qu l D cI cJ cZ cO b) (⟨ep_cnB (host := "EditablePast") 0 hg tk_Ba_init rfl rfl (hKn.2.1 ("EditablePast$Queue", 1, ⟨"EditablePast$Bag", "<init>", "()V"⟩) (by decide +kernel)) tw_5 (by decide +kernel) ⟨(Nat.le_of_ble_eq_true rfl), (Nat.le_of_ble_eq_true rfl)⟩, rfl, hg _ tw_94⟩) ⟨ep_blind, ep_pre hKn (⟨hP, hsz0⟩)⟩ rfl rfl hl.1 rfl (lv_room (Nat.le_of_ble_eq_true rfl)) d_Qu_init_1 ⟨(Nat.le_of_ble_eq_true rfl), (Nat.le_of_ble_eq_true rfl)⟩)) hS (by intro q h9; omega) (fun H locs hsz9 hk1 hP1 hS => ?_)
  refine W.eq (g2 := F0 m 4 ls []) rfl ?_
  have hP := hP1
  exact W.vret hx hb hr (fun t9 ht hW => ⟨rfl, hS.F ht, by rw [ht]; exact hP⟩) hS.2.2 d_Qu_init_4

abbrev rc_St_init : Room := { frames := 3, cells := 1, slots := 32, locals := 60 }
set_option maxHeartbeats 4000000 in
set_option maxRecDepth 100000 in
theorem m_St_init (l : Launch) (D : va_G) (cI cJ cZ cO : ClassId) (b : Nat) : Met l y_St_init (k_St_init :: gt) rc_St_init (Pc0 D cI cJ cZ cO [.ref b] (fun H => va_P D cls ([(b, .inr (3, [.null, .int 0, .long 0, .int 0]))]) H ∧ H.size = b + 1)) (Qd (fun q => b ≤ q) none (fun H => va_P D cls (wBa cI 3 b 0 z32 0 0) H)) 1 32 (fun q => b ≤ q) := by
  refine Met.ofW (cc := c_St_init) (maxL := 1) (ret := none) (by decide) rfl ?_
  intro p e s m args below meth c s₁ B hml hv
  obtain ⟨rfl, hKn, hP, hsz0⟩ := hv
  have hx := B.exec
  have hb := B.bytes
  have hr := B.returns
  have hts := atoms_spec (ws := k_St_init :: gt) B.pre
  have hg : ∀ w ∈ gt, w.before _ s = true := fun w h => hts w (List.mem_cons_of_mem _ h)
  have hown : s.vm.findClass R_St = some m.cls := findClass_of_methodNamed B.named
  have hlocks := B.notSynchronized
  have hK := hKn.1
  have hl := lv_entry ([.ref b]) (n := 1) (Nat.le_of_ble_eq_true rfl)
  rw [lg_entry_eq]
  generalize (lg_sl ([.ref b]) ++ List.replicate (1 - (lg_sl ([.ref b])).length) Slot.unset).toArray = ls at hl ⊢
  have hl : lv_has ls 1 [(0, .ref b)] := hl
  have hmn : meth.name = "<init>" := (name_of_methodNamed B.named B.method).1
  have hS : va_S (fun q => b ≤ q) s.heap s.heap [] := va_S.rf
  have hA : ∀ q, s.heap.size ≤ q → b ≤ q := by intro q h9; omega
  refine lv_aload_n hx hb d_St_init_0 rfl (lv_at hl 0 rfl) ?_
  refine ep_callC (ep_toC (va_runIN (b := b) (As := []) (rest := []) ⟨hx, hb, hml, hown, hg⟩ (m_Ba_init_St l D cI cJ cZ cO b) (⟨ep_cnB (host := "EditablePast") 0 hg tk_Ba_init rfl rfl (hKn.2.1 ("EditablePast$Stack", 1, ⟨"EditablePast$Bag", "<init>", "()V"⟩) (by decide +kernel)) tw_5 (by decide +kernel) ⟨(Nat.le_of_ble_eq_true rfl), (Nat.le_of_ble_eq_true rfl)⟩, rfl, hg _ tw_94⟩) ⟨ep_blind, ep_pre hKn (⟨hP, hsz0⟩)⟩ rfl rfl hl.1 rfl (lv_room (Nat.le_of_ble_eq_true rfl)) d_St_init_1 ⟨(Nat.le_of_ble_eq_true rfl), (Nat.le_of_ble_eq_true rfl)⟩)) hS (by intro q h9; omega) (fun H locs hsz9 hk1 hP1 hS => ?_)
  refine W.eq (g2 := F0 m 4 ls []) rfl ?_
  have hP := hP1
  exact W.vret hx hb hr (fun t9 ht hW => ⟨rfl, hS.F ht, by rw [ht]; exact hP⟩) hS.2.2 d_St_init_4

abbrev rc_He_init : Room := { frames := 3, cells := 1, slots := 32, locals := 60 }
set_option maxHeartbeats 4000000 in
set_option maxRecDepth 100000 in
theorem m_He_init (l : Launch) (D : va_G) (cI cJ cZ cO : ClassId) (b : Nat) : Met l y_He_init (k_He_init :: gt) rc_He_init (Pc0 D cI cJ cZ cO [.ref b] (fun H => va_P D cls ([(b, .inr (4, [.null, .int 0, .long 0, .int 0]))]) H ∧ H.size = b + 1)) (Qd (fun q => b ≤ q) none (fun H => va_P D cls (wBa cI 4 b 0 z32 0 0) H)) 1 32 (fun q => b ≤ q) := by
  refine Met.ofW (cc := c_He_init) (maxL := 1) (ret := none) (by decide) rfl ?_
  intro p e s m args below meth c s₁ B hml hv
  obtain ⟨rfl, hKn, hP, hsz0⟩ := hv
  have hx := B.exec
  have hb := B.bytes
  have hr := B.returns
  have hts := atoms_spec (ws := k_He_init :: gt) B.pre
  have hg : ∀ w ∈ gt, w.before _ s = true := fun w h => hts w (List.mem_cons_of_mem _ h)
  have hown : s.vm.findClass R_He = some m.cls := findClass_of_methodNamed B.named
  have hlocks := B.notSynchronized
  have hK := hKn.1
  have hl := lv_entry ([.ref b]) (n := 1) (Nat.le_of_ble_eq_true rfl)
  rw [lg_entry_eq]
  generalize (lg_sl ([.ref b]) ++ List.replicate (1 - (lg_sl ([.ref b])).length) Slot.unset).toArray = ls at hl ⊢
  have hl : lv_has ls 1 [(0, .ref b)] := hl
  have hmn : meth.name = "<init>" := (name_of_methodNamed B.named B.method).1
  have hS : va_S (fun q => b ≤ q) s.heap s.heap [] := va_S.rf
  have hA : ∀ q, s.heap.size ≤ q → b ≤ q := by intro q h9; omega
  refine lv_aload_n hx hb d_He_init_0 rfl (lv_at hl 0 rfl) ?_
  refine ep_callC (ep_toC (va_runIN (b := b) (As := []) (rest := []) ⟨hx, hb, hml, hown, hg⟩ (m_Ba_init_He l D cI cJ cZ cO b) (⟨ep_cnB (host := "EditablePast") 0 hg tk_Ba_init rfl rfl (hKn.2.1 ("EditablePast$Heap", 1, ⟨"EditablePast$Bag", "<init>", "()V"⟩) (by decide +kernel)) tw_5 (by decide +kernel) ⟨(Nat.le_of_ble_eq_true rfl), (Nat.le_of_ble_eq_true rfl)⟩, rfl, hg _ tw_94⟩) ⟨ep_blind, ep_pre hKn (⟨hP, hsz0⟩)⟩ rfl rfl hl.1 rfl (lv_room (Nat.le_of_ble_eq_true rfl)) d_He_init_1 ⟨(Nat.le_of_ble_eq_true rfl), (Nat.le_of_ble_eq_true rfl)⟩)) hS (by intro q h9; omega) (fun H locs hsz9 hk1 hP1 hS => ?_)
  refine W.eq (g2 := F0 m 4 ls []) rfl ?_
  have hP := hP1
  exact W.vret hx hb hr (fun t9 ht hW => ⟨rfl, hS.F ht, by rw [ht]; exact hP⟩) hS.2.2 d_He_init_4
