/-! constructors (by wip/whole/gen/ctor.py) -/
abbrev rc_Md_init : Room := { frames := 1, cells := 14, slots := 1248, locals := 20 }
set_option maxHeartbeats 4000000 in
set_option maxRecDepth 100000 in
theorem m_Md_init (l : Launch) (D : va_G) (cI cJ cZ cO : ClassId) (a : Nat) : Met l y_Md_init (k_Md_init :: gt) rc_Md_init (Pc0 D cI cJ cZ cO [.ref a] (fun H => va_P D cls ([(a, .inr (9, [.int 0, .null, .null, .null, .null, .null, .null, .null, .int 0, .null, .null, .null, .long 0, .null, .null, .null, .null]))]) H ∧ H.size = a + 1)) (Qd (fun q => a ≤ q) none (fun H => va_P D cls (wMo cI cJ cZ a 0 z32 z32 z32 z32 z32 z32 z32 0 z32 z32 z32 0 z64 z32 z64 z32) H)) 14 1248 (fun q => a ≤ q) := by
  refine Met.ofW (cc := c_Md_init) (maxL := 1) (ret := none) (by decide) rfl ?_
  intro p e s m args below meth c s₁ B hml hv
  obtain ⟨rfl, hKn, hP, hsz0⟩ := hv
  have hx := B.exec
  have hb := B.bytes
  have hr := B.returns
  have hts := atoms_spec (ws := k_Md_init :: gt) B.pre
  have hg : ∀ w ∈ gt, w.before _ s = true := fun w h => hts w (List.mem_cons_of_mem _ h)
  have hown : s.vm.findClass R_Md = some m.cls := findClass_of_methodNamed B.named
  have hlocks := B.notSynchronized
  have hK := hKn.1
  have hl := lv_entry ([.ref a]) (n := 1) (Nat.le_of_ble_eq_true rfl)
  rw [lg_entry_eq]
  generalize (lg_sl ([.ref a]) ++ List.replicate (1 - (lg_sl ([.ref a])).length) Slot.unset).toArray = ls at hl ⊢
  have hl : lv_has ls 1 [(0, .ref a)] := hl
  have hmn : meth.name = "<init>" := (name_of_methodNamed B.named B.method).1
  have hS : va_S (fun q => a ≤ q) s.heap s.heap [] := va_S.rf
  have hA : ∀ q, s.heap.size ≤ q → a ≤ q := by intro q h9; omega
  have hD : va_D (fun q => a ≤ q) ([(a, .inr (9, [.int 0, .null, .null, .null, .null, .null, .null, .null, .int 0, .null, .null, .null, .long 0, .null, .null, .null, .null]))]) := one_D (Nat.le_refl _)
  refine lv_aload_n hx hb d_Md_init_0 rfl (lv_at hl 0 rfl) ?_
  refine W.objInit hx hb hown (hg _ tw_705) (hg _ tw_28) (hg _ tk_Ob_init) rfl (hl.1.trans hml.symm) rfl d_Md_init_1 (Nat.le_of_ble_eq_true rfl) (Nat.le_of_ble_eq_true rfl) ?_
  refine W.eq (g2 := F0 m 4 ls []) rfl ?_
  refine lv_aload_n hx hb d_Md_init_4 rfl (lv_at hl 0 rfl) ?_
  refine lv_iconst (v := 4) hx hb d_Md_init_5 (by decide) ?_
  refine ep_size (fun hub => ?_)
  have hlb : a < s.heap.size := (hP 0 _ rfl).lt
  have hsz1 : s.heap.size = a + 1 := by omega
  clear hub hlb
  refine ep_newa (atype := .int) (ty := .int) (h := a + 1) (cA := cI) (a0 := (4, .inl z32)) hx hb (hg _ tw_72) rfl hK 0 rfl (fun h => h) hP hD hS hA rfl (nI_pos (n := 4) (by decide)) (nI_clamp (n := 4) (by decide)) (by show 4 * 4 ≤ 536870912; decide) (by show 0 + 1 ≤ 14; decide) (by show 0 + 4 ≤ 1248; decide) d_Md_init_6 hsz1 (fun H hP hD hS hsz => ?_)
  refine W.widen (k := 1) (n := 4) (by decide) (by decide) ?_
  clear hsz hsz1
  have hP : va_P D cls ([(a, .inr (9, [.int 0, .null, .null, .null, .null, .null, .null, .null, .int 0, .null, .null, .null, .long 0, .null, .null, .null, .null])), (a + 1, .inl (cI, 4, .inl z32))]) H := hP
  have hD : va_D (fun q => a ≤ q) ([(a, .inr (9, [.int 0, .null, .null, .null, .null, .null, .null, .null, .int 0, .null, .null, .null, .long 0, .null, .null, .null, .null])), (a + 1, .inl (cI, 4, .inl z32))]) := hD
  refine va_putF (D := D) (ci := 9) (v := .ref (a + 1)) (ty := (.array .int)) (C := R_Md) (T := F_Md) (N := 17) hx hb hg in_Md t_Md t_Md_ok n_Md hown hK hP hD hS 0 rfl rfl 1 (Nat.le_of_ble_eq_true rfl) (hg _ tw_707) (fun _ h9 => h9) rfl hmn rfl (by decide +kernel) rfl rfl (Nat.le_of_ble_eq_true rfl) d_Md_init_8 (fun H locs hP hD hS => ?_)
  have hP : va_P D cls ([(a, .inr (9, [.int 0, .ref (a + 1), .null, .null, .null, .null, .null, .null, .int 0, .null, .null, .null, .long 0, .null, .null, .null, .null])), (a + 1, .inl (cI, 4, .inl z32))]) H := hP
  have hD : va_D (fun q => a ≤ q) ([(a, .inr (9, [.int 0, .ref (a + 1), .null, .null, .null, .null, .null, .null, .int 0, .null, .null, .null, .long 0, .null, .null, .null, .null])), (a + 1, .inl (cI, 4, .inl z32))]) := hD
  refine lv_aload_n hx hb d_Md_init_11 rfl (lv_at hl 0 rfl) ?_
  refine lv_iconst (v := 4) hx hb d_Md_init_12 (by decide) ?_
  refine ep_size (fun hub => ?_)
  have hlb : a + 1 < H.size := (hP 1 _ rfl).lt
  have hsz1 : H.size = a + 2 := by omega
  clear hub hlb
  refine ep_newa (atype := .boolean) (ty := .boolean) (h := a + 2) (cA := cZ) (a0 := (4, .inl z32)) hx hb (hg _ tw_74) rfl hK 2 rfl (fun h => h) hP hD hS hA rfl (nI_pos (n := 4) (by decide)) (nI_clamp (n := 4) (by decide)) (by show 4 * 1 ≤ 536870912; decide) (by show 1 + 1 ≤ 14; decide) (by show 4 + 4 ≤ 1248; decide) d_Md_init_13 hsz1 (fun H hP hD hS hsz => ?_)
  refine W.widen (k := 2) (n := 8) (by decide) (by decide) ?_
  clear hsz hsz1
  have hP : va_P D cls ([(a, .inr (9, [.int 0, .ref (a + 1), .null, .null, .null, .null, .null, .null, .int 0, .null, .null, .null, .long 0, .null, .null, .null, .null])), (a + 1, .inl (cI, 4, .inl z32)), (a + 2, .inl (cZ, 4, .inl z32))]) H := hP
  have hD : va_D (fun q => a ≤ q) ([(a, .inr (9, [.int 0, .ref (a + 1), .null, .null, .null, .null, .null, .null, .int 0, .null, .null, .null, .long 0, .null, .null, .null, .null])), (a + 1, .inl (cI, 4, .inl z32)), (a + 2, .inl (cZ, 4, .inl z32))]) := hD
  refine va_putF (D := D) (ci := 9) (v := .ref (a + 2)) (ty := (.array .boolean)) (C := R_Md) (T := F_Md) (N := 17) hx hb hg in_Md t_Md t_Md_ok n_Md hown hK hP hD hS 0 rfl rfl 2 (Nat.le_of_ble_eq_true rfl) (hg _ tw_708) (fun _ h9 => h9) rfl hmn rfl (by decide +kernel) rfl rfl (Nat.le_of_ble_eq_true rfl) d_Md_init_15 (fun H locs hP hD hS => ?_)
  have hP : va_P D cls ([(a, .inr (9, [.int 0, .ref (a + 1), .ref (a + 2), .null, .null, .null, .null, .null, .int 0, .null, .null, .null, .long 0, .null, .null, .null, .null])), (a + 1, .inl (cI, 4, .inl z32)), (a + 2, .inl (cZ, 4, .inl z32))]) H := hP
  have hD : va_D (fun q => a ≤ q) ([(a, .inr (9, [.int 0, .ref (a + 1), .ref (a + 2), .null, .null, .null, .null, .null, .int 0, .null, .null, .null, .long 0, .null, .null, .null, .null])), (a + 1, .inl (cI, 4, .inl z32)), (a + 2, .inl (cZ, 4, .inl z32))]) := hD
  refine lv_aload_n hx hb d_Md_init_18 rfl (lv_at hl 0 rfl) ?_
  refine lv_bipush (v := 8) hx hb d_Md_init_19 (by decide) ?_
  refine ep_size (fun hub => ?_)
  have hlb : a + 2 < H.size := (hP 2 _ rfl).lt
  have hsz1 : H.size = a + 3 := by omega
  clear hub hlb
  refine ep_newa (atype := .int) (ty := .int) (h := a + 3) (cA := cI) (a0 := (8, .inl z32)) hx hb (hg _ tw_72) rfl hK 0 rfl (fun h => h) hP hD hS hA rfl (nI_pos (n := 8) (by decide)) (nI_clamp (n := 8) (by decide)) (by show 8 * 4 ≤ 536870912; decide) (by show 2 + 1 ≤ 14; decide) (by show 8 + 8 ≤ 1248; decide) d_Md_init_21 hsz1 (fun H hP hD hS hsz => ?_)
  refine W.widen (k := 3) (n := 16) (by decide) (by decide) ?_
  clear hsz hsz1
  have hP : va_P D cls ([(a, .inr (9, [.int 0, .ref (a + 1), .ref (a + 2), .null, .null, .null, .null, .null, .int 0, .null, .null, .null, .long 0, .null, .null, .null, .null])), (a + 1, .inl (cI, 4, .inl z32)), (a + 2, .inl (cZ, 4, .inl z32)), (a + 3, .inl (cI, 8, .inl z32))]) H := hP
  have hD : va_D (fun q => a ≤ q) ([(a, .inr (9, [.int 0, .ref (a + 1), .ref (a + 2), .null, .null, .null, .null, .null, .int 0, .null, .null, .null, .long 0, .null, .null, .null, .null])), (a + 1, .inl (cI, 4, .inl z32)), (a + 2, .inl (cZ, 4, .inl z32)), (a + 3, .inl (cI, 8, .inl z32))]) := hD
  refine va_putF (D := D) (ci := 9) (v := .ref (a + 3)) (ty := (.array .int)) (C := R_Md) (T := F_Md) (N := 17) hx hb hg in_Md t_Md t_Md_ok n_Md hown hK hP hD hS 0 rfl rfl 3 (Nat.le_of_ble_eq_true rfl) (hg _ tw_709) (fun _ h9 => h9) rfl hmn rfl (by decide +kernel) rfl rfl (Nat.le_of_ble_eq_true rfl) d_Md_init_23 (fun H locs hP hD hS => ?_)
  have hP : va_P D cls ([(a, .inr (9, [.int 0, .ref (a + 1), .ref (a + 2), .ref (a + 3), .null, .null, .null, .null, .int 0, .null, .null, .null, .long 0, .null, .null, .null, .null])), (a + 1, .inl (cI, 4, .inl z32)), (a + 2, .inl (cZ, 4, .inl z32)), (a + 3, .inl (cI, 8, .inl z32))]) H := hP
  have hD : va_D (fun q => a ≤ q) ([(a, .inr (9, [.int 0, .ref (a + 1), .ref (a + 2), .ref (a + 3), .null, .null, .null, .null, .int 0, .null, .null, .null, .long 0, .null, .null, .null, .null])), (a + 1, .inl (cI, 4, .inl z32)), (a + 2, .inl (cZ, 4, .inl z32)), (a + 3, .inl (cI, 8, .inl z32))]) := hD
  refine lv_aload_n hx hb d_Md_init_26 rfl (lv_at hl 0 rfl) ?_
  refine lv_sipush (v := 256) hx hb d_Md_init_27 (by decide) ?_
  refine ep_size (fun hub => ?_)
  have hlb : a + 3 < H.size := (hP 3 _ rfl).lt
  have hsz1 : H.size = a + 4 := by omega
  clear hub hlb
  refine ep_newa (atype := .int) (ty := .int) (h := a + 4) (cA := cI) (a0 := (256, .inl z32)) hx hb (hg _ tw_72) rfl hK 0 rfl (fun h => h) hP hD hS hA rfl (nI_pos (n := 256) (by decide)) (nI_clamp (n := 256) (by decide)) (by show 256 * 4 ≤ 536870912; decide) (by show 3 + 1 ≤ 14; decide) (by show 16 + 256 ≤ 1248; decide) d_Md_init_30 hsz1 (fun H hP hD hS hsz => ?_)
  refine W.widen (k := 4) (n := 272) (by decide) (by decide) ?_
  clear hsz hsz1
  have hP : va_P D cls ([(a, .inr (9, [.int 0, .ref (a + 1), .ref (a + 2), .ref (a + 3), .null, .null, .null, .null, .int 0, .null, .null, .null, .long 0, .null, .null, .null, .null])), (a + 1, .inl (cI, 4, .inl z32)), (a + 2, .inl (cZ, 4, .inl z32)), (a + 3, .inl (cI, 8, .inl z32)), (a + 4, .inl (cI, 256, .inl z32))]) H := hP
  have hD : va_D (fun q => a ≤ q) ([(a, .inr (9, [.int 0, .ref (a + 1), .ref (a + 2), .ref (a + 3), .null, .null, .null, .null, .int 0, .null, .null, .null, .long 0, .null, .null, .null, .null])), (a + 1, .inl (cI, 4, .inl z32)), (a + 2, .inl (cZ, 4, .inl z32)), (a + 3, .inl (cI, 8, .inl z32)), (a + 4, .inl (cI, 256, .inl z32))]) := hD
  refine va_putF (D := D) (ci := 9) (v := .ref (a + 4)) (ty := (.array .int)) (C := R_Md) (T := F_Md) (N := 17) hx hb hg in_Md t_Md t_Md_ok n_Md hown hK hP hD hS 0 rfl rfl 4 (Nat.le_of_ble_eq_true rfl) (hg _ tw_710) (fun _ h9 => h9) rfl hmn rfl (by decide +kernel) rfl rfl (Nat.le_of_ble_eq_true rfl) d_Md_init_32 (fun H locs hP hD hS => ?_)
  have hP : va_P D cls ([(a, .inr (9, [.int 0, .ref (a + 1), .ref (a + 2), .ref (a + 3), .ref (a + 4), .null, .null, .null, .int 0, .null, .null, .null, .long 0, .null, .null, .null, .null])), (a + 1, .inl (cI, 4, .inl z32)), (a + 2, .inl (cZ, 4, .inl z32)), (a + 3, .inl (cI, 8, .inl z32)), (a + 4, .inl (cI, 256, .inl z32))]) H := hP
  have hD : va_D (fun q => a ≤ q) ([(a, .inr (9, [.int 0, .ref (a + 1), .ref (a + 2), .ref (a + 3), .ref (a + 4), .null, .null, .null, .int 0, .null, .null, .null, .long 0, .null, .null, .null, .null])), (a + 1, .inl (cI, 4, .inl z32)), (a + 2, .inl (cZ, 4, .inl z32)), (a + 3, .inl (cI, 8, .inl z32)), (a + 4, .inl (cI, 256, .inl z32))]) := hD
  refine lv_aload_n hx hb d_Md_init_35 rfl (lv_at hl 0 rfl) ?_
  refine lv_sipush (v := 256) hx hb d_Md_init_36 (by decide) ?_
  refine ep_size (fun hub => ?_)
  have hlb : a + 4 < H.size := (hP 4 _ rfl).lt
  have hsz1 : H.size = a + 5 := by omega
  clear hub hlb
  refine ep_newa (atype := .int) (ty := .int) (h := a + 5) (cA := cI) (a0 := (256, .inl z32)) hx hb (hg _ tw_72) rfl hK 0 rfl (fun h => h) hP hD hS hA rfl (nI_pos (n := 256) (by decide)) (nI_clamp (n := 256) (by decide)) (by show 256 * 4 ≤ 536870912; decide) (by show 4 + 1 ≤ 14; decide) (by show 272 + 256 ≤ 1248; decide) d_Md_init_39 hsz1 (fun H hP hD hS hsz => ?_)
  refine W.widen (k := 5) (n := 528) (by decide) (by decide) ?_
  clear hsz hsz1
  have hP : va_P D cls ([(a, .inr (9, [.int 0, .ref (a + 1), .ref (a + 2), .ref (a + 3), .ref (a + 4), .null, .null, .null, .int 0, .null, .null, .null, .long 0, .null, .null, .null, .null])), (a + 1, .inl (cI, 4, .inl z32)), (a + 2, .inl (cZ, 4, .inl z32)), (a + 3, .inl (cI, 8, .inl z32)), (a + 4, .inl (cI, 256, .inl z32)), (a + 5, .inl (cI, 256, .inl z32))]) H := hP
  have hD : va_D (fun q => a ≤ q) ([(a, .inr (9, [.int 0, .ref (a + 1), .ref (a + 2), .ref (a + 3), .ref (a + 4), .null, .null, .null, .int 0, .null, .null, .null, .long 0, .null, .null, .null, .null])), (a + 1, .inl (cI, 4, .inl z32)), (a + 2, .inl (cZ, 4, .inl z32)), (a + 3, .inl (cI, 8, .inl z32)), (a + 4, .inl (cI, 256, .inl z32)), (a + 5, .inl (cI, 256, .inl z32))]) := hD
  refine va_putF (D := D) (ci := 9) (v := .ref (a + 5)) (ty := (.array .int)) (C := R_Md) (T := F_Md) (N := 17) hx hb hg in_Md t_Md t_Md_ok n_Md hown hK hP hD hS 0 rfl rfl 5 (Nat.le_of_ble_eq_true rfl) (hg _ tw_711) (fun _ h9 => h9) rfl hmn rfl (by decide +kernel) rfl rfl (Nat.le_of_ble_eq_true rfl) d_Md_init_41 (fun H locs hP hD hS => ?_)
  have hP : va_P D cls ([(a, .inr (9, [.int 0, .ref (a + 1), .ref (a + 2), .ref (a + 3), .ref (a + 4), .ref (a + 5), .null, .null, .int 0, .null, .null, .null, .long 0, .null, .null, .null, .null])), (a + 1, .inl (cI, 4, .inl z32)), (a + 2, .inl (cZ, 4, .inl z32)), (a + 3, .inl (cI, 8, .inl z32)), (a + 4, .inl (cI, 256, .inl z32)), (a + 5, .inl (cI, 256, .inl z32))]) H := hP
  have hD : va_D (fun q => a ≤ q) ([(a, .inr (9, [.int 0, .ref (a + 1), .ref (a + 2), .ref (a + 3), .ref (a + 4), .ref (a + 5), .null, .null, .int 0, .null, .null, .null, .long 0, .null, .null, .null, .null])), (a + 1, .inl (cI, 4, .inl z32)), (a + 2, .inl (cZ, 4, .inl z32)), (a + 3, .inl (cI, 8, .inl z32)), (a + 4, .inl (cI, 256, .inl z32)), (a + 5, .inl (cI, 256, .inl z32))]) := hD
  refine lv_aload_n hx hb d_Md_init_44 rfl (lv_at hl 0 rfl) ?_
  refine lv_sipush (v := 256) hx hb d_Md_init_45 (by decide) ?_
  refine ep_size (fun hub => ?_)
  have hlb : a + 5 < H.size := (hP 5 _ rfl).lt
  have hsz1 : H.size = a + 6 := by omega
  clear hub hlb
  refine ep_newa (atype := .int) (ty := .int) (h := a + 6) (cA := cI) (a0 := (256, .inl z32)) hx hb (hg _ tw_72) rfl hK 0 rfl (fun h => h) hP hD hS hA rfl (nI_pos (n := 256) (by decide)) (nI_clamp (n := 256) (by decide)) (by show 256 * 4 ≤ 536870912; decide) (by show 5 + 1 ≤ 14; decide) (by show 528 + 256 ≤ 1248; decide) d_Md_init_48 hsz1 (fun H hP hD hS hsz => ?_)
  refine W.widen (k := 6) (n := 784) (by decide) (by decide) ?_
  clear hsz hsz1
  have hP : va_P D cls ([(a, .inr (9, [.int 0, .ref (a + 1), .ref (a + 2), .ref (a + 3), .ref (a + 4), .ref (a + 5), .null, .null, .int 0, .null, .null, .null, .long 0, .null, .null, .null, .null])), (a + 1, .inl (cI, 4, .inl z32)), (a + 2, .inl (cZ, 4, .inl z32)), (a + 3, .inl (cI, 8, .inl z32)), (a + 4, .inl (cI, 256, .inl z32)), (a + 5, .inl (cI, 256, .inl z32)), (a + 6, .inl (cI, 256, .inl z32))]) H := hP
  have hD : va_D (fun q => a ≤ q) ([(a, .inr (9, [.int 0, .ref (a + 1), .ref (a + 2), .ref (a + 3), .ref (a + 4), .ref (a + 5), .null, .null, .int 0, .null, .null, .null, .long 0, .null, .null, .null, .null])), (a + 1, .inl (cI, 4, .inl z32)), (a + 2, .inl (cZ, 4, .inl z32)), (a + 3, .inl (cI, 8, .inl z32)), (a + 4, .inl (cI, 256, .inl z32)), (a + 5, .inl (cI, 256, .inl z32)), (a + 6, .inl (cI, 256, .inl z32))]) := hD
  refine va_putF (D := D) (ci := 9) (v := .ref (a + 6)) (ty := (.array .int)) (C := R_Md) (T := F_Md) (N := 17) hx hb hg in_Md t_Md t_Md_ok n_Md hown hK hP hD hS 0 rfl rfl 6 (Nat.le_of_ble_eq_true rfl) (hg _ tw_712) (fun _ h9 => h9) rfl hmn rfl (by decide +kernel) rfl rfl (Nat.le_of_ble_eq_true rfl) d_Md_init_50 (fun H locs hP hD hS => ?_)
  have hP : va_P D cls ([(a, .inr (9, [.int 0, .ref (a + 1), .ref (a + 2), .ref (a + 3), .ref (a + 4), .ref (a + 5), .ref (a + 6), .null, .int 0, .null, .null, .null, .long 0, .null, .null, .null, .null])), (a + 1, .inl (cI, 4, .inl z32)), (a + 2, .inl (cZ, 4, .inl z32)), (a + 3, .inl (cI, 8, .inl z32)), (a + 4, .inl (cI, 256, .inl z32)), (a + 5, .inl (cI, 256, .inl z32)), (a + 6, .inl (cI, 256, .inl z32))]) H := hP
  have hD : va_D (fun q => a ≤ q) ([(a, .inr (9, [.int 0, .ref (a + 1), .ref (a + 2), .ref (a + 3), .ref (a + 4), .ref (a + 5), .ref (a + 6), .null, .int 0, .null, .null, .null, .long 0, .null, .null, .null, .null])), (a + 1, .inl (cI, 4, .inl z32)), (a + 2, .inl (cZ, 4, .inl z32)), (a + 3, .inl (cI, 8, .inl z32)), (a + 4, .inl (cI, 256, .inl z32)), (a + 5, .inl (cI, 256, .inl z32)), (a + 6, .inl (cI, 256, .inl z32))]) := hD
  refine lv_aload_n hx hb d_Md_init_53 rfl (lv_at hl 0 rfl) ?_
  refine lv_sipush (v := 256) hx hb d_Md_init_54 (by decide) ?_
  refine ep_size (fun hub => ?_)
  have hlb : a + 6 < H.size := (hP 6 _ rfl).lt
  have hsz1 : H.size = a + 7 := by omega
  clear hub hlb
  refine ep_newa (atype := .int) (ty := .int) (h := a + 7) (cA := cI) (a0 := (256, .inl z32)) hx hb (hg _ tw_72) rfl hK 0 rfl (fun h => h) hP hD hS hA rfl (nI_pos (n := 256) (by decide)) (nI_clamp (n := 256) (by decide)) (by show 256 * 4 ≤ 536870912; decide) (by show 6 + 1 ≤ 14; decide) (by show 784 + 256 ≤ 1248; decide) d_Md_init_57 hsz1 (fun H hP hD hS hsz => ?_)
  refine W.widen (k := 7) (n := 1040) (by decide) (by decide) ?_
  clear hsz hsz1
  have hP : va_P D cls ([(a, .inr (9, [.int 0, .ref (a + 1), .ref (a + 2), .ref (a + 3), .ref (a + 4), .ref (a + 5), .ref (a + 6), .null, .int 0, .null, .null, .null, .long 0, .null, .null, .null, .null])), (a + 1, .inl (cI, 4, .inl z32)), (a + 2, .inl (cZ, 4, .inl z32)), (a + 3, .inl (cI, 8, .inl z32)), (a + 4, .inl (cI, 256, .inl z32)), (a + 5, .inl (cI, 256, .inl z32)), (a + 6, .inl (cI, 256, .inl z32)), (a + 7, .inl (cI, 256, .inl z32))]) H := hP
  have hD : va_D (fun q => a ≤ q) ([(a, .inr (9, [.int 0, .ref (a + 1), .ref (a + 2), .ref (a + 3), .ref (a + 4), .ref (a + 5), .ref (a + 6), .null, .int 0, .null, .null, .null, .long 0, .null, .null, .null, .null])), (a + 1, .inl (cI, 4, .inl z32)), (a + 2, .inl (cZ, 4, .inl z32)), (a + 3, .inl (cI, 8, .inl z32)), (a + 4, .inl (cI, 256, .inl z32)), (a + 5, .inl (cI, 256, .inl z32)), (a + 6, .inl (cI, 256, .inl z32)), (a + 7, .inl (cI, 256, .inl z32))]) := hD
  refine va_putF (D := D) (ci := 9) (v := .ref (a + 7)) (ty := (.array .int)) (C := R_Md) (T := F_Md) (N := 17) hx hb hg in_Md t_Md t_Md_ok n_Md hown hK hP hD hS 0 rfl rfl 7 (Nat.le_of_ble_eq_true rfl) (hg _ tw_713) (fun _ h9 => h9) rfl hmn rfl (by decide +kernel) rfl rfl (Nat.le_of_ble_eq_true rfl) d_Md_init_59 (fun H locs hP hD hS => ?_)
  have hP : va_P D cls ([(a, .inr (9, [.int 0, .ref (a + 1), .ref (a + 2), .ref (a + 3), .ref (a + 4), .ref (a + 5), .ref (a + 6), .ref (a + 7), .int 0, .null, .null, .null, .long 0, .null, .null, .null, .null])), (a + 1, .inl (cI, 4, .inl z32)), (a + 2, .inl (cZ, 4, .inl z32)), (a + 3, .inl (cI, 8, .inl z32)), (a + 4, .inl (cI, 256, .inl z32)), (a + 5, .inl (cI, 256, .inl z32)), (a + 6, .inl (cI, 256, .inl z32)), (a + 7, .inl (cI, 256, .inl z32))]) H := hP
  have hD : va_D (fun q => a ≤ q) ([(a, .inr (9, [.int 0, .ref (a + 1), .ref (a + 2), .ref (a + 3), .ref (a + 4), .ref (a + 5), .ref (a + 6), .ref (a + 7), .int 0, .null, .null, .null, .long 0, .null, .null, .null, .null])), (a + 1, .inl (cI, 4, .inl z32)), (a + 2, .inl (cZ, 4, .inl z32)), (a + 3, .inl (cI, 8, .inl z32)), (a + 4, .inl (cI, 256, .inl z32)), (a + 5, .inl (cI, 256, .inl z32)), (a + 6, .inl (cI, 256, .inl z32)), (a + 7, .inl (cI, 256, .inl z32))]) := hD
  refine lv_aload_n hx hb d_Md_init_62 rfl (lv_at hl 0 rfl) ?_
  refine lv_bipush (v := 32) hx hb d_Md_init_63 (by decide) ?_
  refine ep_size (fun hub => ?_)
  have hlb : a + 7 < H.size := (hP 7 _ rfl).lt
  have hsz1 : H.size = a + 8 := by omega
  clear hub hlb
  refine ep_newa (atype := .int) (ty := .int) (h := a + 8) (cA := cI) (a0 := (32, .inl z32)) hx hb (hg _ tw_72) rfl hK 0 rfl (fun h => h) hP hD hS hA rfl (nI_pos (n := 32) (by decide)) (nI_clamp (n := 32) (by decide)) (by show 32 * 4 ≤ 536870912; decide) (by show 7 + 1 ≤ 14; decide) (by show 1040 + 32 ≤ 1248; decide) d_Md_init_65 hsz1 (fun H hP hD hS hsz => ?_)
  refine W.widen (k := 8) (n := 1072) (by decide) (by decide) ?_
  clear hsz hsz1
  have hP : va_P D cls ([(a, .inr (9, [.int 0, .ref (a + 1), .ref (a + 2), .ref (a + 3), .ref (a + 4), .ref (a + 5), .ref (a + 6), .ref (a + 7), .int 0, .null, .null, .null, .long 0, .null, .null, .null, .null])), (a + 1, .inl (cI, 4, .inl z32)), (a + 2, .inl (cZ, 4, .inl z32)), (a + 3, .inl (cI, 8, .inl z32)), (a + 4, .inl (cI, 256, .inl z32)), (a + 5, .inl (cI, 256, .inl z32)), (a + 6, .inl (cI, 256, .inl z32)), (a + 7, .inl (cI, 256, .inl z32)), (a + 8, .inl (cI, 32, .inl z32))]) H := hP
  have hD : va_D (fun q => a ≤ q) ([(a, .inr (9, [.int 0, .ref (a + 1), .ref (a + 2), .ref (a + 3), .ref (a + 4), .ref (a + 5), .ref (a + 6), .ref (a + 7), .int 0, .null, .null, .null, .long 0, .null, .null, .null, .null])), (a + 1, .inl (cI, 4, .inl z32)), (a + 2, .inl (cZ, 4, .inl z32)), (a + 3, .inl (cI, 8, .inl z32)), (a + 4, .inl (cI, 256, .inl z32)), (a + 5, .inl (cI, 256, .inl z32)), (a + 6, .inl (cI, 256, .inl z32)), (a + 7, .inl (cI, 256, .inl z32)), (a + 8, .inl (cI, 32, .inl z32))]) := hD
  refine va_putF (D := D) (ci := 9) (v := .ref (a + 8)) (ty := (.array .int)) (C := R_Md) (T := F_Md) (N := 17) hx hb hg in_Md t_Md t_Md_ok n_Md hown hK hP hD hS 0 rfl rfl 9 (Nat.le_of_ble_eq_true rfl) (hg _ tw_715) (fun _ h9 => h9) rfl hmn rfl (by decide +kernel) rfl rfl (Nat.le_of_ble_eq_true rfl) d_Md_init_67 (fun H locs hP hD hS => ?_)
  have hP : va_P D cls ([(a, .inr (9, [.int 0, .ref (a + 1), .ref (a + 2), .ref (a + 3), .ref (a + 4), .ref (a + 5), .ref (a + 6), .ref (a + 7), .int 0, .ref (a + 8), .null, .null, .long 0, .null, .null, .null, .null])), (a + 1, .inl (cI, 4, .inl z32)), (a + 2, .inl (cZ, 4, .inl z32)), (a + 3, .inl (cI, 8, .inl z32)), (a + 4, .inl (cI, 256, .inl z32)), (a + 5, .inl (cI, 256, .inl z32)), (a + 6, .inl (cI, 256, .inl z32)), (a + 7, .inl (cI, 256, .inl z32)), (a + 8, .inl (cI, 32, .inl z32))]) H := hP
  have hD : va_D (fun q => a ≤ q) ([(a, .inr (9, [.int 0, .ref (a + 1), .ref (a + 2), .ref (a + 3), .ref (a + 4), .ref (a + 5), .ref (a + 6), .ref (a + 7), .int 0, .ref (a + 8), .null, .null, .long 0, .null, .null, .null, .null])), (a + 1, .inl (cI, 4, .inl z32)), (a + 2, .inl (cZ, 4, .inl z32)), (a + 3, .inl (cI, 8, .inl z32)), (a + 4, .inl (cI, 256, .inl z32)), (a + 5, .inl (cI, 256, .inl z32)), (a + 6, .inl (cI, 256, .inl z32)), (a + 7, .inl (cI, 256, .inl z32)), (a + 8, .inl (cI, 32, .inl z32))]) := hD
  refine lv_aload_n hx hb d_Md_init_70 rfl (lv_at hl 0 rfl) ?_
  refine lv_bipush (v := 32) hx hb d_Md_init_71 (by decide) ?_
  refine ep_size (fun hub => ?_)
  have hlb : a + 8 < H.size := (hP 8 _ rfl).lt
  have hsz1 : H.size = a + 9 := by omega
  clear hub hlb
  refine ep_newa (atype := .int) (ty := .int) (h := a + 9) (cA := cI) (a0 := (32, .inl z32)) hx hb (hg _ tw_72) rfl hK 0 rfl (fun h => h) hP hD hS hA rfl (nI_pos (n := 32) (by decide)) (nI_clamp (n := 32) (by decide)) (by show 32 * 4 ≤ 536870912; decide) (by show 8 + 1 ≤ 14; decide) (by show 1072 + 32 ≤ 1248; decide) d_Md_init_73 hsz1 (fun H hP hD hS hsz => ?_)
  refine W.widen (k := 9) (n := 1104) (by decide) (by decide) ?_
  clear hsz hsz1
  have hP : va_P D cls ([(a, .inr (9, [.int 0, .ref (a + 1), .ref (a + 2), .ref (a + 3), .ref (a + 4), .ref (a + 5), .ref (a + 6), .ref (a + 7), .int 0, .ref (a + 8), .null, .null, .long 0, .null, .null, .null, .null])), (a + 1, .inl (cI, 4, .inl z32)), (a + 2, .inl (cZ, 4, .inl z32)), (a + 3, .inl (cI, 8, .inl z32)), (a + 4, .inl (cI, 256, .inl z32)), (a + 5, .inl (cI, 256, .inl z32)), (a + 6, .inl (cI, 256, .inl z32)), (a + 7, .inl (cI, 256, .inl z32)), (a + 8, .inl (cI, 32, .inl z32)), (a + 9, .inl (cI, 32, .inl z32))]) H := hP
  have hD : va_D (fun q => a ≤ q) ([(a, .inr (9, [.int 0, .ref (a + 1), .ref (a + 2), .ref (a + 3), .ref (a + 4), .ref (a + 5), .ref (a + 6), .ref (a + 7), .int 0, .ref (a + 8), .null, .null, .long 0, .null, .null, .null, .null])), (a + 1, .inl (cI, 4, .inl z32)), (a + 2, .inl (cZ, 4, .inl z32)), (a + 3, .inl (cI, 8, .inl z32)), (a + 4, .inl (cI, 256, .inl z32)), (a + 5, .inl (cI, 256, .inl z32)), (a + 6, .inl (cI, 256, .inl z32)), (a + 7, .inl (cI, 256, .inl z32)), (a + 8, .inl (cI, 32, .inl z32)), (a + 9, .inl (cI, 32, .inl z32))]) := hD
  refine va_putF (D := D) (ci := 9) (v := .ref (a + 9)) (ty := (.array .int)) (C := R_Md) (T := F_Md) (N := 17) hx hb hg in_Md t_Md t_Md_ok n_Md hown hK hP hD hS 0 rfl rfl 10 (Nat.le_of_ble_eq_true rfl) (hg _ tw_716) (fun _ h9 => h9) rfl hmn rfl (by decide +kernel) rfl rfl (Nat.le_of_ble_eq_true rfl) d_Md_init_75 (fun H locs hP hD hS => ?_)
  have hP : va_P D cls ([(a, .inr (9, [.int 0, .ref (a + 1), .ref (a + 2), .ref (a + 3), .ref (a + 4), .ref (a + 5), .ref (a + 6), .ref (a + 7), .int 0, .ref (a + 8), .ref (a + 9), .null, .long 0, .null, .null, .null, .null])), (a + 1, .inl (cI, 4, .inl z32)), (a + 2, .inl (cZ, 4, .inl z32)), (a + 3, .inl (cI, 8, .inl z32)), (a + 4, .inl (cI, 256, .inl z32)), (a + 5, .inl (cI, 256, .inl z32)), (a + 6, .inl (cI, 256, .inl z32)), (a + 7, .inl (cI, 256, .inl z32)), (a + 8, .inl (cI, 32, .inl z32)), (a + 9, .inl (cI, 32, .inl z32))]) H := hP
  have hD : va_D (fun q => a ≤ q) ([(a, .inr (9, [.int 0, .ref (a + 1), .ref (a + 2), .ref (a + 3), .ref (a + 4), .ref (a + 5), .ref (a + 6), .ref (a + 7), .int 0, .ref (a + 8), .ref (a + 9), .null, .long 0, .null, .null, .null, .null])), (a + 1, .inl (cI, 4, .inl z32)), (a + 2, .inl (cZ, 4, .inl z32)), (a + 3, .inl (cI, 8, .inl z32)), (a + 4, .inl (cI, 256, .inl z32)), (a + 5, .inl (cI, 256, .inl z32)), (a + 6, .inl (cI, 256, .inl z32)), (a + 7, .inl (cI, 256, .inl z32)), (a + 8, .inl (cI, 32, .inl z32)), (a + 9, .inl (cI, 32, .inl z32))]) := hD
  refine lv_aload_n hx hb d_Md_init_78 rfl (lv_at hl 0 rfl) ?_
  refine lv_bipush (v := 16) hx hb d_Md_init_79 (by decide) ?_
  refine ep_size (fun hub => ?_)
  have hlb : a + 9 < H.size := (hP 9 _ rfl).lt
  have hsz1 : H.size = a + 10 := by omega
  clear hub hlb
  refine ep_newa (atype := .int) (ty := .int) (h := a + 10) (cA := cI) (a0 := (16, .inl z32)) hx hb (hg _ tw_72) rfl hK 0 rfl (fun h => h) hP hD hS hA rfl (nI_pos (n := 16) (by decide)) (nI_clamp (n := 16) (by decide)) (by show 16 * 4 ≤ 536870912; decide) (by show 9 + 1 ≤ 14; decide) (by show 1104 + 16 ≤ 1248; decide) d_Md_init_81 hsz1 (fun H hP hD hS hsz => ?_)
  refine W.widen (k := 10) (n := 1120) (by decide) (by decide) ?_
  clear hsz hsz1
  have hP : va_P D cls ([(a, .inr (9, [.int 0, .ref (a + 1), .ref (a + 2), .ref (a + 3), .ref (a + 4), .ref (a + 5), .ref (a + 6), .ref (a + 7), .int 0, .ref (a + 8), .ref (a + 9), .null, .long 0, .null, .null, .null, .null])), (a + 1, .inl (cI, 4, .inl z32)), (a + 2, .inl (cZ, 4, .inl z32)), (a + 3, .inl (cI, 8, .inl z32)), (a + 4, .inl (cI, 256, .inl z32)), (a + 5, .inl (cI, 256, .inl z32)), (a + 6, .inl (cI, 256, .inl z32)), (a + 7, .inl (cI, 256, .inl z32)), (a + 8, .inl (cI, 32, .inl z32)), (a + 9, .inl (cI, 32, .inl z32)), (a + 10, .inl (cI, 16, .inl z32))]) H := hP
  have hD : va_D (fun q => a ≤ q) ([(a, .inr (9, [.int 0, .ref (a + 1), .ref (a + 2), .ref (a + 3), .ref (a + 4), .ref (a + 5), .ref (a + 6), .ref (a + 7), .int 0, .ref (a + 8), .ref (a + 9), .null, .long 0, .null, .null, .null, .null])), (a + 1, .inl (cI, 4, .inl z32)), (a + 2, .inl (cZ, 4, .inl z32)), (a + 3, .inl (cI, 8, .inl z32)), (a + 4, .inl (cI, 256, .inl z32)), (a + 5, .inl (cI, 256, .inl z32)), (a + 6, .inl (cI, 256, .inl z32)), (a + 7, .inl (cI, 256, .inl z32)), (a + 8, .inl (cI, 32, .inl z32)), (a + 9, .inl (cI, 32, .inl z32)), (a + 10, .inl (cI, 16, .inl z32))]) := hD
  refine va_putF (D := D) (ci := 9) (v := .ref (a + 10)) (ty := (.array .int)) (C := R_Md) (T := F_Md) (N := 17) hx hb hg in_Md t_Md t_Md_ok n_Md hown hK hP hD hS 0 rfl rfl 11 (Nat.le_of_ble_eq_true rfl) (hg _ tw_717) (fun _ h9 => h9) rfl hmn rfl (by decide +kernel) rfl rfl (Nat.le_of_ble_eq_true rfl) d_Md_init_83 (fun H locs hP hD hS => ?_)
  have hP : va_P D cls ([(a, .inr (9, [.int 0, .ref (a + 1), .ref (a + 2), .ref (a + 3), .ref (a + 4), .ref (a + 5), .ref (a + 6), .ref (a + 7), .int 0, .ref (a + 8), .ref (a + 9), .ref (a + 10), .long 0, .null, .null, .null, .null])), (a + 1, .inl (cI, 4, .inl z32)), (a + 2, .inl (cZ, 4, .inl z32)), (a + 3, .inl (cI, 8, .inl z32)), (a + 4, .inl (cI, 256, .inl z32)), (a + 5, .inl (cI, 256, .inl z32)), (a + 6, .inl (cI, 256, .inl z32)), (a + 7, .inl (cI, 256, .inl z32)), (a + 8, .inl (cI, 32, .inl z32)), (a + 9, .inl (cI, 32, .inl z32)), (a + 10, .inl (cI, 16, .inl z32))]) H := hP
  have hD : va_D (fun q => a ≤ q) ([(a, .inr (9, [.int 0, .ref (a + 1), .ref (a + 2), .ref (a + 3), .ref (a + 4), .ref (a + 5), .ref (a + 6), .ref (a + 7), .int 0, .ref (a + 8), .ref (a + 9), .ref (a + 10), .long 0, .null, .null, .null, .null])), (a + 1, .inl (cI, 4, .inl z32)), (a + 2, .inl (cZ, 4, .inl z32)), (a + 3, .inl (cI, 8, .inl z32)), (a + 4, .inl (cI, 256, .inl z32)), (a + 5, .inl (cI, 256, .inl z32)), (a + 6, .inl (cI, 256, .inl z32)), (a + 7, .inl (cI, 256, .inl z32)), (a + 8, .inl (cI, 32, .inl z32)), (a + 9, .inl (cI, 32, .inl z32)), (a + 10, .inl (cI, 16, .inl z32))]) := hD
  refine lv_aload_n hx hb d_Md_init_86 rfl (lv_at hl 0 rfl) ?_
  refine lv_bipush (v := 32) hx hb d_Md_init_87 (by decide) ?_
  refine ep_size (fun hub => ?_)
  have hlb : a + 10 < H.size := (hP 10 _ rfl).lt
  have hsz1 : H.size = a + 11 := by omega
  clear hub hlb
  refine ep_newa (atype := .long) (ty := .long) (h := a + 11) (cA := cJ) (a0 := (32, .inr (.inl z64))) hx hb (hg _ tw_73) rfl hK 1 rfl (fun h => h) hP hD hS hA rfl (nI_pos (n := 32) (by decide)) (nI_clamp (n := 32) (by decide)) (by show 32 * 8 ≤ 536870912; decide) (by show 10 + 1 ≤ 14; decide) (by show 1120 + 32 ≤ 1248; decide) d_Md_init_89 hsz1 (fun H hP hD hS hsz => ?_)
  refine W.widen (k := 11) (n := 1152) (by decide) (by decide) ?_
  clear hsz hsz1
  have hP : va_P D cls ([(a, .inr (9, [.int 0, .ref (a + 1), .ref (a + 2), .ref (a + 3), .ref (a + 4), .ref (a + 5), .ref (a + 6), .ref (a + 7), .int 0, .ref (a + 8), .ref (a + 9), .ref (a + 10), .long 0, .null, .null, .null, .null])), (a + 1, .inl (cI, 4, .inl z32)), (a + 2, .inl (cZ, 4, .inl z32)), (a + 3, .inl (cI, 8, .inl z32)), (a + 4, .inl (cI, 256, .inl z32)), (a + 5, .inl (cI, 256, .inl z32)), (a + 6, .inl (cI, 256, .inl z32)), (a + 7, .inl (cI, 256, .inl z32)), (a + 8, .inl (cI, 32, .inl z32)), (a + 9, .inl (cI, 32, .inl z32)), (a + 10, .inl (cI, 16, .inl z32)), (a + 11, .inl (cJ, 32, .inr (.inl z64)))]) H := hP
  have hD : va_D (fun q => a ≤ q) ([(a, .inr (9, [.int 0, .ref (a + 1), .ref (a + 2), .ref (a + 3), .ref (a + 4), .ref (a + 5), .ref (a + 6), .ref (a + 7), .int 0, .ref (a + 8), .ref (a + 9), .ref (a + 10), .long 0, .null, .null, .null, .null])), (a + 1, .inl (cI, 4, .inl z32)), (a + 2, .inl (cZ, 4, .inl z32)), (a + 3, .inl (cI, 8, .inl z32)), (a + 4, .inl (cI, 256, .inl z32)), (a + 5, .inl (cI, 256, .inl z32)), (a + 6, .inl (cI, 256, .inl z32)), (a + 7, .inl (cI, 256, .inl z32)), (a + 8, .inl (cI, 32, .inl z32)), (a + 9, .inl (cI, 32, .inl z32)), (a + 10, .inl (cI, 16, .inl z32)), (a + 11, .inl (cJ, 32, .inr (.inl z64)))]) := hD
  refine va_putF (D := D) (ci := 9) (v := .ref (a + 11)) (ty := (.array .long)) (C := R_Md) (T := F_Md) (N := 17) hx hb hg in_Md t_Md t_Md_ok n_Md hown hK hP hD hS 0 rfl rfl 13 (Nat.le_of_ble_eq_true rfl) (hg _ tw_719) (fun _ h9 => h9) rfl hmn rfl (by decide +kernel) rfl rfl (Nat.le_of_ble_eq_true rfl) d_Md_init_91 (fun H locs hP hD hS => ?_)
  have hP : va_P D cls ([(a, .inr (9, [.int 0, .ref (a + 1), .ref (a + 2), .ref (a + 3), .ref (a + 4), .ref (a + 5), .ref (a + 6), .ref (a + 7), .int 0, .ref (a + 8), .ref (a + 9), .ref (a + 10), .long 0, .ref (a + 11), .null, .null, .null])), (a + 1, .inl (cI, 4, .inl z32)), (a + 2, .inl (cZ, 4, .inl z32)), (a + 3, .inl (cI, 8, .inl z32)), (a + 4, .inl (cI, 256, .inl z32)), (a + 5, .inl (cI, 256, .inl z32)), (a + 6, .inl (cI, 256, .inl z32)), (a + 7, .inl (cI, 256, .inl z32)), (a + 8, .inl (cI, 32, .inl z32)), (a + 9, .inl (cI, 32, .inl z32)), (a + 10, .inl (cI, 16, .inl z32)), (a + 11, .inl (cJ, 32, .inr (.inl z64)))]) H := hP
  have hD : va_D (fun q => a ≤ q) ([(a, .inr (9, [.int 0, .ref (a + 1), .ref (a + 2), .ref (a + 3), .ref (a + 4), .ref (a + 5), .ref (a + 6), .ref (a + 7), .int 0, .ref (a + 8), .ref (a + 9), .ref (a + 10), .long 0, .ref (a + 11), .null, .null, .null])), (a + 1, .inl (cI, 4, .inl z32)), (a + 2, .inl (cZ, 4, .inl z32)), (a + 3, .inl (cI, 8, .inl z32)), (a + 4, .inl (cI, 256, .inl z32)), (a + 5, .inl (cI, 256, .inl z32)), (a + 6, .inl (cI, 256, .inl z32)), (a + 7, .inl (cI, 256, .inl z32)), (a + 8, .inl (cI, 32, .inl z32)), (a + 9, .inl (cI, 32, .inl z32)), (a + 10, .inl (cI, 16, .inl z32)), (a + 11, .inl (cJ, 32, .inr (.inl z64)))]) := hD
  refine lv_aload_n hx hb d_Md_init_94 rfl (lv_at hl 0 rfl) ?_
  refine lv_bipush (v := 32) hx hb d_Md_init_95 (by decide) ?_
  refine ep_size (fun hub => ?_)
  have hlb : a + 11 < H.size := (hP 11 _ rfl).lt
  have hsz1 : H.size = a + 12 := by omega
  clear hub hlb
  refine ep_newa (atype := .boolean) (ty := .boolean) (h := a + 12) (cA := cZ) (a0 := (32, .inl z32)) hx hb (hg _ tw_74) rfl hK 2 rfl (fun h => h) hP hD hS hA rfl (nI_pos (n := 32) (by decide)) (nI_clamp (n := 32) (by decide)) (by show 32 * 1 ≤ 536870912; decide) (by show 11 + 1 ≤ 14; decide) (by show 1152 + 32 ≤ 1248; decide) d_Md_init_97 hsz1 (fun H hP hD hS hsz => ?_)
  refine W.widen (k := 12) (n := 1184) (by decide) (by decide) ?_
  clear hsz hsz1
  have hP : va_P D cls ([(a, .inr (9, [.int 0, .ref (a + 1), .ref (a + 2), .ref (a + 3), .ref (a + 4), .ref (a + 5), .ref (a + 6), .ref (a + 7), .int 0, .ref (a + 8), .ref (a + 9), .ref (a + 10), .long 0, .ref (a + 11), .null, .null, .null])), (a + 1, .inl (cI, 4, .inl z32)), (a + 2, .inl (cZ, 4, .inl z32)), (a + 3, .inl (cI, 8, .inl z32)), (a + 4, .inl (cI, 256, .inl z32)), (a + 5, .inl (cI, 256, .inl z32)), (a + 6, .inl (cI, 256, .inl z32)), (a + 7, .inl (cI, 256, .inl z32)), (a + 8, .inl (cI, 32, .inl z32)), (a + 9, .inl (cI, 32, .inl z32)), (a + 10, .inl (cI, 16, .inl z32)), (a + 11, .inl (cJ, 32, .inr (.inl z64))), (a + 12, .inl (cZ, 32, .inl z32))]) H := hP
  have hD : va_D (fun q => a ≤ q) ([(a, .inr (9, [.int 0, .ref (a + 1), .ref (a + 2), .ref (a + 3), .ref (a + 4), .ref (a + 5), .ref (a + 6), .ref (a + 7), .int 0, .ref (a + 8), .ref (a + 9), .ref (a + 10), .long 0, .ref (a + 11), .null, .null, .null])), (a + 1, .inl (cI, 4, .inl z32)), (a + 2, .inl (cZ, 4, .inl z32)), (a + 3, .inl (cI, 8, .inl z32)), (a + 4, .inl (cI, 256, .inl z32)), (a + 5, .inl (cI, 256, .inl z32)), (a + 6, .inl (cI, 256, .inl z32)), (a + 7, .inl (cI, 256, .inl z32)), (a + 8, .inl (cI, 32, .inl z32)), (a + 9, .inl (cI, 32, .inl z32)), (a + 10, .inl (cI, 16, .inl z32)), (a + 11, .inl (cJ, 32, .inr (.inl z64))), (a + 12, .inl (cZ, 32, .inl z32))]) := hD
  refine va_putF (D := D) (ci := 9) (v := .ref (a + 12)) (ty := (.array .boolean)) (C := R_Md) (T := F_Md) (N := 17) hx hb hg in_Md t_Md t_Md_ok n_Md hown hK hP hD hS 0 rfl rfl 14 (Nat.le_of_ble_eq_true rfl) (hg _ tw_720) (fun _ h9 => h9) rfl hmn rfl (by decide +kernel) rfl rfl (Nat.le_of_ble_eq_true rfl) d_Md_init_99 (fun H locs hP hD hS => ?_)
  have hP : va_P D cls ([(a, .inr (9, [.int 0, .ref (a + 1), .ref (a + 2), .ref (a + 3), .ref (a + 4), .ref (a + 5), .ref (a + 6), .ref (a + 7), .int 0, .ref (a + 8), .ref (a + 9), .ref (a + 10), .long 0, .ref (a + 11), .ref (a + 12), .null, .null])), (a + 1, .inl (cI, 4, .inl z32)), (a + 2, .inl (cZ, 4, .inl z32)), (a + 3, .inl (cI, 8, .inl z32)), (a + 4, .inl (cI, 256, .inl z32)), (a + 5, .inl (cI, 256, .inl z32)), (a + 6, .inl (cI, 256, .inl z32)), (a + 7, .inl (cI, 256, .inl z32)), (a + 8, .inl (cI, 32, .inl z32)), (a + 9, .inl (cI, 32, .inl z32)), (a + 10, .inl (cI, 16, .inl z32)), (a + 11, .inl (cJ, 32, .inr (.inl z64))), (a + 12, .inl (cZ, 32, .inl z32))]) H := hP
  have hD : va_D (fun q => a ≤ q) ([(a, .inr (9, [.int 0, .ref (a + 1), .ref (a + 2), .ref (a + 3), .ref (a + 4), .ref (a + 5), .ref (a + 6), .ref (a + 7), .int 0, .ref (a + 8), .ref (a + 9), .ref (a + 10), .long 0, .ref (a + 11), .ref (a + 12), .null, .null])), (a + 1, .inl (cI, 4, .inl z32)), (a + 2, .inl (cZ, 4, .inl z32)), (a + 3, .inl (cI, 8, .inl z32)), (a + 4, .inl (cI, 256, .inl z32)), (a + 5, .inl (cI, 256, .inl z32)), (a + 6, .inl (cI, 256, .inl z32)), (a + 7, .inl (cI, 256, .inl z32)), (a + 8, .inl (cI, 32, .inl z32)), (a + 9, .inl (cI, 32, .inl z32)), (a + 10, .inl (cI, 16, .inl z32)), (a + 11, .inl (cJ, 32, .inr (.inl z64))), (a + 12, .inl (cZ, 32, .inl z32))]) := hD
  refine lv_aload_n hx hb d_Md_init_102 rfl (lv_at hl 0 rfl) ?_
  refine lv_bipush (v := 32) hx hb d_Md_init_103 (by decide) ?_
  refine ep_size (fun hub => ?_)
  have hlb : a + 12 < H.size := (hP 12 _ rfl).lt
  have hsz1 : H.size = a + 13 := by omega
  clear hub hlb
  refine ep_newa (atype := .long) (ty := .long) (h := a + 13) (cA := cJ) (a0 := (32, .inr (.inl z64))) hx hb (hg _ tw_73) rfl hK 1 rfl (fun h => h) hP hD hS hA rfl (nI_pos (n := 32) (by decide)) (nI_clamp (n := 32) (by decide)) (by show 32 * 8 ≤ 536870912; decide) (by show 12 + 1 ≤ 14; decide) (by show 1184 + 32 ≤ 1248; decide) d_Md_init_105 hsz1 (fun H hP hD hS hsz => ?_)
  refine W.widen (k := 13) (n := 1216) (by decide) (by decide) ?_
  clear hsz hsz1
  have hP : va_P D cls ([(a, .inr (9, [.int 0, .ref (a + 1), .ref (a + 2), .ref (a + 3), .ref (a + 4), .ref (a + 5), .ref (a + 6), .ref (a + 7), .int 0, .ref (a + 8), .ref (a + 9), .ref (a + 10), .long 0, .ref (a + 11), .ref (a + 12), .null, .null])), (a + 1, .inl (cI, 4, .inl z32)), (a + 2, .inl (cZ, 4, .inl z32)), (a + 3, .inl (cI, 8, .inl z32)), (a + 4, .inl (cI, 256, .inl z32)), (a + 5, .inl (cI, 256, .inl z32)), (a + 6, .inl (cI, 256, .inl z32)), (a + 7, .inl (cI, 256, .inl z32)), (a + 8, .inl (cI, 32, .inl z32)), (a + 9, .inl (cI, 32, .inl z32)), (a + 10, .inl (cI, 16, .inl z32)), (a + 11, .inl (cJ, 32, .inr (.inl z64))), (a + 12, .inl (cZ, 32, .inl z32)), (a + 13, .inl (cJ, 32, .inr (.inl z64)))]) H := hP
  have hD : va_D (fun q => a ≤ q) ([(a, .inr (9, [.int 0, .ref (a + 1), .ref (a + 2), .ref (a + 3), .ref (a + 4), .ref (a + 5), .ref (a + 6), .ref (a + 7), .int 0, .ref (a + 8), .ref (a + 9), .ref (a + 10), .long 0, .ref (a + 11), .ref (a + 12), .null, .null])), (a + 1, .inl (cI, 4, .inl z32)), (a + 2, .inl (cZ, 4, .inl z32)), (a + 3, .inl (cI, 8, .inl z32)), (a + 4, .inl (cI, 256, .inl z32)), (a + 5, .inl (cI, 256, .inl z32)), (a + 6, .inl (cI, 256, .inl z32)), (a + 7, .inl (cI, 256, .inl z32)), (a + 8, .inl (cI, 32, .inl z32)), (a + 9, .inl (cI, 32, .inl z32)), (a + 10, .inl (cI, 16, .inl z32)), (a + 11, .inl (cJ, 32, .inr (.inl z64))), (a + 12, .inl (cZ, 32, .inl z32)), (a + 13, .inl (cJ, 32, .inr (.inl z64)))]) := hD
  refine va_putF (D := D) (ci := 9) (v := .ref (a + 13)) (ty := (.array .long)) (C := R_Md) (T := F_Md) (N := 17) hx hb hg in_Md t_Md t_Md_ok n_Md hown hK hP hD hS 0 rfl rfl 15 (Nat.le_of_ble_eq_true rfl) (hg _ tw_721) (fun _ h9 => h9) rfl hmn rfl (by decide +kernel) rfl rfl (Nat.le_of_ble_eq_true rfl) d_Md_init_107 (fun H locs hP hD hS => ?_)
  have hP : va_P D cls ([(a, .inr (9, [.int 0, .ref (a + 1), .ref (a + 2), .ref (a + 3), .ref (a + 4), .ref (a + 5), .ref (a + 6), .ref (a + 7), .int 0, .ref (a + 8), .ref (a + 9), .ref (a + 10), .long 0, .ref (a + 11), .ref (a + 12), .ref (a + 13), .null])), (a + 1, .inl (cI, 4, .inl z32)), (a + 2, .inl (cZ, 4, .inl z32)), (a + 3, .inl (cI, 8, .inl z32)), (a + 4, .inl (cI, 256, .inl z32)), (a + 5, .inl (cI, 256, .inl z32)), (a + 6, .inl (cI, 256, .inl z32)), (a + 7, .inl (cI, 256, .inl z32)), (a + 8, .inl (cI, 32, .inl z32)), (a + 9, .inl (cI, 32, .inl z32)), (a + 10, .inl (cI, 16, .inl z32)), (a + 11, .inl (cJ, 32, .inr (.inl z64))), (a + 12, .inl (cZ, 32, .inl z32)), (a + 13, .inl (cJ, 32, .inr (.inl z64)))]) H := hP
  have hD : va_D (fun q => a ≤ q) ([(a, .inr (9, [.int 0, .ref (a + 1), .ref (a + 2), .ref (a + 3), .ref (a + 4), .ref (a + 5), .ref (a + 6), .ref (a + 7), .int 0, .ref (a + 8), .ref (a + 9), .ref (a + 10), .long 0, .ref (a + 11), .ref (a + 12), .ref (a + 13), .null])), (a + 1, .inl (cI, 4, .inl z32)), (a + 2, .inl (cZ, 4, .inl z32)), (a + 3, .inl (cI, 8, .inl z32)), (a + 4, .inl (cI, 256, .inl z32)), (a + 5, .inl (cI, 256, .inl z32)), (a + 6, .inl (cI, 256, .inl z32)), (a + 7, .inl (cI, 256, .inl z32)), (a + 8, .inl (cI, 32, .inl z32)), (a + 9, .inl (cI, 32, .inl z32)), (a + 10, .inl (cI, 16, .inl z32)), (a + 11, .inl (cJ, 32, .inr (.inl z64))), (a + 12, .inl (cZ, 32, .inl z32)), (a + 13, .inl (cJ, 32, .inr (.inl z64)))]) := hD
  refine lv_aload_n hx hb d_Md_init_110 rfl (lv_at hl 0 rfl) ?_
  refine lv_bipush (v := 32) hx hb d_Md_init_111 (by decide) ?_
  refine ep_size (fun hub => ?_)
  have hlb : a + 13 < H.size := (hP 13 _ rfl).lt
  have hsz1 : H.size = a + 14 := by omega
  clear hub hlb
  refine ep_newa (atype := .boolean) (ty := .boolean) (h := a + 14) (cA := cZ) (a0 := (32, .inl z32)) hx hb (hg _ tw_74) rfl hK 2 rfl (fun h => h) hP hD hS hA rfl (nI_pos (n := 32) (by decide)) (nI_clamp (n := 32) (by decide)) (by show 32 * 1 ≤ 536870912; decide) (by show 13 + 1 ≤ 14; decide) (by show 1216 + 32 ≤ 1248; decide) d_Md_init_113 hsz1 (fun H hP hD hS hsz => ?_)
  refine W.widen (k := 14) (n := 1248) (by decide) (by decide) ?_
  clear hsz hsz1
  have hP : va_P D cls ([(a, .inr (9, [.int 0, .ref (a + 1), .ref (a + 2), .ref (a + 3), .ref (a + 4), .ref (a + 5), .ref (a + 6), .ref (a + 7), .int 0, .ref (a + 8), .ref (a + 9), .ref (a + 10), .long 0, .ref (a + 11), .ref (a + 12), .ref (a + 13), .null])), (a + 1, .inl (cI, 4, .inl z32)), (a + 2, .inl (cZ, 4, .inl z32)), (a + 3, .inl (cI, 8, .inl z32)), (a + 4, .inl (cI, 256, .inl z32)), (a + 5, .inl (cI, 256, .inl z32)), (a + 6, .inl (cI, 256, .inl z32)), (a + 7, .inl (cI, 256, .inl z32)), (a + 8, .inl (cI, 32, .inl z32)), (a + 9, .inl (cI, 32, .inl z32)), (a + 10, .inl (cI, 16, .inl z32)), (a + 11, .inl (cJ, 32, .inr (.inl z64))), (a + 12, .inl (cZ, 32, .inl z32)), (a + 13, .inl (cJ, 32, .inr (.inl z64))), (a + 14, .inl (cZ, 32, .inl z32))]) H := hP
  have hD : va_D (fun q => a ≤ q) ([(a, .inr (9, [.int 0, .ref (a + 1), .ref (a + 2), .ref (a + 3), .ref (a + 4), .ref (a + 5), .ref (a + 6), .ref (a + 7), .int 0, .ref (a + 8), .ref (a + 9), .ref (a + 10), .long 0, .ref (a + 11), .ref (a + 12), .ref (a + 13), .null])), (a + 1, .inl (cI, 4, .inl z32)), (a + 2, .inl (cZ, 4, .inl z32)), (a + 3, .inl (cI, 8, .inl z32)), (a + 4, .inl (cI, 256, .inl z32)), (a + 5, .inl (cI, 256, .inl z32)), (a + 6, .inl (cI, 256, .inl z32)), (a + 7, .inl (cI, 256, .inl z32)), (a + 8, .inl (cI, 32, .inl z32)), (a + 9, .inl (cI, 32, .inl z32)), (a + 10, .inl (cI, 16, .inl z32)), (a + 11, .inl (cJ, 32, .inr (.inl z64))), (a + 12, .inl (cZ, 32, .inl z32)), (a + 13, .inl (cJ, 32, .inr (.inl z64))), (a + 14, .inl (cZ, 32, .inl z32))]) := hD
  refine va_putF (D := D) (ci := 9) (v := .ref (a + 14)) (ty := (.array .boolean)) (C := R_Md) (T := F_Md) (N := 17) hx hb hg in_Md t_Md t_Md_ok n_Md hown hK hP hD hS 0 rfl rfl 16 (Nat.le_of_ble_eq_true rfl) (hg _ tw_722) (fun _ h9 => h9) rfl hmn rfl (by decide +kernel) rfl rfl (Nat.le_of_ble_eq_true rfl) d_Md_init_115 (fun H locs hP hD hS => ?_)
  have hP : va_P D cls ([(a, .inr (9, [.int 0, .ref (a + 1), .ref (a + 2), .ref (a + 3), .ref (a + 4), .ref (a + 5), .ref (a + 6), .ref (a + 7), .int 0, .ref (a + 8), .ref (a + 9), .ref (a + 10), .long 0, .ref (a + 11), .ref (a + 12), .ref (a + 13), .ref (a + 14)])), (a + 1, .inl (cI, 4, .inl z32)), (a + 2, .inl (cZ, 4, .inl z32)), (a + 3, .inl (cI, 8, .inl z32)), (a + 4, .inl (cI, 256, .inl z32)), (a + 5, .inl (cI, 256, .inl z32)), (a + 6, .inl (cI, 256, .inl z32)), (a + 7, .inl (cI, 256, .inl z32)), (a + 8, .inl (cI, 32, .inl z32)), (a + 9, .inl (cI, 32, .inl z32)), (a + 10, .inl (cI, 16, .inl z32)), (a + 11, .inl (cJ, 32, .inr (.inl z64))), (a + 12, .inl (cZ, 32, .inl z32)), (a + 13, .inl (cJ, 32, .inr (.inl z64))), (a + 14, .inl (cZ, 32, .inl z32))]) H := hP
  have hD : va_D (fun q => a ≤ q) ([(a, .inr (9, [.int 0, .ref (a + 1), .ref (a + 2), .ref (a + 3), .ref (a + 4), .ref (a + 5), .ref (a + 6), .ref (a + 7), .int 0, .ref (a + 8), .ref (a + 9), .ref (a + 10), .long 0, .ref (a + 11), .ref (a + 12), .ref (a + 13), .ref (a + 14)])), (a + 1, .inl (cI, 4, .inl z32)), (a + 2, .inl (cZ, 4, .inl z32)), (a + 3, .inl (cI, 8, .inl z32)), (a + 4, .inl (cI, 256, .inl z32)), (a + 5, .inl (cI, 256, .inl z32)), (a + 6, .inl (cI, 256, .inl z32)), (a + 7, .inl (cI, 256, .inl z32)), (a + 8, .inl (cI, 32, .inl z32)), (a + 9, .inl (cI, 32, .inl z32)), (a + 10, .inl (cI, 16, .inl z32)), (a + 11, .inl (cJ, 32, .inr (.inl z64))), (a + 12, .inl (cZ, 32, .inl z32)), (a + 13, .inl (cJ, 32, .inr (.inl z64))), (a + 14, .inl (cZ, 32, .inl z32))]) := hD
  exact W.vret hx hb hr (fun t9 ht hW => ⟨rfl, hS.F ht, by rw [ht]; exact hP⟩) hS.2.2 d_Md_init_118
