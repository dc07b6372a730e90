/-! constructors (by wip/whole/gen/ctor.py) -/
abbrev rc_Ta_init : Room := { frames := 2, cells := 2, slots := 64, locals := 40 }
set_option maxHeartbeats 4000000 in
set_option maxRecDepth 100000 in
theorem m_Ta_init (l : Launch) (D : va_G) (cI cJ cZ cO : ClassId) (b : Nat) : Met l y_Ta_init (k_Ta_init :: gt) rc_Ta_init (Pc0 D cI cJ cZ cO [.ref b] (fun H => va_P D cls ([(b, .inr (5, [.null, .null, .int 0, .long 0, .int 0]))]) H ∧ H.size = b + 1)) (Qd (fun q => b ≤ q) none (fun H => va_P D cls (wTa cI b 0 z32 z32 0 0) H)) 2 64 (fun q => b ≤ q) := by
  refine Met.ofW (cc := c_Ta_init) (maxL := 1) (ret := none) (by decide) rfl ?_
  intro p e s m args below meth c s₁ B hml hv
  obtain ⟨rfl, hKn, hP, hsz0⟩ := hv
  have hx := B.exec
  have hb := B.bytes
  have hr := B.returns
  have hts := atoms_spec (ws := k_Ta_init :: gt) B.pre
  have hg : ∀ w ∈ gt, w.before _ s = true := fun w h => hts w (List.mem_cons_of_mem _ h)
  have hown : s.vm.findClass R_Ta = some m.cls := findClass_of_methodNamed B.named
  have hlocks := B.notSynchronized
  have hK := hKn.1
  have hl := lv_entry ([.ref b]) (n := 1) (Nat.le_of_ble_eq_true rfl)
  rw [lg_entry_eq]
  generalize (lg_sl ([.ref b]) ++ List.replicate (1 - (lg_sl ([.ref b])).length) Slot.unset).toArray = ls at hl ⊢
  have hl : lv_has ls 1 [(0, .ref b)] := hl
  have hmn : meth.name = "<init>" := (name_of_methodNamed B.named B.method).1
  have hS : va_S (fun q => b ≤ q) s.heap s.heap [] := va_S.rf
  have hA : ∀ q, s.heap.size ≤ q → b ≤ q := by intro q h9; omega
  have hD : va_D (fun q => b ≤ q) ([(b, .inr (5, [.null, .null, .int 0, .long 0, .int 0]))]) := one_D (Nat.le_refl _)
  refine lv_aload_n hx hb d_Ta_init_0 rfl (lv_at hl 0 rfl) ?_
  refine ep_callP (ep_toC (va_runIN (b := b) (As := []) (rest := []) ⟨hx, hb, hml, hown, hg⟩ (m_Ct_init l D cI cJ cZ cO b) (⟨ep_cnB (host := "EditablePast") 0 hg tk_Ct_init rfl rfl (hKn.2.1 ("EditablePast$Table", 3, ⟨"EditablePast$Contents", "<init>", "()V"⟩) (by decide +kernel)) tw_4 (by decide +kernel) ⟨(Nat.le_of_ble_eq_true rfl), (Nat.le_of_ble_eq_true rfl)⟩, rfl, hg _ tw_97⟩) ⟨ep_blind, ep_pre hKn (trivial)⟩ rfl rfl hl.1 rfl (lv_room (Nat.le_of_ble_eq_true rfl)) d_Ta_init_1 ⟨(Nat.le_of_ble_eq_true rfl), (Nat.le_of_ble_eq_true rfl)⟩)) ?_
  refine W.eq (g2 := F0 m 4 ls []) rfl ?_
  refine lv_aload_n hx hb d_Ta_init_4 rfl (lv_at hl 0 rfl) ?_
  refine lv_bipush (v := 32) hx hb d_Ta_init_5 (by decide) ?_
  refine ep_size (fun hub => ?_)
  have hlb : b < s.heap.size := (hP 0 _ rfl).lt
  have hsz1 : s.heap.size = b + 1 := by omega
  clear hub hlb
  refine ep_newa (atype := .int) (ty := .int) (h := b + 1) (cA := cI) (a0 := (32, .inl z32)) hx hb (hg _ tw_72) rfl hK 0 rfl (fun h => h) hP hD hS hA rfl (nI_pos (n := 32) (by decide)) (nI_clamp (n := 32) (by decide)) (by show 32 * 4 ≤ 536870912; decide) (by show 0 + 1 ≤ 2; decide) (by show 0 + 32 ≤ 64; decide) d_Ta_init_7 hsz1 (fun H hP hD hS hsz => ?_)
  refine W.widen (k := 1) (n := 32) (by decide) (by decide) ?_
  clear hsz hsz1
  have hP : va_P D cls ([(b, .inr (5, [.null, .null, .int 0, .long 0, .int 0])), (b + 1, .inl (cI, 32, .inl z32))]) H := hP
  have hD : va_D (fun q => b ≤ q) ([(b, .inr (5, [.null, .null, .int 0, .long 0, .int 0])), (b + 1, .inl (cI, 32, .inl z32))]) := hD
  refine va_putF (D := D) (ci := 5) (v := .ref (b + 1)) (ty := (.array .int)) (C := R_Ta) (T := F_Ta) (N := 5) hx hb hg in_Ta t_Ta t_Ta_ok n_Ta hown hK hP hD hS 0 rfl rfl 0 (Nat.le_of_ble_eq_true rfl) (hg _ tw_148) (fun _ h9 => h9) rfl hmn rfl (by decide +kernel) rfl rfl (Nat.le_of_ble_eq_true rfl) d_Ta_init_9 (fun H locs hP hD hS => ?_)
  have hP : va_P D cls ([(b, .inr (5, [.ref (b + 1), .null, .int 0, .long 0, .int 0])), (b + 1, .inl (cI, 32, .inl z32))]) H := hP
  have hD : va_D (fun q => b ≤ q) ([(b, .inr (5, [.ref (b + 1), .null, .int 0, .long 0, .int 0])), (b + 1, .inl (cI, 32, .inl z32))]) := hD
  refine lv_aload_n hx hb d_Ta_init_12 rfl (lv_at hl 0 rfl) ?_
  refine lv_bipush (v := 32) hx hb d_Ta_init_13 (by decide) ?_
  refine ep_size (fun hub => ?_)
  have hlb : b + 1 < H.size := (hP 1 _ rfl).lt
  have hsz1 : H.size = b + 2 := by omega
  clear hub hlb
  refine ep_newa (atype := .int) (ty := .int) (h := b + 2) (cA := cI) (a0 := (32, .inl z32)) hx hb (hg _ tw_72) rfl hK 0 rfl (fun h => h) hP hD hS hA rfl (nI_pos (n := 32) (by decide)) (nI_clamp (n := 32) (by decide)) (by show 32 * 4 ≤ 536870912; decide) (by show 1 + 1 ≤ 2; decide) (by show 32 + 32 ≤ 64; decide) d_Ta_init_15 hsz1 (fun H hP hD hS hsz => ?_)
  refine W.widen (k := 2) (n := 64) (by decide) (by decide) ?_
  clear hsz hsz1
  have hP : va_P D cls ([(b, .inr (5, [.ref (b + 1), .null, .int 0, .long 0, .int 0])), (b + 1, .inl (cI, 32, .inl z32)), (b + 2, .inl (cI, 32, .inl z32))]) H := hP
  have hD : va_D (fun q => b ≤ q) ([(b, .inr (5, [.ref (b + 1), .null, .int 0, .long 0, .int 0])), (b + 1, .inl (cI, 32, .inl z32)), (b + 2, .inl (cI, 32, .inl z32))]) := hD
  refine va_putF (D := D) (ci := 5) (v := .ref (b + 2)) (ty := (.array .int)) (C := R_Ta) (T := F_Ta) (N := 5) hx hb hg in_Ta t_Ta t_Ta_ok n_Ta hown hK hP hD hS 0 rfl rfl 1 (Nat.le_of_ble_eq_true rfl) (hg _ tw_149) (fun _ h9 => h9) rfl hmn rfl (by decide +kernel) rfl rfl (Nat.le_of_ble_eq_true rfl) d_Ta_init_17 (fun H locs hP hD hS => ?_)
  have hP : va_P D cls ([(b, .inr (5, [.ref (b + 1), .ref (b + 2), .int 0, .long 0, .int 0])), (b + 1, .inl (cI, 32, .inl z32)), (b + 2, .inl (cI, 32, .inl z32))]) H := hP
  have hD : va_D (fun q => b ≤ q) ([(b, .inr (5, [.ref (b + 1), .ref (b + 2), .int 0, .long 0, .int 0])), (b + 1, .inl (cI, 32, .inl z32)), (b + 2, .inl (cI, 32, .inl z32))]) := hD
  exact W.vret hx hb hr (fun t9 ht hW => ⟨rfl, hS.F ht, by rw [ht]; exact hP⟩) hS.2.2 d_Ta_init_20

abbrev rc_Re_init : Room := { frames := 2, cells := 0, slots := 0, locals := 40 }
set_option maxHeartbeats 4000000 in
set_option maxRecDepth 100000 in
theorem m_Re_init (l : Launch) (D : va_G) (cI cJ cZ cO : ClassId) (b : Nat) : Met l y_Re_init (k_Re_init :: gt) rc_Re_init (Pc0 D cI cJ cZ cO [.ref b] (fun H => va_P D cls ([(b, .inr (6, [.long 0, .int 0, .long 0, .int 0]))]) H ∧ H.size = b + 1)) (Qd (fun q => b ≤ q) none (fun H => va_P D cls (wRe b 0 0 0 0) H)) 0 0 (fun q => b ≤ q) := by
  refine Met.ofW (cc := c_Re_init) (maxL := 1) (ret := none) (by decide) rfl ?_
  intro p e s m args below meth c s₁ B hml hv
  obtain ⟨rfl, hKn, hP, hsz0⟩ := hv
  have hx := B.exec
  have hb := B.bytes
  have hr := B.returns
  have hts := atoms_spec (ws := k_Re_init :: gt) B.pre
  have hg : ∀ w ∈ gt, w.before _ s = true := fun w h => hts w (List.mem_cons_of_mem _ h)
  have hown : s.vm.findClass R_Re = some m.cls := findClass_of_methodNamed B.named
  have hlocks := B.notSynchronized
  have hK := hKn.1
  have hl := lv_entry ([.ref b]) (n := 1) (Nat.le_of_ble_eq_true rfl)
  rw [lg_entry_eq]
  generalize (lg_sl ([.ref b]) ++ List.replicate (1 - (lg_sl ([.ref b])).length) Slot.unset).toArray = ls at hl ⊢
  have hl : lv_has ls 1 [(0, .ref b)] := hl
  have hmn : meth.name = "<init>" := (name_of_methodNamed B.named B.method).1
  have hS : va_S (fun q => b ≤ q) s.heap s.heap [] := va_S.rf
  have hA : ∀ q, s.heap.size ≤ q → b ≤ q := by intro q h9; omega
  have hD : va_D (fun q => b ≤ q) ([(b, .inr (6, [.long 0, .int 0, .long 0, .int 0]))]) := one_D (Nat.le_refl _)
  refine lv_aload_n hx hb d_Re_init_0 rfl (lv_at hl 0 rfl) ?_
  refine ep_callP (ep_toC (va_runIN (b := b) (As := []) (rest := []) ⟨hx, hb, hml, hown, hg⟩ (m_Ct_init l D cI cJ cZ cO b) (⟨ep_cnB (host := "EditablePast") 0 hg tk_Ct_init rfl rfl (hKn.2.1 ("EditablePast$Register", 3, ⟨"EditablePast$Contents", "<init>", "()V"⟩) (by decide +kernel)) tw_4 (by decide +kernel) ⟨(Nat.le_of_ble_eq_true rfl), (Nat.le_of_ble_eq_true rfl)⟩, rfl, hg _ tw_97⟩) ⟨ep_blind, ep_pre hKn (trivial)⟩ rfl rfl hl.1 rfl (lv_room (Nat.le_of_ble_eq_true rfl)) d_Re_init_1 ⟨(Nat.le_of_ble_eq_true rfl), (Nat.le_of_ble_eq_true rfl)⟩)) ?_
  refine W.eq (g2 := F0 m 4 ls []) rfl ?_
  exact W.vret hx hb hr (fun t9 ht hW => ⟨rfl, hS.F ht, by rw [ht]; exact hP⟩) hS.2.2 d_Re_init_4

abbrev rc_Se_init : Room := { frames := 2, cells := 1, slots := 16, locals := 40 }
set_option maxHeartbeats 4000000 in
set_option maxRecDepth 100000 in
theorem m_Se_init (l : Launch) (D : va_G) (cI cJ cZ cO : ClassId) (b : Nat) : Met l y_Se_init (k_Se_init :: gt) rc_Se_init (Pc0 D cI cJ cZ cO [.ref b] (fun H => va_P D cls ([(b, .inr (7, [.null, .int 0, .long 0, .int 0]))]) H ∧ H.size = b + 1)) (Qd (fun q => b ≤ q) none (fun H => va_P D cls (wSe cI b 0 z32 0 0) H)) 1 16 (fun q => b ≤ q) := by
  refine Met.ofW (cc := c_Se_init) (maxL := 1) (ret := none) (by decide) rfl ?_
  intro p e s m args below meth c s₁ B hml hv
  obtain ⟨rfl, hKn, hP, hsz0⟩ := hv
  have hx := B.exec
  have hb := B.bytes
  have hr := B.returns
  have hts := atoms_spec (ws := k_Se_init :: gt) B.pre
  have hg : ∀ w ∈ gt, w.before _ s = true := fun w h => hts w (List.mem_cons_of_mem _ h)
  have hown : s.vm.findClass R_Se = some m.cls := findClass_of_methodNamed B.named
  have hlocks := B.notSynchronized
  have hK := hKn.1
  have hl := lv_entry ([.ref b]) (n := 1) (Nat.le_of_ble_eq_true rfl)
  rw [lg_entry_eq]
  generalize (lg_sl ([.ref b]) ++ List.replicate (1 - (lg_sl ([.ref b])).length) Slot.unset).toArray = ls at hl ⊢
  have hl : lv_has ls 1 [(0, .ref b)] := hl
  have hmn : meth.name = "<init>" := (name_of_methodNamed B.named B.method).1
  have hS : va_S (fun q => b ≤ q) s.heap s.heap [] := va_S.rf
  have hA : ∀ q, s.heap.size ≤ q → b ≤ q := by intro q h9; omega
  have hD : va_D (fun q => b ≤ q) ([(b, .inr (7, [.null, .int 0, .long 0, .int 0]))]) := one_D (Nat.le_refl _)
  refine lv_aload_n hx hb d_Se_init_0 rfl (lv_at hl 0 rfl) ?_
  refine ep_callP (ep_toC (va_runIN (b := b) (As := []) (rest := []) ⟨hx, hb, hml, hown, hg⟩ (m_Ct_init l D cI cJ cZ cO b) (⟨ep_cnB (host := "EditablePast") 0 hg tk_Ct_init rfl rfl (hKn.2.1 ("EditablePast$Sets", 3, ⟨"EditablePast$Contents", "<init>", "()V"⟩) (by decide +kernel)) tw_4 (by decide +kernel) ⟨(Nat.le_of_ble_eq_true rfl), (Nat.le_of_ble_eq_true rfl)⟩, rfl, hg _ tw_97⟩) ⟨ep_blind, ep_pre hKn (trivial)⟩ rfl rfl hl.1 rfl (lv_room (Nat.le_of_ble_eq_true rfl)) d_Se_init_1 ⟨(Nat.le_of_ble_eq_true rfl), (Nat.le_of_ble_eq_true rfl)⟩)) ?_
  refine W.eq (g2 := F0 m 4 ls []) rfl ?_
  refine lv_aload_n hx hb d_Se_init_4 rfl (lv_at hl 0 rfl) ?_
  refine lv_bipush (v := 16) hx hb d_Se_init_5 (by decide) ?_
  refine ep_size (fun hub => ?_)
  have hlb : b < s.heap.size := (hP 0 _ rfl).lt
  have hsz1 : s.heap.size = b + 1 := by omega
  clear hub hlb
  refine ep_newa (atype := .int) (ty := .int) (h := b + 1) (cA := cI) (a0 := (16, .inl z32)) hx hb (hg _ tw_72) rfl hK 0 rfl (fun h => h) hP hD hS hA rfl (nI_pos (n := 16) (by decide)) (nI_clamp (n := 16) (by decide)) (by show 16 * 4 ≤ 536870912; decide) (by show 0 + 1 ≤ 1; decide) (by show 0 + 16 ≤ 16; decide) d_Se_init_7 hsz1 (fun H hP hD hS hsz => ?_)
  refine W.widen (k := 1) (n := 16) (by decide) (by decide) ?_
  clear hsz hsz1
  have hP : va_P D cls ([(b, .inr (7, [.null, .int 0, .long 0, .int 0])), (b + 1, .inl (cI, 16, .inl z32))]) H := hP
  have hD : va_D (fun q => b ≤ q) ([(b, .inr (7, [.null, .int 0, .long 0, .int 0])), (b + 1, .inl (cI, 16, .inl z32))]) := hD
  refine va_putF (D := D) (ci := 7) (v := .ref (b + 1)) (ty := (.array .int)) (C := R_Se) (T := F_Se) (N := 4) hx hb hg in_Se t_Se t_Se_ok n_Se hown hK hP hD hS 0 rfl rfl 0 (Nat.le_of_ble_eq_true rfl) (hg _ tw_190) (fun _ h9 => h9) rfl hmn rfl (by decide +kernel) rfl rfl (Nat.le_of_ble_eq_true rfl) d_Se_init_9 (fun H locs hP hD hS => ?_)
  have hP : va_P D cls ([(b, .inr (7, [.ref (b + 1), .int 0, .long 0, .int 0])), (b + 1, .inl (cI, 16, .inl z32))]) H := hP
  have hD : va_D (fun q => b ≤ q) ([(b, .inr (7, [.ref (b + 1), .int 0, .long 0, .int 0])), (b + 1, .inl (cI, 16, .inl z32))]) := hD
  exact W.vret hx hb hr (fun t9 ht hW => ⟨rfl, hS.F ht, by rw [ht]; exact hP⟩) hS.2.2 d_Se_init_12
