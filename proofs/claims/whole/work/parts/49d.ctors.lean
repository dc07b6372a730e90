/-! constructors (by wip/whole/gen/ctor.py) -/
abbrev rc_Co_init : Room := { frames := 2, cells := 14, slots := 398, locals := 40 }
set_option maxHeartbeats 4000000 in
set_option maxRecDepth 100000 in
theorem m_Co_init (l : Launch) (D : va_G) (cI cJ cZ cO : ClassId) (c9 : Nat) : Met l y_Co_init (k_Co_init :: gt) rc_Co_init (Pc0 D cI cJ cZ cO [.ref c9] (fun H => va_P D cls [(c9, .inr (0, [.int 0, .null, .null]))] H ∧ H.size = c9 + 1)) (Qd (fun q => c9 ≤ q) none (fun H => va_P D cls (wC0 cI cJ cZ c9) H)) 14 398 (fun q => c9 ≤ q) := by
  refine Met.ofW (cc := c_Co_init) (maxL := 1) (ret := none) (by decide) rfl ?_
  intro p e s m args below meth c s₁ B hml hv
  obtain ⟨rfl, hKn, hP, hsz0⟩ := hv
  have hx := B.exec
  have hb := B.bytes
  have hr := B.returns
  have hts := atoms_spec (ws := k_Co_init :: gt) B.pre
  have hg : ∀ w ∈ gt, w.before _ s = true := fun w h => hts w (List.mem_cons_of_mem _ h)
  have hown : s.vm.findClass R_Co = some m.cls := findClass_of_methodNamed B.named
  have hlocks := B.notSynchronized
  have hK := hKn.1
  have hl := lv_entry ([.ref c9]) (n := 1) (Nat.le_of_ble_eq_true rfl)
  rw [lg_entry_eq]
  generalize (lg_sl ([.ref c9]) ++ List.replicate (1 - (lg_sl ([.ref c9])).length) Slot.unset).toArray = ls at hl ⊢
  have hl : lv_has ls 1 [(0, .ref c9)] := hl
  have hmn : meth.name = "<init>" := (name_of_methodNamed B.named B.method).1
  have hS : va_S (fun q => c9 ≤ q) s.heap s.heap [] := va_S.rf
  have hA : ∀ q, s.heap.size ≤ q → c9 ≤ q := by intro q h9; omega
  have hD : va_D (fun q => c9 ≤ q) ([(c9, .inr (0, [.int 0, .null, .null]))]) := one_D (Nat.le_refl _)
  refine lv_aload_n hx hb d_Co_init_0 rfl (lv_at hl 0 rfl) ?_
  refine W.objInit hx hb hown (hg _ tw_36) (hg _ tw_28) (hg _ tk_Ob_init) rfl (hl.1.trans hml.symm) rfl d_Co_init_1 (Nat.le_of_ble_eq_true rfl) (Nat.le_of_ble_eq_true rfl) ?_
  refine W.eq (g2 := F0 m 4 ls []) rfl ?_
  refine lv_aload_n hx hb d_Co_init_4 rfl (lv_at hl 0 rfl) ?_
  refine lv_iconst (v := (-1)) hx hb d_Co_init_5 (by decide) ?_
  refine va_put (D := D) (ci := 0) (v := .int (-1)) (ty := .int) (C := R_Co) (T := F_Co) (N := 3) hx hb hg in_Co t_Co t_Co_ok n_Co hown hK hP hD hS 0 rfl rfl 0 (Nat.le_of_ble_eq_true rfl) (hg _ tw_75) (fun _ h9 => h9) rfl (by decide +kernel) rfl rfl (Nat.le_of_ble_eq_true rfl) d_Co_init_6 (fun H locs hP hD hS => ?_)
  have hP : va_P D cls ([(c9, .inr (0, [.int (-1), .null, .null]))]) H := hP
  have hD : va_D (fun q => c9 ≤ q) ([(c9, .inr (0, [.int (-1), .null, .null]))]) := hD
  refine lv_aload_n hx hb d_Co_init_9 rfl (lv_at hl 0 rfl) ?_
  refine ep_size (fun hub => ?_)
  have hlb : c9 < H.size := (hP 0 _ rfl).lt
  have hsz1 : H.size = c9 + 1 := by omega
  have hlt9 : ∀ (k : Nat) (q : Nat × va_E), ([(c9, .inr (0, [.int (-1), .null, .null]))])[k]? = some q → q.1 < c9 + 1 := fun k q hk => by have h9 := (hP k q hk).lt; rw [hsz1] at h9; exact h9
  have hD0 := hD
  refine ep_new (C := R_Li) (T := F_Li) (N := 7) (ci := 1) (fs := [.int 0, .null, .null, .null, .null, .null, .null]) (h := c9 + 1) hx hb hg in_Li t_Li t_Li_ok hown (hg _ tw_37) (hg _ tw_38) (hg _ tw_3) hK hP hD hS hA rfl (by decide +kernel) (Nat.le_of_ble_eq_true rfl) (Nat.le_of_ble_eq_true rfl) d_Co_init_10 hsz1 (fun H hP hD hS hsz => ?_)
  refine lv_dup hx hb d_Co_init_13 rfl ?_
  refine ep_callC (ep_toC (va_runIN (b := (c9 + 1)) (As := []) (rest := [.ref (c9 + 1), .ref c9]) ⟨hx, hb, hml, hown, hg⟩ (m_Li_init l D cI cJ cZ cO (c9 + 1)) (⟨ep_cnB (host := "EditablePast") 0 hg tk_Li_init rfl rfl (hKn.2.1 ("EditablePast$Collection", 17, ⟨"EditablePast$Line", "<init>", "()V"⟩) (by decide +kernel)) tw_3 (by decide +kernel) ⟨(Nat.le_of_ble_eq_true rfl), (Nat.le_of_ble_eq_true rfl)⟩, rfl, hg _ tw_40⟩) ⟨ep_blind, ep_pre hKn (⟨wo_r hP, hsz⟩)⟩ rfl rfl hl.1 rfl (lv_room (Nat.le_of_ble_eq_true rfl)) d_Co_init_14 ⟨(Nat.le_of_ble_eq_true rfl), (Nat.le_of_ble_eq_true rfl)⟩)) hS (by intro q h9; omega) (fun H locs hsz9 hk1 hP1 hS => ?_)
  refine W.eq (g2 := F0 m 17 ls [.ref (c9 + 1), .ref c9]) rfl ?_
  have hP : va_P D cls ([(c9, .inr (0, [.int (-1), .null, .null]))] ++ wL0 cI cJ cZ (c9 + 1)) H := (wo_kc (wo_l hP) hk1 (fun k q hk h9 => by have h8 := hlt9 k q hk; omega)).app hP1
  have hD : va_D (fun q => c9 ≤ q) (([(c9, .inr (0, [.int (-1), .null, .null]))]) ++ wL0 cI cJ cZ (c9 + 1)) := D_app hD0 (wLi_D.weaken (fun k q hk h9 => by simp only [blk] at h9; omega)) hlt9 (fun k q hk => (wLi_in k q hk).1)
  have hP : va_P D cls ([(c9, .inr (0, [.int (-1), .null, .null]))] ++ wL0 cI cJ cZ (c9 + 1)) H := hP
  have hD : va_D (fun q => c9 ≤ q) ([(c9, .inr (0, [.int (-1), .null, .null]))] ++ wL0 cI cJ cZ (c9 + 1)) := hD
  refine va_putF (D := D) (ci := 0) (v := .ref (c9 + 1)) (ty := (.object "EditablePast$Line")) (C := R_Co) (T := F_Co) (N := 3) hx hb hg in_Co t_Co t_Co_ok n_Co hown hK hP hD hS 0 rfl rfl 1 (Nat.le_of_ble_eq_true rfl) (hg _ tw_77) (fun _ h9 => h9) rfl hmn rfl (by decide +kernel) rfl rfl (Nat.le_of_ble_eq_true rfl) d_Co_init_17 (fun H locs hP hD hS => ?_)
  have hP : va_P D cls ([(c9, .inr (0, [.int (-1), .ref (c9 + 1), .null]))] ++ wL0 cI cJ cZ (c9 + 1)) H := hP
  have hD : va_D (fun q => c9 ≤ q) ([(c9, .inr (0, [.int (-1), .ref (c9 + 1), .null]))] ++ wL0 cI cJ cZ (c9 + 1)) := hD
  refine lv_aload_n hx hb d_Co_init_20 rfl (lv_at hl 0 rfl) ?_
  refine ep_size (fun hub => ?_)
  have hlb : c9 + 7 < H.size := (hP 7 _ rfl).lt
  have hsz1 : H.size = c9 + 8 := by omega
  have hlt9 : ∀ (k : Nat) (q : Nat × va_E), ([(c9, .inr (0, [.int (-1), .ref (c9 + 1), .null]))] ++ wL0 cI cJ cZ (c9 + 1))[k]? = some q → q.1 < c9 + 8 := fun k q hk => by have h9 := (hP k q hk).lt; rw [hsz1] at h9; exact h9
  have hD0 := hD
  refine ep_new (C := R_Li) (T := F_Li) (N := 7) (ci := 1) (fs := [.int 0, .null, .null, .null, .null, .null, .null]) (h := c9 + 8) hx hb hg in_Li t_Li t_Li_ok hown (hg _ tw_37) (hg _ tw_38) (hg _ tw_3) hK hP hD hS hA rfl (by decide +kernel) (Nat.le_of_ble_eq_true rfl) (Nat.le_of_ble_eq_true rfl) d_Co_init_21 hsz1 (fun H hP hD hS hsz => ?_)
  refine lv_dup hx hb d_Co_init_24 rfl ?_
  refine ep_callC (ep_toC (va_runIN (b := (c9 + 8)) (As := []) (rest := [.ref (c9 + 8), .ref c9]) ⟨hx, hb, hml, hown, hg⟩ (m_Li_init l D cI cJ cZ cO (c9 + 8)) (⟨ep_cnB (host := "EditablePast") 0 hg tk_Li_init rfl rfl (hKn.2.1 ("EditablePast$Collection", 17, ⟨"EditablePast$Line", "<init>", "()V"⟩) (by decide +kernel)) tw_3 (by decide +kernel) ⟨(Nat.le_of_ble_eq_true rfl), (Nat.le_of_ble_eq_true rfl)⟩, rfl, hg _ tw_40⟩) ⟨ep_blind, ep_pre hKn (⟨wo_r hP, hsz⟩)⟩ rfl rfl hl.1 rfl (lv_room (Nat.le_of_ble_eq_true rfl)) d_Co_init_25 ⟨(Nat.le_of_ble_eq_true rfl), (Nat.le_of_ble_eq_true rfl)⟩)) hS (by intro q h9; omega) (fun H locs hsz9 hk1 hP1 hS => ?_)
  refine W.eq (g2 := F0 m 28 ls [.ref (c9 + 8), .ref c9]) rfl ?_
  have hP : va_P D cls (([(c9, .inr (0, [.int (-1), .ref (c9 + 1), .null]))] ++ wL0 cI cJ cZ (c9 + 1)) ++ wL0 cI cJ cZ (c9 + 8)) H := (wo_kc (wo_l hP) hk1 (fun k q hk h9 => by have h8 := hlt9 k q hk; omega)).app hP1
  have hD : va_D (fun q => c9 ≤ q) (([(c9, .inr (0, [.int (-1), .ref (c9 + 1), .null]))] ++ wL0 cI cJ cZ (c9 + 1)) ++ wL0 cI cJ cZ (c9 + 8)) := D_app hD0 (wLi_D.weaken (fun k q hk h9 => by simp only [blk] at h9; omega)) hlt9 (fun k q hk => (wLi_in k q hk).1)
  have hP : va_P D cls ([(c9, .inr (0, [.int (-1), .ref (c9 + 1), .null]))] ++ (wL0 cI cJ cZ (c9 + 1) ++ wL0 cI cJ cZ (c9 + 8))) H := hP
  have hD : va_D (fun q => c9 ≤ q) ([(c9, .inr (0, [.int (-1), .ref (c9 + 1), .null]))] ++ (wL0 cI cJ cZ (c9 + 1) ++ wL0 cI cJ cZ (c9 + 8))) := hD
  refine va_putF (D := D) (ci := 0) (v := .ref (c9 + 8)) (ty := (.object "EditablePast$Line")) (C := R_Co) (T := F_Co) (N := 3) hx hb hg in_Co t_Co t_Co_ok n_Co hown hK hP hD hS 0 rfl rfl 2 (Nat.le_of_ble_eq_true rfl) (hg _ tw_79) (fun _ h9 => h9) rfl hmn rfl (by decide +kernel) rfl rfl (Nat.le_of_ble_eq_true rfl) d_Co_init_28 (fun H locs hP hD hS => ?_)
  have hP : va_P D cls ([(c9, .inr (0, [.int (-1), .ref (c9 + 1), .ref (c9 + 8)]))] ++ (wL0 cI cJ cZ (c9 + 1) ++ wL0 cI cJ cZ (c9 + 8))) H := hP
  have hD : va_D (fun q => c9 ≤ q) ([(c9, .inr (0, [.int (-1), .ref (c9 + 1), .ref (c9 + 8)]))] ++ (wL0 cI cJ cZ (c9 + 1) ++ wL0 cI cJ cZ (c9 + 8))) := hD
  exact W.vret hx hb hr (fun t9 ht hW => ⟨rfl, hS.F ht, by rw [ht]; exact hP⟩) hS.2.2 d_Co_init_31
