/-! the law: its start and its loop (by wip/whole/gen/law2.py) -/
theorem lp_go {L i : Nat} (hL : L ≤ 3072) (hi : i ≤ L) (h : ¬ Int32.ofNat L - 6 < nI i) : i + 6 ≤ L := by
  rcases Nat.lt_or_ge L 6 with h6 | h6
  · exfalso
    apply h
    have hneg : Int32.ofNat L - 6 < 0 := by
      rcases (show L = 0 ∨ L = 1 ∨ L = 2 ∨ L = 3 ∨ L = 4 ∨ L = 5 by omega) with rfl | rfl | rfl | rfl | rfl | rfl <;> decide
    exact Int32.lt_of_lt_of_le hneg (nI_pos' (by omega))
  · have e : Int32.ofNat L - 6 = nI (L - 6) := nI_sub (a := L) (b := 6) h6
    rw [e] at h
    rcases Nat.lt_or_ge L (i + 6) with h7 | h7
    · exact absurd (nI_lt (a := L - 6) (b := i) (by omega) (by omega)) h
    · exact h7
section LN
variable {p : Program} {l : Launch} {e : Env} {R : Room} {s : State} {m : MethodId} {args : Array Value} {below : List Frame} {meth : Method} {c : Code} {H : Heap} {locs : List Loc} {cells slots : Nat} {Q : State → Prop}
variable {cc : ByteArray} {pc : Nat} {ls : Array Slot} {rest : List Value} {D : va_G} {cl : List vw_C} {A : Nat → Prop} {tyl : List (ClassId × FieldType)} {H0 : Heap}
/-- a new object, and nothing else -/
theorem ep_new2 {own C : String} {T : u_T} {N ci index : Nat} {Ts : List Cond} (hexec : p.tables.exec = Jvm.exec) (hb : c.code = cc) (hts : ∀ w ∈ Ts, w.before args s = true) (hin : ∀ w ∈ u_ws C T N, w ∈ Ts) (ty : Nat → FieldType) (hty : ∀ k, k < N → parseFieldDescriptor (T k).2.2.1 = some (ty k)) (hown : s.vm.findClass own = some m.cls) (hcl : (Cond.classLink own index C).before args s = true) (hinst : (Cond.instantiable C N).before args s = true) (hini : (Cond.initialized C).before args s = true)
    (hK : va_K D cl tyl s) (hS : va_S A H0 H locs) (hc : cl[ci]? = some (C, T, N)) {fs : List Value} (hfs : ∀ j, j < N → defaultValue (ty j) = vp_V fs j) (hcells : cells + 1 ≤ R.cells) (hslots : slots + N ≤ R.slots) (hdg : decode cc pc = .ok (.new index, 3)) {h : Nat} (hh : H.size = h)
    (kk : ∀ H1 : Heap, va_P D cl [(h, .inr (ci, fs))] H1 → (∀ q : Nat, q < h → H1[q]? = H[q]?) → va_S A H0 H1 locs → H1.size = h + 1 →
      W p l e R s m args below meth c H1 locs (cells + 1) (slots + N) Q (F0 m (pc + 3) ls (.ref h :: rest))) : W p l e R s m args below meth c H locs cells slots Q (F0 m pc ls rest) := by
  subst hh
  have hKn := hK.1 ci _ hc
  refine W.newcK hexec hb hown hcl hinst hini rfl hdg hcells hslots hKn.2.1 rfl fun H1 kC hkC e1 z1 o1 => ?_
  refine kk H1 (fun k x hx => ?_) o1 ⟨Nat.le_trans hS.1 (by omega), fun x h1 h2 => (o1 x (Nat.lt_of_lt_of_le h1 hS.1)).trans (hS.2.1 x h1 h2), hS.2.2⟩ z1
  have hz : k < 1 := (List.getElem?_eq_some_iff.mp hx).1
  rw [show k = 0 by omega] at hx
  cases hx
  exact ⟨_, hc, (u_born ty hts hin hKn hkC e1 hty).to hfs⟩
theorem ep_newa2 {atype : ArrayType} {ty : FieldType} (hexec : p.tables.exec = Jvm.exec) (hb : c.code = cc) (harr : (Cond.arrayClass (newarray.typeOf atype)).before args s = true) (hty : newarray.typeOf atype = ty) (hK : va_K D cl tyl s) (t0 : Nat) {cA : ClassId} (ht : tyl[t0]? = some (cA, ty)) (hbase : va_RA s cA ty → s.vm.findClass ("[" ++ ty.toString) = some cA)
    (hS : va_S A H0 H locs) {n : Int32} {N' : Nat} {a0 : vp_A} (ha : vp_cell cA a0 = arrV cA N' (fun _ => defaultValue ty)) (hn : ¬ n < 0) (hN : n.toNatClampNeg = N') (hbytes : N' * componentBytes ty ≤ 536870912) (hcells : cells + 1 ≤ R.cells) (hslots : slots + N' ≤ R.slots) (hdg : decode cc pc = .ok (.newarray atype, 2)) {h : Nat} (hh : H.size = h)
    (kk : ∀ H1 : Heap, va_P D cl [(h, .inl (cA, a0))] H1 → (∀ q : Nat, q < h → H1[q]? = H[q]?) → va_S A H0 H1 locs → H1.size = h + 1 →
      W p l e R s m args below meth c H1 locs (cells + 1) (slots + N') Q (F0 m (pc + 2) ls (.ref h :: rest))) : W p l e R s m args below meth c H locs cells slots Q (F0 m pc ls (.int n :: rest)) := by
  subst hty
  subst hh
  refine va_newaK hexec hb harr rfl hdg rfl hn hN hbytes hcells hslots rfl fun H1 cB e1 z1 o1 hAr hNm => ?_
  have hEq : cB = cA := Option.some.inj (hNm.symm.trans (hbase (hK.2 t0 _ ht).2))
  subst hEq
  refine kk H1 (fun k x hx => ?_) o1 ⟨Nat.le_trans hS.1 (by omega), fun x h1 h2 => (o1 x (Nat.lt_of_lt_of_le h1 hS.1)).trans (hS.2.1 x h1 h2), hS.2.2⟩ z1
  have hz : k < 1 := (List.getElem?_eq_some_iff.mp hx).1
  rw [show k = 0 by omega] at hx
  cases hx
  show H1[H.size]? = some (vp_cell _ _)
  rw [ha]
  exact e1
end LN
def C0 : Nat → CoT := fun _ => (-1, (0, z32, z32, z32, z32, z64, z32), (0, z32, z32, z32, z32, z64, z32))
def Q0 : ScT := ((0, z32, 0, 0), (0, z32, 0, 0), (0, z32, z32, 0, 0), (0, z32, 0, 0), (0, 0, 0, 0), (0, z32, 0, 0))
def M0 : MT := (0, z32, z32, z32, z32, z32, z32, z32, 0, z32, z32, z32, 0, z64, z32, z64, z32)
theorem Inv0 : Inv C0 M0 := ⟨fun _ => Or.inl rfl, fun j _ => IJ_mk ⟨Nat.zero_le _, Nat.zero_le _, fun _ => Or.inl rfl, rfl, rfl, Or.inl ⟨rfl, rfl⟩⟩⟩
set_option maxHeartbeats 4000000 in
set_option maxRecDepth 100000 in
theorem law_start {p : Program} {l : Launch} {e : Env} {s : State} {m : MethodId} {below : List Frame} {meth : Method} {c : Code} {b : Nat} {D : va_G} {cI cJ cZ cO : ClassId} {o : Nat} {Q : State → Prop} (hx : p.tables.exec = Jvm.exec) (hb : c.code = code) (hml : c.maxLocals = 8) (hown : s.vm.findClass R_Lw = some m.cls) (hg : ∀ w ∈ gt, w.before #[Value.ref b] s = true) (hKn : Kn D cI cJ cZ cO s) (hAO : va_AO "EditablePast$Collection" s) (ho : o = s.heap.size)
    (kk : ∀ (H : Heap) (locs : List Loc) (ls : Array Slot) (fo : Nat → Int64), lv_has ls 8 [(4, .int (nI (6 * 0))), (0, .ref b), (1, .ref o), (2, .ref (o + 74)), (3, .ref (o + 89))] → LI D cI cJ cZ cO o C0 M0 fo H → va_S (fun q => s.heap.size ≤ q) s.heap H locs → W p l e room_1 s m #[Value.ref b] below meth c H locs 90 3082 Q (F0 m 23 ls [])) : W p l e room_1 s m #[Value.ref b] below meth c s.heap [] 0 0 Q (entryFrame m ([Value.ref b] : List Value).toArray 8) := by
  have hK := hKn.1
  have hl := lv_entry ([.ref b]) (n := 8) (Nat.le_of_ble_eq_true rfl)
  rw [lg_entry_eq]
  generalize (lg_sl ([.ref b]) ++ List.replicate (8 - (lg_sl ([.ref b])).length) Slot.unset).toArray = ls at hl ⊢
  have hl : lv_has ls 8 [(0, .ref b)] := hl
  have hS : va_S (fun q => s.heap.size ≤ q) s.heap s.heap [] := va_S.rf
  refine ep_new2 (own := R_Lw) (C := R_EP) (T := F_EP) (N := 7) (ci := 8) (fs := [.null, .null, .null, .null, .null, .null, .null]) (h := o) hx hb hg in_EP t_EP t_EP_ok hown (hg _ tw_22) (hg _ tw_23) (hg _ tw_1) hK hS rfl (by decide +kernel) (by show 0 + 1 ≤ 601024; decide) (by show 0 + 7 ≤ 7293034; decide) d_Lw_law_0 ho.symm (fun H hP ho1 hS hsz => ?_)
  refine W.widen (k := 1) (n := 7) (by decide) (by decide) ?_
  refine lv_dup hx hb d_Lw_law_3 rfl ?_
  refine ep_callC (ep_toC (va_runI (b := o) (As := []) (rest := [.ref o]) ⟨hx, hb, hml, hown, hg⟩ (m_EP_init l D cI cJ cZ cO o) (cwI 0 hg (gd_of (gd_c tk_EP_init)) rfl rfl rfl (hg _ tw_1) (hg _ tw_24) (hg _ tw_25) rfl (by decide +kernel) ⟨(Nat.le_of_ble_eq_true rfl), (Nat.le_of_ble_eq_true rfl)⟩) ⟨ep_blindA, ep_preA hKn hAO ⟨hP, hsz⟩⟩ rfl rfl hl.1 rfl (lv_room (Nat.le_of_ble_eq_true rfl)) d_Lw_law_4 ⟨by show 1 + 73 ≤ 601024; decide, by show 7 + 1809 ≤ 7293034; decide⟩)) hS (by intro q9 h9; have h8 : o ≤ q9 := h9; show s.heap.size ≤ q9; omega) (fun H locs hsz9 hk1 hP1 hS => ?_)
  refine W.eq (g2 := F0 m 7 ls [.ref o]) rfl ?_
  refine W.widen (k := 74) (n := 1816) (by decide) (by decide) ?_
  obtain ⟨hE, hC, q1, q2, q3, q4, q5, q6⟩ := hP1
  have hPC : PC D cI cJ cZ cO o C0 H := ⟨Q0, hE, fun j hj => ⟨wo_l (hC j hj), wo_l (wo_r (hC j hj)), wo_r (wo_r (hC j hj))⟩, q1, q2, q3, q4, q5, q6⟩
  refine ep_size (fun hub => ?_)
  have hlb : o + 72 + 1 < H.size := (q6 1 _ rfl).lt
  have hsz1 : H.size = o + 74 := by omega
  clear hub hlb hE hC q1 q2 q3 q4 q5 q6 hk1 hsz9 hsz hP ho1
  refine lv_astore_n (lv' := [(1, .ref o), (0, .ref b)]) hx hb d_Lw_law_7 rfl hl (by decide) rfl (fun ls hl => ?_)
  refine ep_new2 (own := R_Lw) (C := R_Md) (T := F_Md) (N := 17) (ci := 9) (fs := [.int 0, .null, .null, .null, .null, .null, .null, .null, .int 0, .null, .null, .null, .long 0, .null, .null, .null, .null]) (h := o + 74) hx hb hg in_Md t_Md t_Md_ok hown (hg _ tw_700) (hg _ tw_701) (hg _ tw_12) hK hS rfl (by decide +kernel) (by show 74 + 1 ≤ 601024; decide) (by show 1816 + 17 ≤ 7293034; decide) d_Lw_law_8 hsz1 (fun H hP ho1 hS hsz => ?_)
  refine W.widen (k := 75) (n := 1833) (by decide) (by decide) ?_
  have hPC := hPC.kept (A := fun _ => False) (fun x9 h9 _ => ho1 x9 (by omega)) (fun x9 h9 => h9.elim)
  refine lv_dup hx hb d_Lw_law_11 rfl ?_
  refine ep_callC (ep_toC (va_runI (b := (o + 74)) (As := []) (rest := [.ref (o + 74)]) ⟨hx, hb, hml, hown, hg⟩ (m_Md_init l D cI cJ cZ cO (o + 74)) (cwI 0 hg (gd_of (gd_c tk_Md_init)) rfl rfl rfl (hg _ tw_12) (hg _ tw_702) (hg _ tw_703) rfl (by decide +kernel) ⟨(Nat.le_of_ble_eq_true rfl), (Nat.le_of_ble_eq_true rfl)⟩) ⟨ep_blind, ep_pre hKn ⟨hP, hsz⟩⟩ rfl rfl hl.1 rfl (lv_room (Nat.le_of_ble_eq_true rfl)) d_Lw_law_12 ⟨by show 75 + 14 ≤ 601024; decide, by show 1833 + 1248 ≤ 7293034; decide⟩)) hS (by intro q9 h9; have h8 : o + 74 ≤ q9 := h9; show s.heap.size ≤ q9; omega) (fun H locs hsz9 hk1 hMw hS => ?_)
  refine W.eq (g2 := F0 m 15 ls [.ref (o + 74)]) rfl ?_
  refine W.widen (k := 89) (n := 3081) (by decide) (by decide) ?_
  have hPC := hPC.kept hk1 (fun x9 h9 => Or.inr h9)
  refine ep_size (fun hub => ?_)
  have hlb : o + 74 + 14 < H.size := (hMw 14 _ rfl).lt
  have hsz1 : H.size = o + 89 := by omega
  clear hub hlb hk1 hsz9 hsz hP ho1
  refine lv_astore_n (lv' := [(2, .ref (o + 74)), (1, .ref o), (0, .ref b)]) hx hb d_Lw_law_15 rfl hl (by decide) rfl (fun ls hl => ?_)
  refine lv_iconst (v := 1) hx hb d_Lw_law_16 (by decide) ?_
  refine ep_newa2 (atype := .long) (ty := .long) (h := o + 89) (cA := cJ) (N' := 1) (a0 := (1, .inr (.inl z64))) hx hb (hg _ tw_73) rfl hK 1 rfl (fun h => h) hS rfl (by decide) (by decide) (by show 1 * 8 ≤ 536870912; decide) (by show 89 + 1 ≤ 601024; decide) (by show 3081 + 1 ≤ 7293034; decide) d_Lw_law_17 hsz1 (fun H hOw ho1 hS hsz => ?_)
  refine W.widen (k := 90) (n := 3082) (by decide) (by decide) ?_
  have hPC := hPC.kept (A := fun _ => False) (fun x9 h9 _ => ho1 x9 (by omega)) (fun x9 h9 => h9.elim)
  have hMw := wo_kc (A := fun _ => False) hMw (fun x9 h9 _ => ho1 x9 (by omega)) (fun _ _ _ h9 => h9)
  refine lv_astore_n (lv' := [(3, .ref (o + 89)), (2, .ref (o + 74)), (1, .ref o), (0, .ref b)]) hx hb d_Lw_law_19 rfl hl (by decide) rfl (fun ls hl => ?_)
  refine lv_iconst (v := 0) hx hb d_Lw_law_20 (by decide) ?_
  refine lv_istore (lv' := [(4, .int 0), (3, .ref (o + 89)), (2, .ref (o + 74)), (1, .ref o), (0, .ref b)]) hx hb d_Lw_law_21 hl (by decide) rfl (fun ls hl => ?_)
  exact kk H locs ls z64 (lv_sub hl [0, 4, 3, 2, 1] rfl) ⟨hPC, hMw, hOw⟩ hS
set_option maxHeartbeats 4000000 in
theorem law_head {p : Program} {l : Launch} {e : Env} {s : State} {m : MethodId} {below : List Frame} {meth : Method} {c : Code} {b L : Nat} {xs : Nat → Int32} {o : Nat} {Q : State → Prop} (hx : p.tables.exec = Jvm.exec) (hb : c.code = code) (hX : va_X b L xs s s.heap) (hbl : b < s.heap.size) (hL : L ≤ 3072) {H : Heap} {locs : List Loc} {cells slots i : Nat} {ls : Array Slot} (hi : 6 * i ≤ L) (hl : lv_has ls 8 [(4, .int (nI (6 * i))), (0, .ref b), (1, .ref o), (2, .ref (o + 74)), (3, .ref (o + 89))]) (hS : va_S (fun q => s.heap.size ≤ q) s.heap H locs)
    (kt : W p l e room_1 s m #[Value.ref b] below meth c H locs cells slots Q (F0 m 1353 ls [])) (kf : 6 * i + 6 ≤ L → W p l e room_1 s m #[Value.ref b] below meth c H locs cells slots Q (F0 m 33 ls [])) : W p l e room_1 s m #[Value.ref b] below meth c H locs cells slots Q (F0 m 23 ls []) := by
  refine lv_iload hx hb d_Lw_law_23 (lv_at hl 0 rfl) ?_
  refine lv_aload_n hx hb d_Lw_law_25 rfl (lv_at hl 1 rfl) ?_
  refine va_slen hx hb hX hbl (show ¬ s.heap.size ≤ b by omega) hS d_Lw_law_26 ?_
  refine lv_bipush (v := 6) hx hb d_Lw_law_27 (by decide) ?_
  refine lv_isub hx hb d_Lw_law_29 ?_
  exact lv_icmp_gt (tgt := 1353) hx hb d_Lw_law_30 (by decide) (fun _ => kt) (fun hc => kf (lp_go hL hi hc))
set_option maxHeartbeats 4000000 in
set_option maxRecDepth 100000 in
theorem law_loop {p : Program} {l : Launch} {e : Env} {s : State} {m : MethodId} {below : List Frame} {meth : Method} {c : Code} {b L : Nat} {xs : Nat → Int32} {D : va_G} {cI cJ cZ cO : ClassId} {o : Nat} {Q : State → Prop} (hx : p.tables.exec = Jvm.exec) (hb : c.code = code) (hml : c.maxLocals = 8) (hown : s.vm.findClass R_Lw = some m.cls) (hg : ∀ w ∈ gt, w.before #[Value.ref b] s = true) (hKn : Kn D cI cJ cZ cO s) (hNx : Nx s) (hZ : Zs (fun q => s.heap.size ≤ q) s s.heap) (hX : va_X b L xs s s.heap) (hbl : b < s.heap.size) (ho : o = s.heap.size) (hL : L ≤ 3072) (hlt : l.stackTraces = false)
    (kz : ∀ (H : Heap) (locs : List Loc) (ls : Array Slot) (i : Nat), va_S (fun q => s.heap.size ≤ q) s.heap H locs → 6 * i ≤ L → W p l e room_1 s m #[Value.ref b] below meth c H locs (90 + i) (3082 + 6 * i) Q (F0 m 1353 ls [])) :
    ∀ (k i : Nat) (H : Heap) (locs : List Loc) (ls : Array Slot) (C : Nat → CoT) (M : MT) (fo : Nat → Int64), L < 6 * (i + k) + 6 → 6 * i ≤ L → lv_has ls 8 [(4, .int (nI (6 * i))), (0, .ref b), (1, .ref o), (2, .ref (o + 74)), (3, .ref (o + 89))] → LI D cI cJ cZ cO o C M fo H → va_S (fun q => s.heap.size ≤ q) s.heap H locs → Inv C M → W p l e room_1 s m #[Value.ref b] below meth c H locs (90 + i) (3082 + 6 * i) Q (F0 m 23 ls []) := by
  intro k
  induction k with
  | zero =>
    intro i H locs ls C M fo hk hi hl hLI hS hI
    exact law_head hx hb hX hbl hL hi hl hS (kz H locs ls i hS hi) (fun h => absurd h (by omega))
  | succ k ih =>
    intro i H locs ls C M fo hk hi hl hLI hS hI
    refine law_head hx hb hX hbl hL hi hl hS (kz H locs ls i hS hi) (fun h6 => ?_)
    have next : ∀ (H1 : Heap) (locs1 : List Loc) (ls1 : Array Slot) (C1 : Nat → CoT) (M1 : MT) (fo1 : Nat → Int64), lv_has ls1 8 [(4, .int (nI (6 * i))), (0, .ref b), (1, .ref o), (2, .ref (o + 74)), (3, .ref (o + 89))] → LI D cI cJ cZ cO o C1 M1 fo1 H1 → va_S (fun q => s.heap.size ≤ q) s.heap H1 locs1 → Inv C1 M1 → W p l e room_1 s m #[Value.ref b] below meth c H1 locs1 (90 + i + 1) (3082 + 6 * i + 6) Q (F0 m 1347 ls1 []) := by
      intro H1 locs1 ls1 C1 M1 fo1 hl1 hLI1 hS1 hI1
      refine W.widen (k := 90 + (i + 1)) (n := 3082 + 6 * (i + 1)) (by omega) (by omega) ?_
      refine lv_iinc (k := 0) (x := nI (6 * i)) (v := nI (6 * (i + 1))) (lv' := [(4, .int (nI (6 * (i + 1)))), (0, .ref b), (1, .ref o), (2, .ref (o + 74)), (3, .ref (o + 89))]) hx hb d_Lw_law_1347 hl1 rfl (by rw [show 6 * (i + 1) = 6 * i + 6 by omega]; exact nI_add (6 * i) 6) (by decide) rfl (fun ls2 hl2 => ?_)
      refine lv_goto (tgt := 23) hx hb d_Lw_law_1350 (by decide) ?_
      exact ih (i + 1) H1 locs1 ls2 C1 M1 fo1 (by omega) (by omega) hl2 hLI1 hS1 hI1
    have hc9 : 90 + i + 1 ≤ 601024 := by omega
    have hs9 : 3082 + 6 * i + 6 ≤ 7293034 := by omega
    obtain ⟨q, hq⟩ := hLI.1
    refine lv_aload_n hx hb d_Lw_law_33 rfl (lv_at hl 1 rfl) ?_
    refine lv_iload hx hb d_Lw_law_34 (lv_at hl 0 rfl) ?_
    refine ep_sld hx hb hX hbl (show ¬ s.heap.size ≤ b by omega) hS (i := 6 * i) (by omega) (by omega) d_Lw_law_36 ?_
    refine lv_bipush (v := 31) hx hb d_Lw_law_37 (by decide) ?_
    refine lv_iand hx hb d_Lw_law_39 ?_
    generalize xs (6 * i) &&& 31 = x9
    by_cases hr : x9.toInt < 0 ∨ 16 < x9.toInt
    · refine lv_tableOut (tgt := 1347) hx hb d_Lw_law_40 hr (by decide) ?_
      exact W.widen (k := 90 + i + 1) (n := 3082 + 6 * i + 6) (by omega) (by omega) (next H locs ls C M fo hl hLI hS hI)
    · obtain ⟨n9, hn9, hx9⟩ : ∃ n : Nat, n < 17 ∧ x9.toInt = (n : Int) := ⟨x9.toInt.toNat, by omega, by omega⟩
      have e17 : n9 = 0 ∨ n9 = 1 ∨ n9 = 2 ∨ n9 = 3 ∨ n9 = 4 ∨ n9 = 5 ∨ n9 = 6 ∨ n9 = 7 ∨ n9 = 8 ∨ n9 = 9 ∨ n9 = 10 ∨ n9 = 11 ∨ n9 = 12 ∨ n9 = 13 ∨ n9 = 14 ∨ n9 = 15 ∨ n9 = 16 := by omega
      rcases e17 with rfl | rfl | rfl | rfl | rfl | rfl | rfl | rfl | rfl | rfl | rfl | rfl | rfl | rfl | rfl | rfl | rfl
      · exact lv_tableIn (off := 84) (tgt := 124) hx hb d_Lw_law_40 (by omega) (by omega) (by rw [hx9]; rfl) (by decide) (lc_open (Iv := Inv) hx hb hml hown hg hKn hNx hZ hX hbl ho hL h6 hl hLI hS hc9 hs9 (op_open l hlt D cI cJ cZ cO o C q H hq M hI _ _) next)
      · exact lv_tableIn (off := 132) (tgt := 172) hx hb d_Lw_law_40 (by omega) (by omega) (by rw [hx9]; rfl) (by decide) (lc_close (Iv := Inv) hx hb hml hown hg hKn hNx hZ hX hbl ho hL h6 hl hLI hS hc9 hs9 (op_close l hlt D cI cJ cZ cO o C q H hq M hI _) next)
      · exact lv_tableIn (off := 188) (tgt := 228) hx hb d_Lw_law_40 (by omega) (by omega) (by rw [hx9]; rfl) (by decide) (lc_put (Iv := Inv) hx hb hml hown hg hKn hNx hZ hX hbl ho hL h6 hl hLI hS hc9 hs9 (op_put l hlt D cI cJ cZ cO o C q H hq M hI _ _ _ _ _) next)
      · exact lv_tableIn (off := 272) (tgt := 312) hx hb d_Lw_law_40 (by omega) (by omega) (by rw [hx9]; rfl) (by decide) (lc_strike (Iv := Inv) hx hb hml hown hg hKn hNx hZ hX hbl ho hL h6 hl hLI hS hc9 hs9 (op_strike l hlt D cI cJ cZ cO o C q H hq M hI _ _) next)
      · exact lv_tableIn (off := 347) (tgt := 387) hx hb d_Lw_law_40 (by omega) (by omega) (by rw [hx9]; rfl) (by decide) (lc_shift (Iv := Inv) hx hb hml hown hg hKn hNx hZ hX hbl ho hL h6 hl hLI hS hc9 hs9 (op_shift l hlt D cI cJ cZ cO o C q H hq M hI _ _ _) next)
      · exact lv_tableIn (off := 407) (tgt := 447) hx hb d_Lw_law_40 (by omega) (by omega) (by rw [hx9]; rfl) (by decide) (lc_front (Iv := Inv) hx hb hml hown hg hKn hNx hZ hX hbl ho hL h6 hl hLI hS hc9 hs9 (op_front l hlt D cI cJ cZ cO o C q H hq M hI _ _) next)
      · exact lv_tableIn (off := 475) (tgt := 515) hx hb d_Lw_law_40 (by omega) (by omega) (by rw [hx9]; rfl) (by decide) (lc_size (Iv := Inv) hx hb hml hown hg hKn hNx hZ hX hbl ho hL h6 hl hLI hS hc9 hs9 (op_size l hlt D cI cJ cZ cO o C q H hq M hI _ _) next)
      · exact lv_tableIn (off := 543) (tgt := 583) hx hb d_Lw_law_40 (by omega) (by omega) (by rw [hx9]; rfl) (by decide) (lc_at (Iv := Inv) hx hb hml hown hg hKn hNx hZ hX hbl ho hL h6 hl hLI hS hc9 hs9 (op_at l hlt D cI cJ cZ cO o C q H hq M hI _ _ _) next)
      · exact lv_tableIn (off := 623) (tgt := 663) hx hb d_Lw_law_40 (by omega) (by omega) (by rw [hx9]; rfl) (by decide) (lc_least (Iv := Inv) hx hb hml hown hg hKn hNx hZ hX hbl ho hL h6 hl hLI hS hc9 hs9 (op_least l hlt D cI cJ cZ cO o C q H hq M hI _ _ _) next)
      · exact lv_tableIn (off := 703) (tgt := 743) hx hb d_Lw_law_40 (by omega) (by omega) (by rw [hx9]; rfl) (by decide) (lc_sum (Iv := Inv) hx hb hml hown hg hKn hNx hZ hX hbl ho hL h6 hl hLI hS hc9 hs9 (op_sum l hlt D cI cJ cZ cO o C q H hq M hI _ _) next)
      · exact lv_tableIn (off := 770) (tgt := 810) hx hb d_Lw_law_40 (by omega) (by omega) (by rw [hx9]; rfl) (by decide) (lc_together (Iv := Inv) hx hb hml hown hg hKn hNx hZ hX hbl ho hL h6 hl hLI hS hc9 hs9 (op_together l hlt D cI cJ cZ cO o C q H hq M hI _ _ _ _) next)
      · exact lv_tableIn (off := 869) (tgt := 909) hx hb d_Lw_law_40 (by omega) (by omega) (by rw [hx9]; rfl) (by decide) (lc_result (Iv := Inv) hx hb hml hown hg hKn hNx hZ hX hbl ho hL h6 hl hLI hS hc9 hs9 (op_result l hlt D cI cJ cZ cO o C q H hq M hI _ _) next)
      · exact lv_tableIn (off := 936) (tgt := 976) hx hb d_Lw_law_40 (by omega) (by omega) (by rw [hx9]; rfl) (by decide) (lc_works (Iv := Inv) hx hb hml hown hg hKn hNx hZ hX hbl ho hL h6 hl hLI hS hc9 hs9 (op_works l hlt D cI cJ cZ cO o C q H hq M hI _ _) next)
      · exact lv_tableIn (off := 1011) (tgt := 1051) hx hb d_Lw_law_40 (by omega) (by omega) (by rw [hx9]; rfl) (by decide) (lc_effective (Iv := Inv) hx hb hml hown hg hKn hNx hZ hX hbl ho hL h6 hl hLI hS hc9 hs9 (op_effective l hlt D cI cJ cZ cO o C q H hq M hI _ _ _) next)
      · exact lv_tableIn (off := 1091) (tgt := 1131) hx hb d_Lw_law_40 (by omega) (by omega) (by rw [hx9]; rfl) (by decide) (lc_firstChange (Iv := Inv) hx hb hml hown hg hKn hNx hZ hX hbl ho hL h6 hl hLI hS hc9 hs9 (op_firstChange l hlt D cI cJ cZ cO o C q H hq M hI _ _ _) next)
      · exact lv_tableIn (off := 1171) (tgt := 1211) hx hb d_Lw_law_40 (by omega) (by omega) (by rw [hx9]; rfl) (by decide) (lc_operations (Iv := Inv) hx hb hml hown hg hKn hNx hZ hX hbl ho hL h6 hl hLI hS hc9 hs9 (op_operations l hlt D cI cJ cZ cO o C q H hq M hI _) next)
      · exact lv_tableIn (off := 1227) (tgt := 1267) hx hb d_Lw_law_40 (by omega) (by omega) (by rw [hx9]; rfl) (by decide) (lc_operation (Iv := Inv) hx hb hml hown hg hKn hNx hZ hX hbl ho hL h6 hl hLI hS hc9 hs9 (op_operation l hlt D cI cJ cZ cO o C q H hq M hI _ _ _) next)
