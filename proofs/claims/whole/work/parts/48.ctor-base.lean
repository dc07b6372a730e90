/-! making: where a new cell comes to lie is the heap's size -/
section CB
variable {p : Program} {l : Launch} {e : Env} {R : Room} {s : State} {m : MethodId} {args : Array Value} {below : List Frame} {meth : Method} {c : Code} {H : Heap} {locs : List Loc} {cells slots : Nat} {Q : State → Prop}
variable {cc : ByteArray} {pc : Nat} {ls : Array Slot} {rest : List Value} {D : va_G} {cl : List vw_C} {A : Nat → Prop} {tyl : List (ClassId × FieldType)} {ws : va_W} {H0 : Heap}
theorem ep_size {g : JFrame} (kk : H.size ≤ s.heap.size + cells → W p l e R s m args below meth c H locs cells slots Q g) : W p l e R s m args below meth c H locs cells slots Q g := fun T hT X =>
  kk (by have h := X.heapSize; rw [hT] at h; exact h) T hT X
theorem ep_new {own C : String} {T : u_T} {N ci index : Nat} {Ts : List Cond} (hexec : p.tables.exec = Jvm.exec) (hb : c.code = cc) (hts : ∀ w ∈ Ts, w.before args s = true) (hin : ∀ w ∈ u_ws C T N, w ∈ Ts) (ty : Nat → FieldType) (hty : ∀ k, k < N → parseFieldDescriptor (T k).2.2.1 = some (ty k)) (hown : s.vm.findClass own = some m.cls) (hcl : (Cond.classLink own index C).before args s = true) (hinst : (Cond.instantiable C N).before args s = true) (hini : (Cond.initialized C).before args s = true)
    (hK : va_K D cl tyl s) (hP : va_P D cl ws H) (hD : va_D A ws) (hS : va_S A H0 H locs) (hA : ∀ q, H0.size ≤ q → A q) (hc : cl[ci]? = some (C, T, N)) {fs : List Value} (hfs : ∀ j, j < N → defaultValue (ty j) = vp_V fs j) (hcells : cells + 1 ≤ R.cells) (hslots : slots + N ≤ R.slots) (hdg : decode cc pc = .ok (.new index, 3)) {h : Nat} (hh : H.size = h)
    (kk : ∀ H1 : Heap, va_P D cl (ws ++ [(h, .inr (ci, fs))]) H1 → va_D A (ws ++ [(h, .inr (ci, fs))]) → va_S A H0 H1 locs → H1.size = h + 1 →
      W p l e R s m args below meth c H1 locs (cells + 1) (slots + N) Q (F0 m (pc + 3) ls (.ref h :: rest))) : W p l e R s m args below meth c H locs cells slots Q (F0 m pc ls rest) := by
  subst hh
  have hKn := hK.1 ci _ hc
  refine W.newcK hexec hb hown hcl hinst hini rfl hdg hcells hslots hKn.2.1 rfl fun H1 kC hkC e1 z1 o1 => ?_
  have hk : ∀ (k : Nat) (x : Nat × va_E), ws[k]? = some x → H1[x.1]? = H[x.1]? := fun k x hx => o1 x.1 ((hP k x hx).lt)
  refine kk H1 ((hP.kept hk).app (fun k x hx => ?_)) (hD.push hP rfl (hA _ hS.1)) ⟨Nat.le_trans hS.1 (by omega), fun x h1 h2 => (o1 x (Nat.lt_of_lt_of_le h1 hS.1)).trans (hS.2.1 x h1 h2), hS.2.2⟩ z1
  have hz : k < 1 := (List.getElem?_eq_some_iff.mp hx).1
  rw [show k = 0 by omega] at hx
  cases hx
  exact ⟨_, hc, (u_born ty hts hin hKn hkC e1 hty).to hfs⟩
theorem ep_newa {atype : ArrayType} {ty : FieldType} (hexec : p.tables.exec = Jvm.exec) (hb : c.code = cc) (harr : (Cond.arrayClass (newarray.typeOf atype)).before args s = true) (hty : newarray.typeOf atype = ty) (hK : va_K D cl tyl s) (t0 : Nat) {cA : ClassId} (ht : tyl[t0]? = some (cA, ty)) (hbase : va_RA s cA ty → s.vm.findClass ("[" ++ ty.toString) = some cA)
    (hP : va_P D cl ws H) (hD : va_D A ws) (hS : va_S A H0 H locs) (hA : ∀ q, H0.size ≤ q → A q) {n : Int32} {N' : Nat} {a0 : vp_A} (ha : vp_cell cA a0 = arrV cA N' (fun _ => defaultValue ty)) (hn : ¬ n < 0) (hN : n.toNatClampNeg = N') (hbytes : N' * componentBytes ty ≤ 536870912) (hcells : cells + 1 ≤ R.cells) (hslots : slots + N' ≤ R.slots) (hdg : decode cc pc = .ok (.newarray atype, 2)) {h : Nat} (hh : H.size = h)
    (kk : ∀ H1 : Heap, va_P D cl (ws ++ [(h, .inl (cA, a0))]) H1 → va_D A (ws ++ [(h, .inl (cA, a0))]) → va_S A H0 H1 locs → H1.size = h + 1 →
      W p l e R s m args below meth c H1 locs (cells + 1) (slots + N') Q (F0 m (pc + 2) ls (.ref h :: rest))) : W p l e R s m args below meth c H locs cells slots Q (F0 m pc ls (.int n :: rest)) := by
  subst hty
  subst hh
  refine va_newaK hexec hb harr rfl hdg rfl hn hN hbytes hcells hslots rfl fun H1 cB e1 z1 o1 hAr hNm => ?_
  have hEq : cB = cA := Option.some.inj (hNm.symm.trans (hbase (hK.2 t0 _ ht).2))
  subst hEq
  have hk : ∀ (k : Nat) (x : Nat × va_E), ws[k]? = some x → H1[x.1]? = H[x.1]? := fun k x hx => o1 x.1 ((hP k x hx).lt)
  refine kk H1 ((hP.kept hk).app (fun k x hx => ?_)) (hD.push hP rfl (hA _ hS.1)) ⟨Nat.le_trans hS.1 (by omega), fun x h1 h2 => (o1 x (Nat.lt_of_lt_of_le h1 hS.1)).trans (hS.2.1 x h1 h2), hS.2.2⟩ z1
  have hz : k < 1 := (List.getElem?_eq_some_iff.mp hx).1
  rw [show k = 0 by omega] at hx
  cases hx
  show H1[H.size]? = some (vp_cell _ _)
  rw [ha]
  exact e1
theorem ep_newq {own C : String} {index : Nat} (hexec : p.tables.exec = Jvm.exec) (hb : c.code = cc) (hown : s.vm.findClass own = some m.cls) (hclink : (Cond.classLink own index C).before args s = true) (hover : va_AO C s) (hK : va_K D cl tyl s) (t0 : Nat) {cA : ClassId} (ht : tyl[t0]? = some (cA, .object C)) (hP : va_P D cl ws H) (hD : va_D A ws) (hS : va_S A H0 H locs) (hA : ∀ q, H0.size ≤ q → A q)
    {n : Int32} {N' : Nat} (hn : ¬ n < 0) (hN : n.toNatClampNeg = N') (hbytes : N' * 4 ≤ 536870912) (hcells : cells + 1 ≤ R.cells) (hslots : slots + N' ≤ R.slots) (hdg : decode cc pc = .ok (.anewarray index, 3)) {h : Nat} (hh : H.size = h)
    (kk : ∀ H1 : Heap, va_P D cl (ws ++ [(h, .inl (cA, N', .inr (.inr (.inr (.inr (fun _ => none))))))]) H1 → va_D A (ws ++ [(h, .inl (cA, N', .inr (.inr (.inr (.inr (fun _ => none))))))]) → va_S A H0 H1 locs → H1.size = h + 1 →
      W p l e R s m args below meth c H1 locs (cells + 1) (slots + N') Q (F0 m (pc + 3) ls (.ref h :: rest))) : W p l e R s m args below meth c H locs cells slots Q (F0 m pc ls (.int n :: rest)) := by
  subst hN
  subst hh
  refine W.anew hexec hb hown hclink (va_AO.use hover) rfl hdg rfl hn hbytes hcells hslots fun cB kA comp f1 f2 f3 f4 => ?_
  have hEq : cB = cA := by
    obtain ⟨k9, c9, -, -, -, h9⟩ := (hK.2 t0 _ ht).2
    exact Option.some.inj (f1.symm.trans h9)
  subst hEq
  generalize hH1 : H.push ({ cls := cB, slots := Array.replicate n.toNatClampNeg .null, vm := .none } : Cell) = H1
  have z1 : H1.size = H.size + 1 := by rw [← hH1, Array.size_push]
  have e1 : H1[H.size]? = some (arrV cB n.toNatClampNeg (fun _ => .null)) := by rw [← hH1, Array.getElem?_push_size, ← arrV_new]
  have o1 : ∀ q : Nat, q < H.size → H1[q]? = H[q]? := fun q hq => by rw [← hH1, Array.getElem?_push, if_neg (Nat.ne_of_lt hq)]
  have hk : ∀ (k : Nat) (x : Nat × va_E), ws[k]? = some x → H1[x.1]? = H[x.1]? := fun k x hx => o1 x.1 ((hP k x hx).lt)
  refine kk H1 ((hP.kept hk).app (fun k x hx => ?_)) (hD.push hP rfl (hA _ hS.1)) ⟨Nat.le_trans hS.1 (by omega), fun x h1 h2 => (o1 x (Nat.lt_of_lt_of_le h1 hS.1)).trans (hS.2.1 x h1 h2), hS.2.2⟩ z1
  have hz : k < 1 := (List.getElem?_eq_some_iff.mp hx).1
  rw [show k = 0 by omega] at hx
  cases hx
  show H1[H.size]? = some (vp_cell _ _)
  rw [vp_cell_q]
  exact e1
end CB
theorem D_app {A : Nat → Prop} {ws w2 : va_W} {h : Nat} (h1 : va_D A ws) (h2 : va_D A w2) (hlt : ∀ (k : Nat) (q : Nat × va_E), ws[k]? = some q → q.1 < h) (hge : ∀ (k : Nat) (q : Nat × va_E), w2[k]? = some q → h ≤ q.1) : va_D A (ws ++ w2) :=
  h1.app h2 (fun i j p q hp hq he => by have := hlt i p hp; have := hge j q hq; omega)
abbrev z32 : Nat → Int32 := fun _ => 0
abbrev z64 : Nat → Int64 := fun _ => 0
abbrev wL0 (cI cJ cZ : ClassId) (a : Nat) : va_W := wLi cI cJ cZ a 0 z32 z32 z32 z32 z64 z32
abbrev wC0 (cI cJ cZ : ClassId) (c : Nat) : va_W := wCo c (-1) ++ (wL0 cI cJ cZ (c + 1) ++ wL0 cI cJ cZ (c + 8))
/-- a run whose new cells count: it returns nothing -/
def Qc (A : Nat → Prop) (P : Heap → Prop) : Array Value → State → Outcome → State → Prop := Qd A none P
section CC
variable {p : Program} {l : Launch} {e : Env} {R : Room} {s : State} {m : MethodId} {args : Array Value} {below : List Frame} {meth : Method} {c : Code} {H : Heap} {locs : List Loc} {cells slots mc ms : Nat} {Q : State → Prop}
variable {g : JFrame} {rest : List Value} {a : Array Value} {v : Option Value} {A A0 : Nat → Prop} {H0 : Heap} {P : Heap → Prop}
theorem ep_callC (hr : CallRun p l e R s m args below meth c H locs cells slots mc ms g rest (Qd A v P a) A) (hS : va_S A0 H0 H locs) (hA : ∀ q, A q → A0 q)
    (kk : ∀ (H1 : Heap) (locs1 : List Loc), H.size ≤ H1.size → (∀ q : Nat, q < H.size → ¬ A q → H1[q]? = H[q]?) → P H1 → va_S A0 H0 H1 locs1 →
      W p l e R s m args below meth c H1 locs1 (cells + mc) (slots + ms) Q { g with pc := g.pc + 3, stack := v.toList ++ rest }) : W p l e R s m args below meth c H locs cells slots Q g := by
  intro T hT X
  obtain ⟨v', st₀, t, T', L, h0, X', hL, e1, ⟨hv, hF, hp⟩, st⟩ := hr T hT X
  cases hv
  obtain ⟨k1, k2, k3⟩ := vx_keep h0 e1 hS (fun q _ h => hA q h) hA hL hF
  obtain ⟨t2, a1, b1⟩ := kk T'.heap (locs ++ L) k1 k2 (by rw [e1]; exact hp) k3 T' rfl X'
  exact ⟨t2, st t2 a1, b1⟩
end CC
theorem one_D {A : Nat → Prop} {a : Nat} {x : va_E} (h : A a) : va_D A [(a, x)] := by
  refine ⟨fun i j p q hp hq _ => ?_, fun k q hq => ?_⟩
  · have h1 : i < 1 := (List.getElem?_eq_some_iff.mp hp).1
    have h2 : j < 1 := (List.getElem?_eq_some_iff.mp hq).1
    omega
  · have h1 : k < 1 := (List.getElem?_eq_some_iff.mp hq).1
    rcases (show k = 0 by omega) with rfl
    cases hq
    exact h
theorem one_in {a : Nat} {x : va_E} (k : Nat) (q : Nat × va_E) (h : ([(a, x)] : va_W)[k]? = some q) : q.1 = a + k ∧ k < 1 := by
  have hk : k < 1 := (List.getElem?_eq_some_iff.mp h).1
  rcases (show k = 0 by omega) with rfl
  cases h; exact ⟨rfl, by decide⟩
theorem wC0_rng {cI cJ cZ : ClassId} {c : Nat} (k : Nat) (q : Nat × va_E) (h : (wC0 cI cJ cZ c)[k]? = some q) : c ≤ q.1 ∧ q.1 < c + 15 := by
  have hD : va_D (blk c 15) (wC0 cI cJ cZ c) := col_D
  have := hD.2 k q h
  simp only [blk] at this
  omega
/-- an array of references by what stands at its places -/
theorem q_congr {D : va_G} {cl : List vw_C} {cA : ClassId} {a n : Nat} {f g : Nat → Option Nat} {x' : Nat × va_E} {w : va_W} {H : Heap} (hfg : ∀ i, i < n → f i = g i) (h : va_P D cl (x' :: (a, .inl (cA, n, .inr (.inr (.inr (.inr f))))) :: w) H) : va_P D cl (x' :: (a, .inl (cA, n, .inr (.inr (.inr (.inr g))))) :: w) H := by
  intro k q hk
  rcases (show k = 1 ∨ k ≠ 1 by omega) with rfl | h1
  · cases hk
    have h2 := h 1 _ rfl
    show H[a]? = some (vp_cell _ _)
    rw [show H[a]? = some (vp_cell cA (n, .inr (.inr (.inr (.inr f))))) from h2, vp_cell_q, vp_cell_q]
    congr 1
    unfold arrV
    congr 1
    apply congrArg
    funext j
    show va_rf (f j.val) = va_rf (g j.val)
    rw [hfg j.val j.isLt]
  · refine h k q ?_
    match k, h1, hk with
    | 0, _, hk => exact hk
    | k + 2, _, hk => exact hk
/-- a constructor's start that makes an array of Collections too -/
def PcA (D : va_G) (cI cJ cZ cO : ClassId) (av : List Value) (Pic : Heap → Prop) : Array Value → State → Prop := fun v U => v = av.toArray ∧ Kn D cI cJ cZ cO U ∧ va_AO "EditablePast$Collection" U ∧ Pic U.heap
theorem ep_blindA {D : va_G} {cI cJ cZ cO : ClassId} {av : List Value} {Pic : Heap → Prop} : FrameBlind (PcA D cI cJ cZ cO av Pic) := fun a U g mk h => ⟨h.1, Kn.warm (U := U.calling g mk a) (State.WarmedH.refl U) h.2.1, va_AO.moved (u := U) (U := U.calling g mk a) (Vm.Alike.refl U.vm) h.2.2.1, h.2.2.2⟩
theorem ep_preA {D : va_G} {cI cJ cZ cO : ClassId} {av : List Value} {Pic : Heap → Prop} {s : State} {H : Heap} (hK : Kn D cI cJ cZ cO s) (hO : va_AO "EditablePast$Collection" s) (hP : Pic H) : ∀ U : State, U.heap = H → s.WarmedH U.vm → PcA D cI cJ cZ cO av Pic av.toArray U := fun U hU hW => ⟨rfl, Kn.warm hW hK, va_AO.moved hW.alike hO, by rw [hU]; exact hP⟩
