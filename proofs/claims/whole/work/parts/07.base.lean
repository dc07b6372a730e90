/-! base: what every contract of this claim stands on. All methods take the same words: their own code's first, then gt, the tables' good ones. -/
section EA
theorem gd_of {ws : List Cond} (h : ∀ w ∈ ws, w ∈ gt) : GoodIn gt ws := fun w hw => ⟨h w hw, good_of_word (gt_good (h w hw))⟩
theorem gd_c {k : Cond} (h : k ∈ gt) : ∀ w ∈ k :: gt, w ∈ gt := fun w hw => (List.mem_cons.mp hw).elim (fun e => by rw [e]; exact h) (fun h => h)
theorem gd_cons {k : Cond} {ws : List Cond} (h : k ∈ gt) (t : ∀ w ∈ ws, w ∈ gt) : ∀ w ∈ k :: ws, w ∈ gt := fun w hw => (List.mem_cons.mp hw).elim (fun e => by rw [e]; exact h) (t w)
theorem gd_app {a b : List Cond} (ha : ∀ w ∈ a, w ∈ gt) (hb : ∀ w ∈ b, w ∈ gt) : ∀ w ∈ a ++ b, w ∈ gt := fun w hw => (List.mem_append.mp hw).elim (ha w) (hb w)
theorem gd_nil : ∀ w ∈ ([] : List Cond), w ∈ gt := fun _ h => nomatch h
end EA
section EB
variable {p : Program} {l : Launch} {e : Env} {R : Room} {s : State} {m : MethodId} {args : Array Value} {below : List Frame} {meth : Method} {c : Code} {H : Heap} {locs : List Loc} {cells slots : Nat} {Q : State → Prop}
variable {own C owner host : String} {index maxL mc ms : Nat} {x y : MethodName} {bytes : ByteArray} {ret : Option FieldType} {rm : Room} {k : Cond}
theorem ep_cwV (n : Nat) (hg : ∀ w ∈ gt, w.before args s = true) (m1 : Cond.methodLink own index y ∈ gt) (m2 : Cond.instanceMethod y ∈ gt) (m3 : Cond.selects C y y ∈ gt) (m4 : Cond.initialized C ∈ gt) (m5 : Cond.code y bytes maxL ret ∈ gt) (hrc : rm.cells = mc) (hrs : rm.slots = ms)
    (hd : y.cls = C ∧ y.cls ≠ "java/lang/invoke/MethodHandle" ∧ y.cls ≠ "java/lang/invoke/VarHandle" ∧ (parseMethodDescriptor y.desc).map (fun d => d.parameters.length) = some n) (hR : rm.frames + 1 ≤ R.frames ∧ 8 + (maxL + 11) + rm.locals ≤ R.locals) :
    CallW R s args own C index y bytes maxL ret (Cond.code y bytes maxL ret :: gt) rm mc ms n :=
  cwV n hg (gd_of (gd_app (gd_cons m1 (gd_cons m2 (gd_cons m3 (gd_cons m4 gd_nil)))) (gd_c m5))) rfl hrc hrs hd hR
theorem ep_cwS (n : Nat) (hg : ∀ w ∈ gt, w.before args s = true) (m1 : Cond.methodLink own index y ∈ gt) (m2 : Cond.static y ∈ gt) (m4 : Cond.initialized own ∈ gt) (m5 : Cond.code y bytes maxL ret ∈ gt) (hrc : rm.cells = mc) (hrs : rm.slots = ms)
    (hd : y.cls = own ∧ y.cls ≠ "java/lang/invoke/MethodHandle" ∧ y.cls ≠ "java/lang/invoke/VarHandle" ∧ (parseMethodDescriptor y.desc).map (fun d => d.parameters.length) = some n) (hR : rm.frames + 1 ≤ R.frames ∧ 8 + (maxL + 11) + rm.locals ≤ R.locals) :
    CallB R s args own index y bytes maxL ret (Cond.code y bytes maxL ret :: gt) rm mc ms n ∧ (Cond.static y).before args s = true :=
  cwS n hg (gd_of (gd_app (gd_cons m1 (gd_cons m2 (gd_cons m4 gd_nil))) (gd_c m5))) rfl hrc hrs hd hR
/-- a call of x, which its class declares abstractly or in a class above; on an object of class C it goes to y -/
theorem ep_cwA (n : Nat) (hg : ∀ w ∈ gt, w.before args s = true) (m1 : Cond.methodLink own index x ∈ gt) (m2 : Cond.sameMethod x.cls owner x.name x.desc ∈ gt) (m3 : Cond.selects C x y ∈ gt) (m4 : Cond.instanceMethod y ∈ gt) (m6 : Cond.initialized y.cls ∈ gt) (m5 : Cond.code y bytes maxL ret ∈ gt) (hrc : rm.cells = mc) (hrs : rm.slots = ms)
    (hz : va_Nw (.declares ⟨owner, x.name, x.desc⟩) s) (hd : owner ≠ "java/lang/invoke/MethodHandle" ∧ owner ≠ "java/lang/invoke/VarHandle" ∧ (parseMethodDescriptor x.desc).map (fun d => d.parameters.length) = some n) (hR : rm.frames + 1 ≤ R.frames ∧ 8 + (maxL + 11) + rm.locals ≤ R.locals) :
    va_CU R s args own C owner index x y bytes maxL ret (Cond.code y bytes maxL ret :: gt) rm mc ms n :=
  va_cwA n hg (gd_of (gd_app (gd_cons m1 (gd_cons m2 (gd_cons m3 (gd_cons m4 (gd_cons m6 gd_nil))))) (gd_c m5))) rfl hrc hrs hz hd hR
/-- a call of x that goes to the method of the same name of a class above -/
theorem ep_cwU (n : Nat) (hg : ∀ w ∈ gt, w.before args s = true) (m1 : Cond.methodLink own index x ∈ gt) (m2 : Cond.sameMethod x.cls owner x.name x.desc ∈ gt) (m3 : Cond.selects C x y ∈ gt) (m4 : Cond.instanceMethod y ∈ gt) (m6 : Cond.initialized y.cls ∈ gt) (m5 : Cond.code y bytes maxL ret ∈ gt) (hrc : rm.cells = mc) (hrs : rm.slots = ms)
    (hyx : y = ⟨owner, x.name, x.desc⟩) (hd : owner ≠ "java/lang/invoke/MethodHandle" ∧ owner ≠ "java/lang/invoke/VarHandle" ∧ (parseMethodDescriptor x.desc).map (fun d => d.parameters.length) = some n) (hR : rm.frames + 1 ≤ R.frames ∧ 8 + (maxL + 11) + rm.locals ≤ R.locals) :
    va_CU R s args own C owner index x y bytes maxL ret (Cond.code y bytes maxL ret :: gt) rm mc ms n :=
  va_cwU n hg (gd_of (gd_app (gd_cons m1 (gd_cons m2 (gd_cons m3 (gd_cons m4 (gd_cons m6 gd_nil))))) (gd_c m5))) rfl hrc hrs hyx hd hR
/-- a private method of a class above: any receiver selects it -/
theorem ep_selP {x0 y0 : MethodName} (hy : y.cls ≠ "java/lang/invoke/MethodHandle" ∧ y.cls ≠ "java/lang/invoke/VarHandle") (h0 : (Cond.selects C x0 y0).before args s = true) (hcls : y0.cls = y.cls) (hpriv : (Cond.privateMethod y).before args s = true) (hinst : (Cond.instanceMethod y).before args s = true) :
    (Cond.selects C y y).before args s = true := by
  obtain ⟨c2, r2, m2, q1, q2, q3, q4, kP, hkP, hkPi⟩ := Cond.selects_spec h0
  obtain ⟨mk, methM, hnamed, hmethM, -, -⟩ := Cond.instanceMethod_spec hinst
  have hfound : s.methodFound? y.cls y.name y.desc = some mk := State.methodFound?_of_named hnamed hy
  have hsel : selectMethod {} s.vm c2 mk = .method mk := selectMethod_private hmethM (Cond.privateMethod_at hpriv mk methM hnamed hmethM)
  have hc : mk.cls = m2.cls := by
    have a := findClass_of_methodNamed hnamed
    have b := findClass_of_methodNamed q3
    rw [hcls] at b
    exact Option.some.inj (a.symm.trans b)
  simp only [Cond.before, Cond.holds, Cond.value, q1, hfound, hnamed, hsel, hc, hkP]
  simp; exact hkPi
theorem ep_cwP (n : Nat) (hg : ∀ w ∈ gt, w.before args s = true) (m1 : Cond.methodLink own index y ∈ gt) (m2 : Cond.sameMethod y.cls y.cls y.name y.desc ∈ gt) (h3 : (Cond.selects C y y).before args s = true) (m4 : Cond.instanceMethod y ∈ gt) (m6 : Cond.initialized y.cls ∈ gt) (m5 : Cond.code y bytes maxL ret ∈ gt) (hrc : rm.cells = mc) (hrs : rm.slots = ms)
    (hd : y.cls ≠ "java/lang/invoke/MethodHandle" ∧ y.cls ≠ "java/lang/invoke/VarHandle" ∧ (parseMethodDescriptor y.desc).map (fun d => d.parameters.length) = some n) (hR : rm.frames + 1 ≤ R.frames ∧ 8 + (maxL + 11) + rm.locals ≤ R.locals) :
    va_CU R s args own C y.cls index y y bytes maxL ret (Cond.code y bytes maxL ret :: gt) rm mc ms n := by
  refine ⟨⟨hrc, hrs, hR.1, hR.2, pay_in hg (gd_of (gd_c m5)), List.mem_cons_self⟩, hg _ m5, hg _ m6, ⟨hd.1, hd.2.1⟩, fun sig h => ?_, hg _ m1, hg _ m2, va_Decl.of (hg _ m4) (hg _ m5), h3, hg _ m4⟩
  have h2 := hd.2.2
  rw [h] at h2
  exact (Option.some.inj h2).symm
/-- a nest mate's private member -/
theorem ep_cnB (n : Nat) (hg : ∀ w ∈ gt, w.before args s = true) (m5 : Cond.code y bytes maxL ret ∈ gt) (hrc : rm.cells = mc) (hrs : rm.slots = ms) (hl : va_Nw (.methodLinkNest own index y host) s) (m4 : Cond.initialized y.cls ∈ gt)
    (hd : y.cls ≠ "java/lang/invoke/MethodHandle" ∧ y.cls ≠ "java/lang/invoke/VarHandle" ∧ (parseMethodDescriptor y.desc).map (fun d => d.parameters.length) = some n) (hR : rm.frames + 1 ≤ R.frames ∧ 8 + (maxL + 11) + rm.locals ≤ R.locals) :
    va_CN R s args own index y host bytes maxL ret (Cond.code y bytes maxL ret :: gt) rm mc ms n :=
  va_cnB n hg (gd_of (gd_c m5)) rfl hrc hrs hl (hg _ m4) hd hR
end EB
/-! what a method's end says -/
/-- it answers v and has changed no cell -/
def Qp (v : Option Value) : Array Value → State → Outcome → State → Prop := fun _ st o t => o = .returned v ∧ t.heap = st.heap
/-- it answers v, has changed no old cell but those of A, and the heap is as P says -/
def Qd (A : Nat → Prop) (v : Option Value) (P : Heap → Prop) : Array Value → State → Outcome → State → Prop := fun _ st o t => o = .returned v ∧ va_F A st t ∧ P t.heap
/-- it never returns -/
def Qn : Array Value → State → Outcome → State → Prop := fun _ _ _ _ => False
/-- it throws an E, and has changed no old cell but those of A -/
def Xd (A : Nat → Prop) (E : String) : String → State → State → Prop := fun E' st t => E' = E ∧ va_F A st t
section EC
variable {p : Program} {l : Launch} {e : Env} {R : Room} {s : State} {m : MethodId} {args : Array Value} {below : List Frame} {meth : Method} {c : Code} {H : Heap} {locs : List Loc} {cells slots : Nat} {Q : State → Prop}
variable {g : JFrame} {rest st0 : List Value} {a : Array Value} {v : Option Value} {A A0 : Nat → Prop} {H0 : Heap} {P : Heap → Prop} {pc : Nat} {ls : Array Slot} {E : String}
theorem ep_callP (hr : CallRun p l e R s m args below meth c H locs cells slots 0 0 g rest (Qp v a) (fun _ => False))
    (kk : W p l e R s m args below meth c H locs cells slots Q { g with pc := g.pc + 3, stack := v.toList ++ rest }) : W p l e R s m args below meth c H locs cells slots Q g := by
  intro T hT X
  obtain ⟨v', st₀, t, T', L, h0, X', hL, e1, ⟨hv, hh⟩, st⟩ := hr T hT X
  cases hv
  obtain ⟨t2, a1, b1⟩ := kk T' (by rw [e1, hh, h0]) (Stand.forget X' (fun q h => (hL q h).elim))
  exact ⟨t2, st t2 a1, b1⟩
theorem ep_callH (hr : CallRun p l e R s m args below meth c H locs cells slots 0 0 g rest (Qd A v P a) A) (hS : va_S A0 H0 H locs) (hA : ∀ q, A q → A0 q)
    (kk : ∀ (H1 : Heap) (locs1 : List Loc), H.size ≤ H1.size → (∀ q : Nat, q < H.size → ¬ A q → H1[q]? = H[q]?) → P H1 → va_S A0 H0 H1 locs1 →
      W p l e R s m args below meth c H1 locs1 cells slots Q { g with pc := g.pc + 3, stack := v.toList ++ rest }) : W p l e R s m args below meth c H locs cells slots Q g := by
  intro T hT X
  obtain ⟨v', st₀, t, T', L, h0, X', hL, e1, ⟨hv, hF, hp⟩, st⟩ := hr T hT X
  cases hv
  obtain ⟨k1, k2, k3⟩ := vx_keep h0 e1 hS (fun q _ h => hA q h) hA hL hF
  obtain ⟨t2, a1, b1⟩ := kk T'.heap (locs ++ L) k1 k2 (by rw [e1]; exact hp) k3 T' rfl X'
  exact ⟨t2, st t2 a1, b1⟩
/-- a run of the moving worlds' kit is a run -/
theorem ep_toC {mc ms : Nat} {Qa : State → Outcome → State → Prop} {free : Addr → Prop} (hr : va_Run p l e R s m args below meth c H locs cells slots mc ms g rest Qa free) : CallRun p l e R s m args below meth c H locs cells slots mc ms g rest Qa free := by
  intro T hT X
  obtain ⟨v, st₀, t, T', L, h0, X', hL, e1, -, hq, st⟩ := hr T hT X
  exact ⟨v, st₀, t, T', L, h0, X', hL, e1, hq, st⟩
theorem ep_callX (hr : vx_Run p l e R s m args below meth c H locs cells slots 1 6 (F0 m pc ls st0) rest (Qn a) (Xd A E) A) (hS : va_S A0 H0 H locs) (hA : ∀ q, A q → A0 q)
    (kx : ∀ (ce : Cell) (q9 : Addr) (H1 : Heap) (locs1 : List Loc), H.size ≤ H1.size → (∀ q : Nat, q < H.size → ¬ A q → H1[q]? = H[q]?) → va_S A0 H0 H1 locs1 → H1[q9]? = some ce → ce.vm = .none → s.vm.findClass E = some ce.cls →
      vx_W p l e R s m args below meth c H1 locs1 (cells + 1) (slots + 6) Q (F0 m pc ls rest) q9) : W p l e R s m args below meth c H locs cells slots Q (F0 m pc ls st0) := by
  intro T hT X
  rcases hr T hT X with ⟨v, st₀, t, T', L, h0, X', hL, e1, e2, hq, st⟩ | ⟨q, st₀, t, T', L, E', ce, h0, X', hL, e1, e2, ⟨hE, hF⟩, hce, hcv, hcl, st⟩
  · exact hq.elim
  · obtain ⟨k1, k2, k3⟩ := vx_keep h0 e1 hS (fun q _ h => hA q h) hA hL hF
    subst hE
    obtain ⟨t2, a1, b1⟩ := kx ce q T'.heap (locs ++ L) k1 k2 k3 (by rw [e1]; exact hce) hcv hcl T' rfl X'
    exact ⟨t2, st.trans a1, b1⟩
end EC
/-! what every method knows of the tables -/
abbrev tys (cI cJ cZ cO : ClassId) : List (ClassId × FieldType) := [(cI, .int), (cJ, .long), (cZ, .boolean), (cO, .object "EditablePast$Collection")]
def Kn (D : va_G) (cI cJ cZ cO : ClassId) (U : State) : Prop :=
  va_K D cls (tys cI cJ cZ cO) U ∧ (∀ q ∈ nestq, va_Nw (.methodLinkNest q.1 q.2.1 q.2.2 "EditablePast") U) ∧ (∀ x ∈ declq, va_Nw (.declares x) U) ∧ (∀ q ∈ castq, va_Nw (.castable q.1 q.2) U) ∧ (∀ x ∈ privq, va_Nw (.privateMethod x) U) ∧ ∀ q ∈ strq, ∃ a, vk_R q.1 q.2.1 q.2.2 a U
theorem va_Nw_warmP {x : MethodName} {s U : State} (hW : s.WarmedH U.vm) (hZ : va_Nw (.privateMethod x) s) : va_Nw (.privateMethod x) U := va_tabs rfl (rfl : (s.setVm U.vm).vm = U.vm) (by rw [Cond.privateMethod_setVm hW.alike]; exact hZ)
theorem Kn.warm {D : va_G} {cI cJ cZ cO : ClassId} {s U : State} (hW : s.WarmedH U.vm) (h : Kn D cI cJ cZ cO s) : Kn D cI cJ cZ cO U :=
  ⟨va_K.moved hW.alike h.1, fun q hq => va_Nw.warmM hW (h.2.1 q hq), fun x hx => va_Nw.warmD hW (h.2.2.1 x hx), fun q hq => va_Nw.warmC hW (h.2.2.2.1 q hq), fun x hx => va_Nw_warmP hW (h.2.2.2.2.1 x hx), fun q hq => by
    obtain ⟨a, ha⟩ := h.2.2.2.2.2 q hq
    exact ⟨a, vk_R.warm hW ha⟩⟩
/-- a contract's start: the arguments, the tables, a picture of the heap -/
def Pc0 (D : va_G) (cI cJ cZ cO : ClassId) (av : List Value) (Pic : Heap → Prop) : Array Value → State → Prop := fun v U => v = av.toArray ∧ Kn D cI cJ cZ cO U ∧ Pic U.heap
theorem ep_blind {D : va_G} {cI cJ cZ cO : ClassId} {av : List Value} {Pic : Heap → Prop} : FrameBlind (Pc0 D cI cJ cZ cO av Pic) := fun a U g mk h => ⟨h.1, Kn.warm (U := U.calling g mk a) (State.WarmedH.refl U) h.2.1, h.2.2⟩
theorem ep_pre {D : va_G} {cI cJ cZ cO : ClassId} {av : List Value} {Pic : Heap → Prop} {s : State} {H : Heap} (hK : Kn D cI cJ cZ cO s) (hP : Pic H) : ∀ U : State, U.heap = H → s.WarmedH U.vm → Pc0 D cI cJ cZ cO av Pic av.toArray U := fun U hU hW => ⟨rfl, Kn.warm hW hK, by rw [hU]; exact hP⟩
/-- the statics of Throwable that a throw reads, apart from A -/
def Zs (A : Nat → Prop) (U : State) (H : Heap) : Prop := vx_Zq Bundle.tN "UNASSIGNED_STACK" Bundle.steD A U H ∧ vx_Zq Bundle.tN "SUPPRESSED_SENTINEL" Bundle.listD A U H
def PcX (D : va_G) (cI cJ cZ cO : ClassId) (A : Nat → Prop) (av : List Value) (Pic : Heap → Prop) : Array Value → State → Prop := fun v U => v = av.toArray ∧ Kn D cI cJ cZ cO U ∧ Zs A U U.heap ∧ Pic U.heap
theorem ep_blindX {D : va_G} {cI cJ cZ cO : ClassId} {A : Nat → Prop} {av : List Value} {Pic : Heap → Prop} : FrameBlind (PcX D cI cJ cZ cO A av Pic) := fun a U g mk h =>
  ⟨h.1, Kn.warm (U := U.calling g mk a) (State.WarmedH.refl U) h.2.1, ⟨vx_Zq.moved (u := U) (U := U.calling g mk a) (Vm.Alike.refl U.vm) h.2.2.1.1, vx_Zq.moved (u := U) (U := U.calling g mk a) (Vm.Alike.refl U.vm) h.2.2.1.2⟩, h.2.2.2⟩
theorem Zs.kept {A B : Nat → Prop} {s : State} {H0 H : Heap} {locs : List Loc} (h : Zs A s H0) (hS : va_S A H0 H locs) (hB : ∀ q, B q → A q) : Zs B s H := ⟨vx_Zq.narrow (vx_Zq.kept h.1 hS.2.1) hB, vx_Zq.narrow (vx_Zq.kept h.2 hS.2.1) hB⟩
theorem ep_preX {D : va_G} {cI cJ cZ cO : ClassId} {A : Nat → Prop} {av : List Value} {Pic : Heap → Prop} {s : State} {H : Heap} (hK : Kn D cI cJ cZ cO s) (hZ : Zs A s H) (hP : Pic H) : ∀ U : State, U.heap = H → s.WarmedH U.vm → PcX D cI cJ cZ cO A av Pic av.toArray U := fun U hU hW =>
  ⟨rfl, Kn.warm hW hK, by rw [hU]; exact ⟨vx_Zq.moved hW.alike hZ.1, vx_Zq.moved hW.alike hZ.2⟩, by rw [hU]; exact hP⟩
/-! array rows at an index that is a number -/
section ED
variable {p : Program} {l : Launch} {e : Env} {R : Room} {s : State} {m : MethodId} {args : Array Value} {below : List Frame} {meth : Method} {c : Code} {H : Heap} {locs : List Loc} {cells slots : Nat} {Q : State → Prop}
variable {cc : ByteArray} {pc : Nat} {ls : Array Slot} {rest : List Value} {D : va_G} {cl : List vw_C} {A : Nat → Prop} {a : Nat} {tyl : List (ClassId × FieldType)} {ws : va_W} {H0 : Heap}
theorem ep_iald (hx : p.tables.exec = Jvm.exec) (hb : c.code = cc) (hK : va_K D cl tyl s) (hP : va_P D cl ws H) (q0 t0 : Nat) {cA : ClassId} {n : Nat} {f : Nat → Int32} (ha : ws[q0]? = some (a, .inl (cA, n, .inl f))) (ht : tyl[t0]? = some (cA, .int)) {i : Nat} (hi : i < n) (hn : n < 2 ^ 31) (hdg : decode cc pc = .ok (.iaload, 1))
    (kk : W p l e R s m args below meth c H locs cells slots Q (F0 m (pc + 1) ls (.int (f i) :: rest))) : W p l e R s m args below meth c H locs cells slots Q (F0 m pc ls (.int (nI i) :: .ref a :: rest)) := by
  refine va_iald hx hb hK hP q0 t0 ha ht (vp_in_nI hi hn) hdg ?_
  rw [nI_clamp (Nat.lt_trans hi hn)]
  exact kk
theorem ep_zald (hx : p.tables.exec = Jvm.exec) (hb : c.code = cc) (hK : va_K D cl tyl s) (hP : va_P D cl ws H) (q0 t0 : Nat) {cA : ClassId} {n : Nat} {f : Nat → Int32} (ha : ws[q0]? = some (a, .inl (cA, n, .inl f))) (ht : tyl[t0]? = some (cA, .boolean)) {i : Nat} (hi : i < n) (hn : n < 2 ^ 31) (hdg : decode cc pc = .ok (.baload, 1))
    (kk : W p l e R s m args below meth c H locs cells slots Q (F0 m (pc + 1) ls (.int (f i) :: rest))) : W p l e R s m args below meth c H locs cells slots Q (F0 m pc ls (.int (nI i) :: .ref a :: rest)) := by
  refine va_zald hx hb hK hP q0 t0 ha ht (vp_in_nI hi hn) hdg ?_
  rw [nI_clamp (Nat.lt_trans hi hn)]
  exact kk
theorem ep_lald (hx : p.tables.exec = Jvm.exec) (hb : c.code = cc) (hK : va_K D cl tyl s) (hP : va_P D cl ws H) (q0 t0 : Nat) {cA : ClassId} {n : Nat} {f : Nat → Int64} (ha : ws[q0]? = some (a, .inl (cA, n, .inr (.inl f)))) (ht : tyl[t0]? = some (cA, .long)) {i : Nat} (hi : i < n) (hn : n < 2 ^ 31) (hdg : decode cc pc = .ok (.laload, 1))
    (kk : W p l e R s m args below meth c H locs cells slots Q (F0 m (pc + 1) ls (.long (f i) :: rest))) : W p l e R s m args below meth c H locs cells slots Q (F0 m pc ls (.int (nI i) :: .ref a :: rest)) := by
  refine va_lald hx hb hK hP q0 t0 ha ht (vp_in_nI hi hn) hdg ?_
  rw [nI_clamp (Nat.lt_trans hi hn)]
  exact kk
theorem ep_iast (hx : p.tables.exec = Jvm.exec) (hb : c.code = cc) (hK : va_K D cl tyl s) (hP : va_P D cl ws H) (hD : va_D A ws) (hS : va_S A H0 H locs) (q0 t0 : Nat) {cA : ClassId} {n : Nat} {f : Nat → Int32} (ha : ws[q0]? = some (a, .inl (cA, n, .inl f))) (ht : tyl[t0]? = some (cA, .int)) {i : Nat} {x : Int32} (hi : i < n) (hn : n < 2 ^ 31) (hdg : decode cc pc = .ok (.iastore, 1))
    (kk : ∀ (H1 : Heap) (locs1 : List Loc), va_P D cl (ws.set q0 (a, .inl (cA, n, .inl (upd f i x)))) H1 → va_D A (ws.set q0 (a, .inl (cA, n, .inl (upd f i x)))) → va_S A H0 H1 locs1 → W p l e R s m args below meth c H1 locs1 cells slots Q (F0 m (pc + 1) ls rest)) :
    W p l e R s m args below meth c H locs cells slots Q (F0 m pc ls (.int x :: .int (nI i) :: .ref a :: rest)) := by
  refine va_iast hx hb hK hP hD hS q0 t0 ha ht (vp_in_nI hi hn) hdg ?_
  rw [nI_clamp (Nat.lt_trans hi hn)]
  exact kk
theorem ep_last (hx : p.tables.exec = Jvm.exec) (hb : c.code = cc) (hK : va_K D cl tyl s) (hP : va_P D cl ws H) (hD : va_D A ws) (hS : va_S A H0 H locs) (q0 t0 : Nat) {cA : ClassId} {n : Nat} {f : Nat → Int64} (ha : ws[q0]? = some (a, .inl (cA, n, .inr (.inl f)))) (ht : tyl[t0]? = some (cA, .long)) {i : Nat} {x : Int64} (hi : i < n) (hn : n < 2 ^ 31) (hdg : decode cc pc = .ok (.lastore, 1))
    (kk : ∀ (H1 : Heap) (locs1 : List Loc), va_P D cl (ws.set q0 (a, .inl (cA, n, .inr (.inl (vp_updL f i x))))) H1 → va_D A (ws.set q0 (a, .inl (cA, n, .inr (.inl (vp_updL f i x))))) → va_S A H0 H1 locs1 → W p l e R s m args below meth c H1 locs1 cells slots Q (F0 m (pc + 1) ls rest)) :
    W p l e R s m args below meth c H locs cells slots Q (F0 m pc ls (.long x :: .int (nI i) :: .ref a :: rest)) := by
  refine va_last hx hb hK hP hD hS q0 t0 ha ht (vp_in_nI hi hn) hdg ?_
  rw [nI_clamp (Nat.lt_trans hi hn)]
  exact kk
/-- a boolean that is 0 or 1 is stored -/
theorem ep_zast (hx : p.tables.exec = Jvm.exec) (hb : c.code = cc) (hK : va_K D cl tyl s) (hP : va_P D cl ws H) (hD : va_D A ws) (hS : va_S A H0 H locs) (q0 t0 : Nat) {cA : ClassId} {n : Nat} {f : Nat → Int32} (ha : ws[q0]? = some (a, .inl (cA, n, .inl f))) (ht : tyl[t0]? = some (cA, .boolean)) {i : Nat} {x : Int32} (hz : vp_nar .boolean x = x) (hi : i < n) (hn : n < 2 ^ 31) (hdg : decode cc pc = .ok (.bastore, 1))
    (kk : ∀ (H1 : Heap) (locs1 : List Loc), va_P D cl (ws.set q0 (a, .inl (cA, n, .inl (upd f i x)))) H1 → va_D A (ws.set q0 (a, .inl (cA, n, .inl (upd f i x)))) → va_S A H0 H1 locs1 → W p l e R s m args below meth c H1 locs1 cells slots Q (F0 m (pc + 1) ls rest)) :
    W p l e R s m args below meth c H locs cells slots Q (F0 m pc ls (.int x :: .int (nI i) :: .ref a :: rest)) := by
  refine va_zast hx hb hK hP hD hS q0 t0 ha ht (vp_in_nI hi hn) hdg ?_
  rw [nI_clamp (Nat.lt_trans hi hn), hz]
  exact kk
end ED
theorem inc1 (i : Nat) : nI i + Int32.ofInt 1 = nI (i + 1) := by rw [lit1]; exact nI_1 i
theorem sub1 {i : Nat} (h : 0 < i) : nI i - 1 = nI (i - 1) := by
  obtain ⟨j, rfl⟩ : ∃ j, i = j + 1 := ⟨i - 1, by omega⟩
  exact nI_pred j
theorem dec1 {i : Nat} (h : 0 < i) : nI i + Int32.ofInt (-1) = nI (i - 1) := by
  obtain ⟨j, rfl⟩ : ∃ j, i = j + 1 := ⟨i - 1, by omega⟩
  rw [litm1]
  exact pk_m1 j
/-- a block of cells that follow each other -/
theorem va_D_blk {A : Nat → Prop} {a : Nat} : ∀ {es : List va_E}, (∀ k, k < es.length → A (a + k)) → va_D A (es.zipIdx.map fun q => (a + q.2, q.1)) := by
  intro es h
  refine ⟨fun i j p q hp hq hpq => ?_, fun k q hq => ?_⟩
  · simp only [List.getElem?_map, List.getElem?_zipIdx] at hp hq
    cases hi : es[i]? with
    | none => simp [hi] at hp
    | some x =>
      cases hj : es[j]? with
      | none => simp [hj] at hq
      | some z =>
        simp [hi] at hp
        simp [hj] at hq
        subst hp; subst hq
        simp at hpq
        exact hpq
  · simp only [List.getElem?_map, List.getElem?_zipIdx] at hq
    cases hi : es[k]? with
    | none => simp [hi] at hq
    | some x =>
      simp [hi] at hq
      subst hq
      exact h k (List.getElem?_eq_some_iff.mp hi).1
