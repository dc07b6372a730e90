/-! the law's side: what its methods know, calls that return or throw -/
def ncq : List (String × String) := [(E_ISE, E_IAE), (E_UOE, E_IAE), (E_UOE, E_ISE), (E_NSE, E_IAE), (E_NSE, E_ISE), (E_IOB, E_IAE), (E_IOB, E_ISE)]
def Nx (U : State) : Prop := ∀ q ∈ ncq, va_Nc q.1 q.2 U
def PcL (D : va_G) (cI cJ cZ cO : ClassId) (A : Nat → Prop) (av : List Value) (Pic : Heap → Prop) : Array Value → State → Prop := fun v U => v = av.toArray ∧ Kn D cI cJ cZ cO U ∧ Zs A U U.heap ∧ Nx U ∧ Pic U.heap
theorem Nx.moved {u U : State} (hvm : u.vm.Alike U.vm) (h : Nx u) : Nx U := fun q hq => va_Nc.moved hvm (h q hq)
theorem ep_blindL {D : va_G} {cI cJ cZ cO : ClassId} {A : Nat → Prop} {av : List Value} {Pic : Heap → Prop} : FrameBlind (PcL D cI cJ cZ cO A av Pic) := fun a U g mk h =>
  ⟨h.1, Kn.warm (U := U.calling g mk a) (State.WarmedH.refl U) h.2.1, ⟨vx_Zq.moved (u := U) (U := U.calling g mk a) (Vm.Alike.refl U.vm) h.2.2.1.1, vx_Zq.moved (u := U) (U := U.calling g mk a) (Vm.Alike.refl U.vm) h.2.2.1.2⟩, Nx.moved (u := U) (U := U.calling g mk a) (Vm.Alike.refl U.vm) h.2.2.2.1, h.2.2.2.2⟩
theorem ep_preL {D : va_G} {cI cJ cZ cO : ClassId} {A : Nat → Prop} {av : List Value} {Pic : Heap → Prop} {s : State} {H : Heap} (hK : Kn D cI cJ cZ cO s) (hZ : Zs A s H) (hX : Nx s) (hP : Pic H) : ∀ U : State, U.heap = H → s.WarmedH U.vm → PcL D cI cJ cZ cO A av Pic av.toArray U := fun U hU hW =>
  ⟨rfl, Kn.warm hW hK, by rw [hU]; exact ⟨vx_Zq.moved hW.alike hZ.1, vx_Zq.moved hW.alike hZ.2⟩, Nx.moved hW.alike hX, by rw [hU]; exact hP⟩
abbrev wOut (cJ : ClassId) (ob : Nat) (fo : Nat → Int64) : va_W := [(ob, .inl (cJ, 1, .inr (.inl fo)))]
theorem wOut_in {cJ : ClassId} {ob : Nat} {fo : Nat → Int64} (k : Nat) (q : Nat × va_E) (h : (wOut cJ ob fo)[k]? = some q) : q.1 = ob + k ∧ k < 1 := by
  have hk : k < 1 := (List.getElem?_eq_some_iff.mp h).1
  rcases (show k = 0 by omega) with rfl
  cases h; exact ⟨rfl, by decide⟩
theorem wOut_D {cJ : ClassId} {ob : Nat} {fo : Nat → Int64} {A : Nat → Prop} (h : A ob) : va_D A (wOut cJ ob fo) := by
  refine ⟨fun i j p q hp hq hpq => ?_, fun k q hq => ?_⟩
  · have h1 := wOut_in i p hp
    have h2 := wOut_in j q hq
    omega
  · have h1 := wOut_in k q hq
    rw [show q.1 = ob by omega]
    exact h
section LB
variable {p : Program} {l : Launch} {e : Env} {R : Room} {s : State} {m : MethodId} {args : Array Value} {below : List Frame} {meth : Method} {c : Code} {H : Heap} {locs : List Loc} {cells slots : Nat} {Q : State → Prop}
variable {rest st0 : List Value} {a : Array Value} {v : Option Value} {A A0 : Nat → Prop} {H0 : Heap} {P : Heap → Prop} {pc : Nat} {ls : Array Slot} {E3 : String} {kap : Nat}
theorem ep_callT (hr : vx_Run p l e R s m args below meth c H locs cells slots 1 6 (F0 m pc ls st0) rest (Qt kap A v P a) (Xt kap E3 A P) A) (hS : va_S A0 H0 H locs) (hA : ∀ q, A q → A0 q)
    (kx : kap ≠ 0 → ∀ (ce : Cell) (q9 : Addr) (H1 : Heap) (locs1 : List Loc), H.size ≤ H1.size → (∀ q : Nat, q < H.size → ¬ A q → H1[q]? = H[q]?) → P H1 → va_S A0 H0 H1 locs1 → H1[q9]? = some ce → ce.vm = .none → s.vm.findClass (ex3 E3 kap) = some ce.cls →
      vx_W p l e R s m args below meth c H1 locs1 (cells + 1) (slots + 6) Q (F0 m pc ls rest) q9)
    (kk : kap = 0 → ∀ (H1 : Heap) (locs1 : List Loc), H.size ≤ H1.size → (∀ q : Nat, q < H.size → ¬ A q → H1[q]? = H[q]?) → P H1 → va_S A0 H0 H1 locs1 →
      W p l e R s m args below meth c H1 locs1 (cells + 1) (slots + 6) Q (F0 m (pc + 3) ls (v.toList ++ rest))) : W p l e R s m args below meth c H locs cells slots Q (F0 m pc ls st0) := by
  intro T hT X
  rcases hr T hT X with ⟨v', st₀, t, T', L, h0, X', hL, e1, e2, ⟨hk, hv, hF, hp⟩, st⟩ | ⟨q, st₀, t, T', L, E', ce, h0, X', hL, e1, e2, ⟨hk, hE, hF, hp⟩, hce, hcv, hcl, st⟩
  · cases hv
    obtain ⟨k1, k2, k3⟩ := vx_keep h0 e1 hS (fun q _ h => hA q h) hA hL hF
    obtain ⟨t2, a1, b1⟩ := kk hk T'.heap (locs ++ L) k1 k2 (by rw [e1]; exact hp) k3 T' rfl X'
    exact ⟨t2, st t2 a1, b1⟩
  · obtain ⟨k1, k2, k3⟩ := vx_keep h0 e1 hS (fun q _ h => hA q h) hA hL hF
    subst hE
    obtain ⟨t2, a1, b1⟩ := kx hk ce q T'.heap (locs ++ L) k1 k2 (by rw [e1]; exact hp) k3 (by rw [e1]; exact hce) hcv hcl T' rfl X'
    exact ⟨t2, st.trans a1, b1⟩
theorem ep_keepL {cc : ByteArray} {D : va_G} {cl : List vw_C} {tyl : List (ClassId × FieldType)} {cJ : ClassId} {ob : Nat} {fo : Nat → Int64} {x : Int64} (hx : p.tables.exec = Jvm.exec) (hb : c.code = cc) (hK : va_K D cl tyl s) (hP : va_P D cl (wOut cJ ob fo) H) (hD : va_D A (wOut cJ ob fo)) (hS : va_S A H0 H locs) (ht : tyl[1]? = some (cJ, .long)) (hdg : decode cc pc = .ok (.lastore, 1))
    (kk : ∀ (H1 : Heap) (locs1 : List Loc), (∀ q : Nat, q < H.size → q ≠ ob → H1[q]? = H[q]?) → va_P D cl (wOut cJ ob (vp_updL fo 0 x)) H1 → va_S A H0 H1 locs1 → W p l e R s m args below meth c H1 locs1 cells slots Q (F0 m (pc + 1) ls rest)) :
    W p l e R s m args below meth c H locs cells slots Q (F0 m pc ls (.long x :: .int 0 :: .ref ob :: rest)) := by
  have ha : (wOut cJ ob fo)[0]? = some (ob, .inl (cJ, 1, .inr (.inl fo))) := rfl
  refine W.last hx hb (hP 0 _ ha) ((hK.2 1 _ ht).1 1 (fun j => .long (fo j))) (fun q => by cases q) (by show ¬ ((0 : Int32) < 0 ∨ (arrV _ _ _).slots.size ≤ _); rw [arrV_size]; show ¬ ((0 : Int32) < 0 ∨ 1 ≤ Int32.toNatClampNeg 0); decide) rfl rfl hdg fun H1 e z oq => ?_
  refine kk H1 _ (fun q _ hq => oq q hq) (hP.set hD ha ?_ oq) (hS.put z oq (hD.2 0 _ ha))
  show H1[ob]? = some (vp_cell _ _)
  rw [e]
  rw [vp_cell_l, vp_cell_l, arrV_store]
  congr 2
  funext q
  by_cases hq : q = (0 : Int32).toNatClampNeg
  · subst hq
    simp [updV, vp_updL]
  · have h0 : ¬ q = 0 := hq
    simp [updV, vp_updL, h0]
end LB
