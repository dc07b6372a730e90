/-! EditablePast: worlds, ends -/
abbrev okE (x : Int32) : Prop := ¬ x < 0 ∧ ¬ 16 ≤ x
theorem okE_of {x : Int32} (h : okE x) : ∃ j : Nat, j < 16 ∧ x = nI j := by
  obtain ⟨j, h1, rfl⟩ := nI_of h.1
  refine ⟨j, ?_, rfl⟩
  rcases Nat.lt_or_ge j 16 with h2 | h2
  · exact h2
  · exact absurd (nI_le (a := 16) h2 h1) h.2
theorem okE_n {j : Nat} (h : j < 16) : okE (nI j) := ⟨nI_pos (by omega), nI_ge (b := 16) h (by decide)⟩
theorem wo_kx {D : va_G} {cl : List vw_C} {ws : va_W} {H H1 : Heap} (h : va_P D cl ws H) (hq : ∀ q : Nat, q < H.size → H1[q]? = H[q]?) : va_P D cl ws H1 := h.kept (fun k q hk => hq q.1 ((h k q hk).lt))
theorem F_ext {A : Nat → Prop} {s t : State} {H : Heap} {locs : List Loc} (hS : va_S A s.heap H locs) (h1 : H.size ≤ t.heap.size) (h2 : ∀ q : Nat, q < H.size → t.heap[q]? = H[q]?) : va_F A s t :=
  ⟨Nat.le_trans hS.1 h1, fun q hq hn => by rw [h2 q (Nat.lt_of_lt_of_le hq hS.1)]; exact hS.2.1 q hq hn⟩
theorem rng_of {ws : va_W} {b m : Nat} (h : ∀ (k : Nat) (q : Nat × va_E), ws[k]? = some q → q.1 = b + k ∧ k < m) (k : Nat) (q : Nat × va_E) (hk : ws[k]? = some q) : b ≤ q.1 ∧ q.1 < b + m := by
  have := h k q hk
  omega
theorem off_in {ws : va_W} {lo hi : Nat} {A : Nat → Prop} (hin : ∀ (k : Nat) (q : Nat × va_E), ws[k]? = some q → lo ≤ q.1 ∧ q.1 < hi) (hd : ∀ q, lo ≤ q → q < hi → ¬ A q) (k : Nat) (q : Nat × va_E) (hk : ws[k]? = some q) : ¬ A q.1 := hd _ (hin k q hk).1 (hin k q hk).2
/-- where kap is 0 it returns; else it throws -/
def Qt (kap : Nat) (A : Nat → Prop) (v : Option Value) (P : Heap → Prop) : Array Value → State → Outcome → State → Prop := fun _ st o t => kap = 0 ∧ o = .returned v ∧ va_F A st t ∧ P t.heap
def ex3 (E3 : String) (kap : Nat) : String := if kap = 1 then E_IAE else if kap = 2 then E_ISE else E3
def Xt (kap : Nat) (E3 : String) (A : Nat → Prop) (P : Heap → Prop) : String → State → State → Prop := fun E st t => kap ≠ 0 ∧ E = ex3 E3 kap ∧ va_F A st t ∧ P t.heap
section EE
variable {p : Program} {l : Launch} {e : Env} {R : Room} {s : State} {m : MethodId} {args : Array Value} {below : List Frame} {meth : Method} {c : Code} {H : Heap} {locs : List Loc} {cells slots : Nat} {Q : State → Prop}
variable {cc : ByteArray} {pc : Nat} {ls : Array Slot} {rest : List Value} {D : va_G} {cl : List vw_C} {a : Nat} {tyl : List (ClassId × FieldType)} {ws : va_W}
theorem ep_aald (hx : p.tables.exec = Jvm.exec) (hb : c.code = cc) (hK : va_K D cl tyl s) (hP : va_P D cl ws H) (q0 t0 : Nat) {cA : ClassId} {C : String} {n : Nat} {f : Nat → Option Nat} (ha : ws[q0]? = some (a, .inl (cA, n, .inr (.inr (.inr (.inr f)))))) (ht : tyl[t0]? = some (cA, .object C)) {i b : Nat} (hf : f i = some b) (hi : i < n) (hn : n < 2 ^ 31) (hdg : decode cc pc = .ok (.aaload, 1))
    (kk : W p l e R s m args below meth c H locs cells slots Q (F0 m (pc + 1) ls (.ref b :: rest))) : W p l e R s m args below meth c H locs cells slots Q (F0 m pc ls (.int (nI i) :: .ref a :: rest)) := by
  refine va_aldq hx hb hK hP q0 t0 ha ht (vp_in_nI hi hn) hdg ?_
  rw [nI_clamp (Nat.lt_trans hi hn), hf]
  exact kk
end EE
abbrev wEP (cO : ClassId) (o : Nat) : va_W := [(o, .inr (8, [.ref (o + 1), .ref (o + 62), .ref (o + 64), .ref (o + 66), .ref (o + 69), .ref (o + 71), .ref (o + 72)])), (o + 1, .inl (cO, 4, .inr (.inr (.inr (.inr (fun i => some (o + 2 + 15 * i)))))))]
abbrev wCo (c : Nat) (kd : Int32) : va_W := [(c, .inr (0, [.int kd, .ref (c + 1), .ref (c + 8)]))]
theorem wEP_in {cO : ClassId} {o : Nat} (k : Nat) (q : Nat × va_E) (h : (wEP cO o)[k]? = some q) : q.1 = o + k ∧ k < 2 := by
  have hk : k < 2 := (List.getElem?_eq_some_iff.mp h).1
  rcases (show k = 0 ∨ k = 1 by omega) with rfl | rfl <;> (cases h; exact ⟨rfl, by decide⟩)
theorem wCo_in {c : Nat} {kd : Int32} (k : Nat) (q : Nat × va_E) (h : (wCo c kd)[k]? = some q) : q.1 = c + k ∧ k < 1 := by
  have hk : k < 1 := (List.getElem?_eq_some_iff.mp h).1
  rcases (show k = 0 by omega) with rfl
  cases h; exact ⟨rfl, by decide⟩
