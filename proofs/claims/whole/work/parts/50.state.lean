/-! the whole object as a state: four collections, what is in the scratch objects is anything -/
abbrev LnT : Type := Nat × (Nat → Int32) × (Nat → Int32) × (Nat → Int32) × (Nat → Int32) × (Nat → Int64) × (Nat → Int32)
abbrev CoT : Type := Int32 × LnT × LnT
abbrev BgT : Type := Nat × (Nat → Int32) × Int64 × Int32
abbrev TaT : Type := Nat × (Nat → Int32) × (Nat → Int32) × Int64 × Int32
abbrev ReT : Type := Int64 × Nat × Int64 × Int32
abbrev SeT : Type := Int32 × (Nat → Int32) × Int64 × Int32
abbrev ScT : Type := BgT × BgT × TaT × BgT × ReT × SeT
abbrev wLn (cI cJ cZ : ClassId) (a : Nat) (x : LnT) : va_W := wLi cI cJ cZ a x.1 x.2.1 x.2.2.1 x.2.2.2.1 x.2.2.2.2.1 x.2.2.2.2.2.1 x.2.2.2.2.2.2
def PSc (D : va_G) (cI : ClassId) (o : Nat) (q : ScT) (H : Heap) : Prop :=
  va_P D cls (wBa cI 2 (o + 62) q.1.1 q.1.2.1 q.1.2.2.1 q.1.2.2.2) H ∧ va_P D cls (wBa cI 3 (o + 64) q.2.1.1 q.2.1.2.1 q.2.1.2.2.1 q.2.1.2.2.2) H ∧
  va_P D cls (wTa cI (o + 66) q.2.2.1.1 q.2.2.1.2.1 q.2.2.1.2.2.1 q.2.2.1.2.2.2.1 q.2.2.1.2.2.2.2) H ∧ va_P D cls (wBa cI 4 (o + 69) q.2.2.2.1.1 q.2.2.2.1.2.1 q.2.2.2.1.2.2.1 q.2.2.2.1.2.2.2) H ∧
  va_P D cls (wRe (o + 71) q.2.2.2.2.1.1 q.2.2.2.2.1.2.1 q.2.2.2.2.1.2.2.1 q.2.2.2.2.1.2.2.2) H ∧ va_P D cls (wSe cI (o + 72) q.2.2.2.2.2.1 q.2.2.2.2.2.2.1 q.2.2.2.2.2.2.2.1 q.2.2.2.2.2.2.2.2) H
def PCo (D : va_G) (cI cJ cZ : ClassId) (o j : Nat) (x : CoT) (H : Heap) : Prop := va_P D cls (wCo (o + 2 + 15 * j) x.1) H ∧ va_P D cls (wLn cI cJ cZ (o + 2 + 15 * j + 1) x.2.1) H ∧ va_P D cls (wLn cI cJ cZ (o + 2 + 15 * j + 8) x.2.2) H
def PCq (D : va_G) (cI cJ cZ cO : ClassId) (o : Nat) (C : Nat → CoT) (q : ScT) (H : Heap) : Prop := va_P D cls (wEP cO o) H ∧ (∀ j, j < 4 → PCo D cI cJ cZ o j (C j) H) ∧ PSc D cI o q H
def PC (D : va_G) (cI cJ cZ cO : ClassId) (o : Nat) (C : Nat → CoT) (H : Heap) : Prop := ∃ q : ScT, PCq D cI cJ cZ cO o C q H
def updC (C : Nat → CoT) (j : Nat) (x : CoT) : Nat → CoT := fun i => if i = j then x else C i
theorem updC_at (C : Nat → CoT) (j : Nat) (x : CoT) : updC C j x j = x := by unfold updC; simp
theorem updC_ne (C : Nat → CoT) (x : CoT) {j i : Nat} (h : i ≠ j) : updC C j x i = C i := by unfold updC; simp [h]
section SA
variable {D : va_G} {cI cJ cZ cO : ClassId} {o : Nat} {C C1 : Nat → CoT} {q : ScT} {H H1 : Heap} {A : Nat → Prop}
theorem PCo.kept {j : Nat} {x : CoT} (h : PCo D cI cJ cZ o j x H) (hk : ∀ x : Nat, x < H.size → ¬ A x → H1[x]? = H[x]?) (hA : ∀ x, A x → x < o + 2 + 15 * j ∨ o + 2 + 15 * j + 15 ≤ x) : PCo D cI cJ cZ o j x H1 := by
  refine ⟨wo_kc h.1 hk (off_in (rng_of wCo_in) ?_), wo_kc h.2.1 hk (off_in wLi_in ?_), wo_kc h.2.2 hk (off_in wLi_in ?_)⟩ <;> (intro z h1 h2 h3; have := hA z h3; omega)
theorem PSc.kept (h : PSc D cI o q H) (hk : ∀ x : Nat, x < H.size → ¬ A x → H1[x]? = H[x]?) (hA : ∀ x, A x → x < o + 62 ∨ o + 74 ≤ x) : PSc D cI o q H1 := by
  refine ⟨wo_kc h.1 hk (off_in (rng_of wBa_in) ?_), wo_kc h.2.1 hk (off_in (rng_of wBa_in) ?_), wo_kc h.2.2.1 hk (off_in (rng_of wTa_in) ?_), wo_kc h.2.2.2.1 hk (off_in (rng_of wBa_in) ?_), wo_kc h.2.2.2.2.1 hk (off_in (rng_of wRe_in) ?_), wo_kc h.2.2.2.2.2 hk (off_in (rng_of wSe_in) ?_)⟩ <;> (intro z h1 h2 h3; have := hA z h3; omega)
/-- a heap that differs outside the object's 74 cells alone -/
theorem PCq.kept (h : PCq D cI cJ cZ cO o C q H) (hk : ∀ x : Nat, x < H.size → ¬ A x → H1[x]? = H[x]?) (hA : ∀ x, A x → x < o ∨ o + 74 ≤ x) : PCq D cI cJ cZ cO o C q H1 :=
  ⟨wo_kc h.1 hk (off_in (rng_of wEP_in) (by intro z h1 h2 h3; have := hA z h3; omega)), fun j hj => (h.2.1 j hj).kept hk (fun z h3 => by have := hA z h3; omega), h.2.2.kept hk (fun z h3 => by have := hA z h3; omega)⟩
theorem PC.kept (h : PC D cI cJ cZ cO o C H) (hk : ∀ x : Nat, x < H.size → ¬ A x → H1[x]? = H[x]?) (hA : ∀ x, A x → x < o ∨ o + 74 ≤ x) : PC D cI cJ cZ cO o C H1 := by
  obtain ⟨q, hq⟩ := h
  exact ⟨q, hq.kept hk hA⟩
theorem PC_mk {j : Nat} (h : PCq D cI cJ cZ cO o C q H) (hj : j < 4) (hk : ∀ x : Nat, x < H.size → ¬ A x → H1[x]? = H[x]?) (hA : ∀ x, A x → blk (o + 2 + 15 * j) 15 x ∨ blk (o + 62) 12 x) (hC : ∀ i, i ≠ j → C1 i = C i) (hn : PCo D cI cJ cZ o j (C1 j) H1) (hs : ∃ q1, PSc D cI o q1 H1) : PC D cI cJ cZ cO o C1 H1 := by
  obtain ⟨q1, hs⟩ := hs
  refine ⟨q1, wo_kc h.1 hk (off_in (rng_of wEP_in) ?_), fun i hi => ?_, hs⟩
  · intro z h1 h2 h3
    rcases hA z h3 with h4 | h4 <;> (simp only [blk] at h4; omega)
  · by_cases hij : i = j
    · rw [hij]; exact hn
    · rw [hC i hij]
      refine (h.2.1 i hi).kept hk (fun z h3 => ?_)
      rcases hA z h3 with h4 | h4 <;> (simp only [blk] at h4; omega)
end SA
section SB
variable {l : Launch} {y : MethodName} {ws : List Cond} {rm : Room} {D : va_G} {cI cJ cZ cO : ClassId} {av : List Value} {A A1 : Nat → Prop} {Pic Pic1 P P1 : Heap → Prop} {kap : Nat} {v : Option Value} {E3 : String}
theorem vx_conv (h : vx_Met l y ws rm (PcX D cI cJ cZ cO A av Pic) (Qt kap A v P) (Xt kap E3 A P) 1 6 A) (hp : ∀ H, Pic1 H → Pic H) (hA : ∀ q, A q → A1 q) (hq : ∀ H H1 : Heap, Pic1 H → (∀ q : Nat, q < H.size → ¬ A q → H1[q]? = H[q]?) → P H1 → P1 H1) :
    vx_Met l y ws rm (PcX D cI cJ cZ cO A1 av Pic1) (Qt kap A1 v P1) (Xt kap E3 A1 P1) 1 6 A1 := by
  have hF : ∀ st t : State, va_F A st t → va_F A1 st t := fun st t hF => ⟨hF.1, fun z h1 h2 => hF.2 z h1 (fun h3 => h2 (hA z h3))⟩
  refine Jvm.Free.MetFree.mono h (fun a s h1 => ⟨h1.1, h1.2.1, ⟨vx_Zq.narrow h1.2.2.1.1 hA, vx_Zq.narrow h1.2.2.1.2 hA⟩, hp _ h1.2.2.2⟩) (fun _ _ _ _ _ h => h) (fun a s o t h1 h2 => ?_)
  rcases h2 with ⟨⟨k1, k2, k3, k4⟩, L, k5, k6⟩ | ⟨z, k0, E, ce, L, ⟨k1, k2, k3, k4⟩, k5⟩
  · exact Or.inl ⟨⟨k1, k2, hF _ _ k3, hq _ _ h1.2.2.2 k3.2 k4⟩, L, k5, fun z hz => hA _ (k6 z hz)⟩
  · exact Or.inr ⟨z, k0, E, ce, L, ⟨k1, k2, hF _ _ k3, hq _ _ h1.2.2.2 k3.2 k4⟩, k5.1, k5.2.1, k5.2.2.1, k5.2.2.2.1, k5.2.2.2.2.1, fun z hz => hA _ (k5.2.2.2.2.2 z hz)⟩
end SB
/-- a call of the class at this heap: it ends as kap says, with v, and leaves the state C1 -/
def CS (l : Launch) (D : va_G) (cI cJ cZ cO : ClassId) (o : Nat) (y : MethodName) (k : Cond) (rx : Room) (av : List Value) (E3 : String) (v : Option Value) (kap : Nat) (C1 : Nat → CoT) (H : Heap) : Prop :=
  ∃ Pic : Heap → Prop, Pic H ∧ (∀ H, Pic H → va_P D cls (wEP cO o) H) ∧ vx_Met l y (k :: gt) rx (PcX D cI cJ cZ cO (blk o 74) av Pic) (Qt kap (blk o 74) v (PC D cI cJ cZ cO o C1)) (Xt kap E3 (blk o 74) (PC D cI cJ cZ cO o C1)) 1 6 (blk o 74)
section SC
variable {l : Launch} {D : va_G} {cI cJ cZ cO : ClassId} {o : Nat} {y : MethodName} {k : Cond} {rx : Room} {av : List Value} {E3 : String} {v : Option Value} {kap : Nat} {C C1 : Nat → CoT} {q : ScT} {H : Heap} {Pic P : Heap → Prop} {A : Nat → Prop}
/-- nothing changes -/
theorem cs_same (hM : vx_Met l y (k :: gt) rx (PcX D cI cJ cZ cO (fun _ => False) av Pic) (Qt kap (fun _ => False) v (fun _ => True)) (Xt kap E3 (fun _ => False) (fun _ => True)) 1 6 (fun _ => False)) (hp : ∀ H, PCq D cI cJ cZ cO o C q H → Pic H) (hq : PCq D cI cJ cZ cO o C q H) : CS l D cI cJ cZ cO o y k rx av E3 v kap C H :=
  ⟨PCq D cI cJ cZ cO o C q, hq, fun H h => h.1, vx_conv hM hp (fun z h => h.elim) (fun H H1 h hk _ => ⟨q, h.kept hk (fun z h3 => h3.elim)⟩)⟩
theorem cs_of (hM : vx_Met l y (k :: gt) rx (PcX D cI cJ cZ cO A av Pic) (Qt kap A v P) (Xt kap E3 A P) 1 6 A) (hp : ∀ H, PCq D cI cJ cZ cO o C q H → Pic H) (hq : PCq D cI cJ cZ cO o C q H) (hA : ∀ z, A z → blk o 74 z) (h1 : ∀ H H1 : Heap, PCq D cI cJ cZ cO o C q H → (∀ z : Nat, z < H.size → ¬ A z → H1[z]? = H[z]?) → P H1 → PC D cI cJ cZ cO o C1 H1) : CS l D cI cJ cZ cO o y k rx av E3 v kap C1 H :=
  ⟨PCq D cI cJ cZ cO o C q, hq, fun H h => h.1, vx_conv hM hp hA h1⟩
end SC
