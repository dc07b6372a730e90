/-! register and sets: one step -/
def RR (s : Int64 × Nat) (m : Int64) : Prop := s.1 = m
theorem simR (u x y : Int32) (s : Int64 × Nat) (m : Int64) (hR : RR s m) : RR (reS x s).1 (reM u x y m).1 ∧ (reS x s).2 = (reM u x y m).2 := by
  obtain ⟨tot, n⟩ := s
  have hR : tot = m := hR
  subst hR
  unfold reS reM reT RR
  by_cases h : (tot + x.toInt64) < 0
  · have h1 : ¬ 0 ≤ lg_cmp (tot + x.toInt64) 0 := fun h2 => absurd ((lg_cmp_ge _ _).mp h2) (Int64.not_le.mpr h)
    simp only [if_pos h, if_neg h1]
    exact ⟨trivial, trivial⟩
  · have h1 : 0 ≤ lg_cmp (tot + x.toInt64) 0 := (lg_cmp_ge _ _).mpr (Int64.not_lt.mp h)
    simp only [if_neg h, if_pos h1]
    exact ⟨trivial, trivial⟩
def RE (s : Int32 × (Nat → Int32)) (m : SeM) : Prop := s.1 = m.1 ∧ ∀ a b, a < 16 → b < 16 → (s.2 a = s.2 b ↔ m.2 a = m.2 b)
theorem sld_at (x y : Int32) : ∀ (k i : Nat) (f : Nat → Int32) (q : Nat), sld x y k i f q = if i ≤ q ∧ q < i + k ∧ f q = y then x else f q := by
  intro k
  induction k with
  | zero => intro i f q; rw [if_neg (by omega)]; rfl
  | succ k ih =>
    intro i f q
    show sld x y k (i + 1) (if f i = y then upd f i x else f) q = _
    rw [ih]
    by_cases hf : f i = y
    · rw [if_pos hf]
      by_cases hq : q = i
      · subst hq
        rw [if_neg (by omega), upd_at, if_pos ⟨Nat.le_refl _, by omega, hf⟩]
      · rw [upd_ne _ _ hq]
        by_cases h : i + 1 ≤ q ∧ q < i + 1 + k ∧ f q = y
        · rw [if_pos h, if_pos ⟨by omega, by omega, h.2.2⟩]
        · rw [if_neg h, if_neg (fun h2 => h ⟨by omega, by omega, h2.2.2⟩)]
    · rw [if_neg hf]
      by_cases h : i + 1 ≤ q ∧ q < i + 1 + k ∧ f q = y
      · rw [if_pos h, if_pos ⟨by omega, by omega, h.2.2⟩]
      · rw [if_neg h, if_neg (fun h2 => by
          by_cases hq : q = i
          · subst hq; exact hf h2.2.2
          · exact h ⟨by omega, by omega, h2.2.2⟩)]
theorem ds_at (ma : Int32) : ∀ (k i : Nat) (fr to9 : Int32) (se : Nat → Int32), (g_Mo_doSets_18 ma k i fr to9 se).1 = (if fr = to9 then 0 else 1) ∧ (g_Mo_doSets_18 ma k i fr to9 se).2.1 = (if fr = to9 then ma else ma - 1) ∧ ∀ q, (g_Mo_doSets_18 ma k i fr to9 se).2.2 q = if i ≤ q ∧ q < i + k ∧ se q = fr then to9 else se q := by
  intro k
  induction k with
  | zero =>
    intro i fr to9 se
    unfold g_Mo_doSets_18
    by_cases h : fr = to9
    · simp only [if_pos h]
      refine ⟨trivial, Int32.sub_zero ma, fun q => ?_⟩
      rw [if_neg (by omega)]
    · simp only [if_neg h]
      refine ⟨trivial, trivial, fun q => ?_⟩
      rw [if_neg (by omega)]
  | succ k ih =>
    intro i fr to9 se
    unfold g_Mo_doSets_18
    by_cases hf : se i = fr
    · rw [if_pos hf]
      obtain ⟨h1, h2, h3⟩ := ih (i + 1) fr to9 (upd se i to9)
      refine ⟨h1, h2, fun q => ?_⟩
      rw [h3]
      by_cases hq : q = i
      · subst hq
        rw [if_neg (by omega), upd_at, if_pos ⟨Nat.le_refl _, by omega, hf⟩]
      · rw [upd_ne _ _ hq]
        by_cases h : i + 1 ≤ q ∧ q < i + 1 + k ∧ se q = fr
        · rw [if_pos h, if_pos ⟨by omega, by omega, h.2.2⟩]
        · rw [if_neg h, if_neg (fun h4 => h ⟨by omega, by omega, h4.2.2⟩)]
    · rw [if_neg hf]
      obtain ⟨h1, h2, h3⟩ := ih (i + 1) fr to9 (upd se i (se i))
      refine ⟨h1, h2, fun q => ?_⟩
      rw [h3]
      have hu : upd se i (se i) q = se q := by
        by_cases hq : q = i
        · rw [hq, upd_at]
        · rw [upd_ne _ _ hq]
      rw [hu]
      by_cases h : i + 1 ≤ q ∧ q < i + 1 + k ∧ se q = fr
      · rw [if_pos h, if_pos ⟨by omega, by omega, h.2.2⟩]
      · rw [if_neg h, if_neg (fun h4 => by
          by_cases hq : q = i
          · subst hq; exact hf h4.2.2
          · exact h ⟨by omega, by omega, h4.2.2⟩)]
theorem simE (u x y : Int32) (s : Int32 × (Nat → Int32)) (m : SeM) (hx : x.toNatClampNeg < 16) (hy : y.toNatClampNeg < 16) (hR : RE s m) : RE (seS x y s).1 (seM u x y m).1 ∧ (seS x y s).2 = (seM u x y m).2 := by
  obtain ⟨cn, ld⟩ := s
  obtain ⟨ma, se⟩ := m
  obtain ⟨h1, h2⟩ := hR
  have h1 : cn = ma := h1
  subst h1
  have h2 : ∀ a b, a < 16 → b < 16 → (ld a = ld b ↔ se a = se b) := h2
  generalize hxa : x.toNatClampNeg = a at hx
  generalize hyb : y.toNatClampNeg = b at hy
  obtain ⟨d1, d2, d3⟩ := ds_at cn 16 0 (se a) (se b) se
  have e1 : (f_Mo_doSets cn se a b).1 = if se a = se b then 0 else 1 := d1
  have e2 : (f_Mo_doSets cn se a b).2.1 = if se a = se b then cn else cn - 1 := d2
  have e3 : ∀ q, q < 16 → (f_Mo_doSets cn se a b).2.2 q = if se q = se a then se b else se q := fun q hq => by
    have h := d3 q
    show (g_Mo_doSets_18 cn 16 0 (se a) (se b) se).2.2 q = _
    rw [h]
    by_cases hqa : se q = se a
    · rw [if_pos ⟨by omega, by omega, hqa⟩, if_pos hqa]
    · rw [if_neg (fun h9 => hqa h9.2.2), if_neg hqa]
  unfold seS seM
  simp only [hxa, hyb]
  by_cases hab : ld a = ld b
  · have hab2 := (h2 a b hx hy).mp hab
    rw [if_pos hab, e1, e2, if_pos hab2, if_pos hab2]
    refine ⟨⟨rfl, fun p q hp hq => ?_⟩, rfl⟩
    show ld p = ld q ↔ (f_Mo_doSets cn se a b).2.2 p = (f_Mo_doSets cn se a b).2.2 q
    rw [e3 p hp, e3 q hq, ← hab2]
    have g : ∀ z, (if se z = se a then se a else se z) = se z := fun z => by
      by_cases hz : se z = se a
      · rw [if_pos hz, hz]
      · rw [if_neg hz]
    rw [g, g]
    exact h2 p q hp hq
  · have hab2 : ¬ se a = se b := fun h => hab ((h2 a b hx hy).mpr h)
    rw [if_neg hab, e1, e2, if_neg hab2, if_neg hab2]
    have hs9 := sld_at (ld a) (ld b) 16 0 ld
    generalize sld (ld a) (ld b) 16 0 ld = G9 at hs9 ⊢
    refine ⟨⟨rfl, fun p q hp hq => ?_⟩, rfl⟩
    show G9 p = G9 q ↔ (f_Mo_doSets cn se a b).2.2 p = (f_Mo_doSets cn se a b).2.2 q
    rw [e3 p hp, e3 q hq, hs9, hs9]
    have g : ∀ z, z < 16 → (if 0 ≤ z ∧ z < 0 + 16 ∧ ld z = ld b then ld a else ld z) = (if ld z = ld b then ld a else ld z) := fun z hz => by
      by_cases h9 : ld z = ld b
      · rw [if_pos ⟨by omega, by omega, h9⟩, if_pos h9]
      · rw [if_neg (fun h => h9 h.2.2), if_neg h9]
    rw [g p hp, g q hq]
    have pb := h2 p b hp hy
    have qb := h2 q b hq hy
    have pa := h2 p a hp hx
    have qa := h2 q a hq hx
    have pq := h2 p q hp hq
    by_cases h3 : ld p = ld b
    · have np : ¬ se p = se a := fun h => hab2 (h.symm.trans (pb.mp h3))
      rw [if_pos h3, if_neg np]
      by_cases h4 : ld q = ld b
      · have nq : ¬ se q = se a := fun h => hab2 (h.symm.trans (qb.mp h4))
        rw [if_pos h4, if_neg nq]
        exact ⟨fun _ => (pb.mp h3).trans (qb.mp h4).symm, fun _ => rfl⟩
      · rw [if_neg h4]
        by_cases h5 : ld q = ld a
        · rw [if_pos (qa.mp h5)]
          exact ⟨fun _ => pb.mp h3, fun _ => h5.symm⟩
        · have nq : ¬ se q = se a := fun h => h5 (qa.mpr h)
          rw [if_neg nq]
          exact ⟨fun h => absurd h.symm h5, fun h => absurd (qb.mpr (h.symm.trans (pb.mp h3))) h4⟩
    · rw [if_neg h3]
      by_cases h5 : ld p = ld a
      · rw [if_pos (pa.mp h5)]
        by_cases h4 : ld q = ld b
        · have nq : ¬ se q = se a := fun h => hab2 (h.symm.trans (qb.mp h4))
          rw [if_pos h4, if_neg nq]
          exact ⟨fun _ => (qb.mp h4).symm, fun _ => h5⟩
        · rw [if_neg h4]
          by_cases h6 : ld q = ld a
          · rw [if_pos (qa.mp h6)]
            exact ⟨fun _ => rfl, fun _ => h5.trans h6.symm⟩
          · have nq : ¬ se q = se a := fun h => h6 (qa.mpr h)
            rw [if_neg nq]
            exact ⟨fun h => absurd (h.symm.trans h5) h6, fun h => absurd (qb.mpr h.symm) h4⟩
      · have np : ¬ se p = se a := fun h => h5 (pa.mpr h)
        rw [if_neg np]
        by_cases h4 : ld q = ld b
        · have nq : ¬ se q = se a := fun h => hab2 (h.symm.trans (qb.mp h4))
          rw [if_pos h4, if_neg nq]
          exact ⟨fun h => absurd h h5, fun h => absurd (pb.mpr (h.trans (qb.mp h4))) h3⟩
        · rw [if_neg h4]
          by_cases h6 : ld q = ld a
          · rw [if_pos (qa.mp h6)]
            exact ⟨fun h => absurd (h.trans h6) h5, fun h => absurd (pb.mpr h) h3⟩
          · have nq : ¬ se q = se a := fun h => h6 (qa.mpr h)
            rw [if_neg nq]
            exact pq
