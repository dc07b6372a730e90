/-! table: the same keys with the same values, in any order -/
section SI
variable {S M : Type} {stC : Int32 → Int32 → Int32 → S → S × Int64 × Int32} {stM : Int32 → Int32 → Int32 → M → M × Int64 × Int32} {ti nm xa xb mo na aa bb : Nat → Int32} {b : Nat} {t : Int32}
theorem sim_runI (R : Nat → S → M → Prop) (V : Int32 → Int32 → Int32 → Prop) (hs : ∀ i u x y s m, i < 32 → V u x y → R i s m → R (i + 1) (stC u x y s).1 (stM u x y m).1 ∧ (stC u x y s).2 = (stM u x y m).2) (hup : ∀ i s m, R i s m → R (i + 1) s m) :
    ∀ (k i : Nat) (st : S × Int64 × Int32) (m : M) (rs : Nat → Int64) (wk : Nat → Int32), i + k ≤ 32 → (∀ p, i ≤ p → p < i + k → (ti (b + p) = mo p ∧ nm (b + p) = na p ∧ xa (b + p) = aa p ∧ xb (b + p) = bb p) ∧ V (na p) (aa p) (bb p)) → R i st.1 m → R (i + k) (rut stC mo na aa bb t k i st).1 (mru stM ti nm xa xb b t k i m rs wk).1 := by
  intro k
  induction k with
  | zero => intro i st m rs wk hk h hR; exact hR
  | succ k ih =>
    intro i st m rs wk hk h hR
    obtain ⟨⟨e1, e2, e3, e4⟩, hv⟩ := h i (Nat.le_refl _) (by omega)
    unfold rut mru
    rw [e1, e2, e3, e4]
    by_cases hc : mo i ≤ t
    · rw [if_pos hc, if_neg (Int32.not_lt.mpr hc), show i + (k + 1) = i + 1 + k by omega]
      exact ih (i + 1) _ _ _ _ (by omega) (fun p h1 h2 => h p (by omega) (by omega)) (hs i _ _ _ _ _ (by omega) hv hR).1
    · rw [if_neg hc, if_pos (Int32.not_le.mp hc)]
      have hall : ∀ d, R (i + d) st.1 m := fun d => by
        induction d with
        | zero => exact hR
        | succ d ihd => exact hup _ _ _ ihd
      exact hall (k + 1)
theorem sim_resI (R : Nat → S → M → Prop) (V : Int32 → Int32 → Int32 → Prop) (hs : ∀ i u x y s m, i < 32 → V u x y → R i s m → R (i + 1) (stC u x y s).1 (stM u x y m).1 ∧ (stC u x y s).2 = (stM u x y m).2) :
    ∀ (k i : Nat) (st : S × Int64 × Int32) (re : Nat → Int64) (ef : Nat → Int32) (m : M) (rs : Nat → Int64) (wk : Nat → Int32), i + k ≤ 32 → (∀ p, i ≤ p → p < i + k → (ti (b + p) = mo p ∧ nm (b + p) = na p ∧ xa (b + p) = aa p ∧ xb (b + p) = bb p) ∧ V (na p) (aa p) (bb p)) → R i st.1 m →
      ∀ p, i ≤ p → p < i + k → (∀ z, i ≤ z → z ≤ p → mo z ≤ t) → (mru stM ti nm xa xb b t k i m rs wk).2.1 p = (rdo stC na aa bb k i st re ef).2.1 p ∧ (mru stM ti nm xa xb b t k i m rs wk).2.2 p = (rdo stC na aa bb k i st re ef).2.2 p := by
  intro k
  induction k with
  | zero => intro i st re ef m rs wk hk h hR p h1 h2; omega
  | succ k ih =>
    intro i st re ef m rs wk hk h hR p h1 h2 h3
    obtain ⟨⟨e1, e2, e3, e4⟩, hv⟩ := h i (Nat.le_refl _) (by omega)
    have hc : mo i ≤ t := h3 i (Nat.le_refl _) h1
    obtain ⟨g1, g2⟩ := hs i _ _ _ _ _ (by omega) hv hR
    unfold rdo mru
    rw [e1, e2, e3, e4, if_neg (Int32.not_lt.mpr hc)]
    by_cases hp : p = i
    · subst hp
      obtain ⟨a1, a2⟩ := mru_lt (stM := stM) (ti := ti) (nm := nm) (xa := xa) (xb := xb) (b := b) (t := t) k (p + 1) (stM (na p) (aa p) (bb p) m).1 (vp_updL rs p (stM (na p) (aa p) (bb p) m).2.1) (upd wk p (stM (na p) (aa p) (bb p) m).2.2) p (by omega)
      obtain ⟨b1, b2⟩ := rdo_lt (stC := stC) (na := na) (aa := aa) (bb := bb) k (p + 1) (stC (na p) (aa p) (bb p) st.1) (vp_updL re p (stC (na p) (aa p) (bb p) st.1).2.1) (upd ef p (stC (na p) (aa p) (bb p) st.1).2.2) p (by omega)
      rw [a1, a2, b1, b2, updL_at, updL_at, upd_at, upd_at, g2]
      exact ⟨rfl, rfl⟩
    · exact ih (i + 1) _ _ _ _ _ _ (by omega) (fun z z1 z2 => h z (by omega) (by omega)) g1 p (by omega) (by omega) (fun z z1 z2 => h3 z (by omega) z2)
end SI
theorem tpo_go (ks : Nat → Int32) (key : Int32) : ∀ (k i : Nat), (tpo ks key k i = -1 ∧ ∀ q, i ≤ q → q < i + k → ¬ ks q = key) ∨ ∃ p, i ≤ p ∧ p < i + k ∧ tpo ks key k i = nI p ∧ ks p = key := by
  intro k
  induction k with
  | zero => intro i; exact Or.inl ⟨rfl, fun q h1 h2 => by omega⟩
  | succ k ih =>
    intro i
    unfold tpo
    by_cases hc : ks i = key
    · rw [if_pos hc]; exact Or.inr ⟨i, Nat.le_refl _, by omega, rfl, hc⟩
    · rw [if_neg hc]
      rcases ih (i + 1) with ⟨h1, h2⟩ | ⟨p, h1, h2, h3, h4⟩
      · refine Or.inl ⟨h1, fun q q1 q2 => ?_⟩
        by_cases hq : q = i
        · rw [hq]; exact hc
        · exact h2 q (by omega) (by omega)
      · exact Or.inr ⟨p, by omega, by omega, h3, h4⟩
def RT (i : Nat) (s : Nat × (Nat → Int32) × (Nat → Int32)) (m : BgM) : Prop :=
  s.1 ≤ i ∧ s.1 = m.1 ∧ (∀ a b, a < s.1 → b < s.1 → s.2.1 a = s.2.1 b → a = b) ∧ (∀ a b, a < s.1 → b < s.1 → m.2.1 a = m.2.1 b → a = b) ∧ (∀ a, a < s.1 → ∃ p, p < s.1 ∧ m.2.1 p = s.2.1 a ∧ m.2.2 p = s.2.2 a) ∧ ∀ p, p < s.1 → ∃ a, a < s.1 ∧ s.2.1 a = m.2.1 p
/-- a key: in both, with one value, or in neither -/
theorem RT_key {i n : Nat} {ks vs it mv : Nat → Int32} (hi : i ≤ 32) (hR : RT i (n, ks, vs) (n, it, mv)) (x : Int32) :
    (tpo ks x n 0 = -1 ∧ f_Mo_keyAt n it x = -1 ∧ (∀ a, a < n → ¬ ks a = x) ∧ ∀ p, p < n → ¬ it p = x) ∨ ∃ a p, a < n ∧ p < n ∧ ks a = x ∧ it p = x ∧ mv p = vs a ∧ tpo ks x n 0 = nI a ∧ f_Mo_keyAt n it x = nI p := by
  obtain ⟨h0, -, h1, h2, h3, h4⟩ := hR
  have h0 : n ≤ i := h0
  rcases tpo_go ks x n 0 with ⟨e1, e2⟩ | ⟨a, -, a1, a2, a3⟩
  · rcases ka_go it x n 0 (-1) with ⟨f1, f2⟩ | ⟨p, -, p1, p2, p3⟩
    · exact Or.inl ⟨e1, f1, fun a ha => e2 a (by omega) (by omega), fun p hp => f2 p (by omega) (by omega)⟩
    · obtain ⟨a, a1, a2⟩ := h4 p (by show p < n; omega)
      have a1 : a < n := a1
      exact absurd (a2.trans p3) (e2 a (by omega) (by omega))
  · obtain ⟨p, p1, p2, p3⟩ := h3 a (by show a < n; omega)
    have p1 : p < n := p1
    have p2 : it p = ks a := p2
    rcases ka_go it x n 0 (-1) with ⟨f1, f2⟩ | ⟨p', -, q1, q2, q3⟩
    · exact absurd (p2.trans a3) (f2 p (by omega) (by omega))
    · have : p' = p := h2 p' p (by show p' < n; omega) p1 (by show it p' = it p; rw [q3, p2, a3])
      subst this
      exact Or.inr ⟨a, p', by omega, p1, a3, q3, p3, a2, q2⟩
theorem simT (i : Nat) (u x y : Int32) (s : Nat × (Nat → Int32) × (Nat → Int32)) (m : BgM) (hi : i < 32) (hu : u = 1 ∨ u = 2) (hR : RT i s m) : RT (i + 1) (taS u x y s).1 (taM u x y m).1 ∧ (taS u x y s).2 = (taM u x y m).2 := by
  obtain ⟨n, ks, vs⟩ := s
  obtain ⟨n1, it, mv⟩ := m
  have h0 : n = n1 := hR.2.1
  subst h0
  have hk := RT_key (by omega) hR x
  obtain ⟨g0, -, g1, g2, g3, g4⟩ := hR
  have g0 : n ≤ i := g0
  have g1 : ∀ a b, a < n → b < n → ks a = ks b → a = b := g1
  have g2 : ∀ a b, a < n → b < n → it a = it b → a = b := g2
  have g3 : ∀ a, a < n → ∃ p, p < n ∧ it p = ks a ∧ mv p = vs a := g3
  have g4 : ∀ p, p < n → ∃ a, a < n ∧ ks a = it p := g4
  have hsame : RT (i + 1) (n, ks, vs) (n, it, mv) := ⟨by show n ≤ i + 1; omega, rfl, g1, g2, g3, g4⟩
  unfold taS taM
  rcases hk with ⟨e1, e2, e3, e4⟩ | ⟨a, p, ha, hp, e3, e4, e5, e1, e2⟩
  · have n1 : ¬ ¬ f_Mo_keyAt n it x = -1 := fun h => h e2
    simp only [if_neg n1]
    rcases hu with hu | hu
    · have c1 : u = 1 ∧ tpo ks x n 0 = -1 := ⟨hu, e1⟩
      simp only [if_pos c1, if_pos hu]
      refine ⟨⟨by show n + 1 ≤ i + 1; omega, rfl, fun q r hq hr he => ?_, fun q r hq hr he => ?_, fun q hq => ?_, fun q hq => ?_⟩, trivial⟩
      · have hq : q < n + 1 := hq
        have hr : r < n + 1 := hr
        have he : upd ks n x q = upd ks n x r := he
        by_cases a1 : q = n
        · by_cases a2 : r = n
          · rw [a1, a2]
          · rw [a1, upd_at, upd_ne _ _ a2] at he
            exact absurd he.symm (e3 r (by omega))
        · by_cases a2 : r = n
          · rw [a2, upd_at, upd_ne _ _ a1] at he
            exact absurd he (e3 q (by omega))
          · rw [upd_ne _ _ a1, upd_ne _ _ a2] at he
            exact g1 q r (by omega) (by omega) he
      · have hq : q < n + 1 := hq
        have hr : r < n + 1 := hr
        have he : upd it n x q = upd it n x r := he
        by_cases a1 : q = n
        · by_cases a2 : r = n
          · rw [a1, a2]
          · rw [a1, upd_at, upd_ne _ _ a2] at he
            exact absurd he.symm (e4 r (by omega))
        · by_cases a2 : r = n
          · rw [a2, upd_at, upd_ne _ _ a1] at he
            exact absurd he (e4 q (by omega))
          · rw [upd_ne _ _ a1, upd_ne _ _ a2] at he
            exact g2 q r (by omega) (by omega) he
      · have hq : q < n + 1 := hq
        show ∃ p, p < n + 1 ∧ upd it n x p = upd ks n x q ∧ upd mv n y p = upd vs n y q
        by_cases a1 : q = n
        · exact ⟨n, by omega, by rw [a1, upd_at, upd_at], by rw [a1, upd_at, upd_at]⟩
        · obtain ⟨z, z1, z2, z3⟩ := g3 q (by omega)
          exact ⟨z, by omega, by rw [upd_ne _ _ (by omega), upd_ne _ _ a1]; exact z2, by rw [upd_ne _ _ (by omega), upd_ne _ _ a1]; exact z3⟩
      · have hq : q < n + 1 := hq
        show ∃ a, a < n + 1 ∧ upd ks n x a = upd it n x q
        by_cases a1 : q = n
        · exact ⟨n, by omega, by rw [a1, upd_at, upd_at]⟩
        · obtain ⟨z, z1, z2⟩ := g4 q (by omega)
          exact ⟨z, by omega, by rw [upd_ne _ _ (by omega), upd_ne _ _ a1]; exact z2⟩
    · have u1 : ¬ u = 1 := by rw [hu]; decide
      have c1 : ¬ (u = 1 ∧ tpo ks x n 0 = -1) := fun h => u1 h.1
      have c2 : ¬ (u = 2 ∧ ¬ tpo ks x n 0 = -1) := fun h => h.2 e1
      simp only [if_neg c1, if_neg c2, if_neg u1]
      exact ⟨hsame, trivial⟩
  · have nk : ¬ f_Mo_keyAt n it x = -1 := by rw [e2]; exact nI_ne_m1 (by omega)
    have nt : ¬ tpo ks x n 0 = -1 := by rw [e1]; exact nI_ne_m1 (by omega)
    simp only [if_pos nk]
    rcases hu with hu | hu
    · have c1 : ¬ (u = 1 ∧ tpo ks x n 0 = -1) := fun h => nt h.2
      have c2 : ¬ (u = 2 ∧ ¬ tpo ks x n 0 = -1) := fun h => by rw [hu] at h; exact absurd h.1 (by decide)
      simp only [if_neg c1, if_neg c2, if_pos hu]
      exact ⟨hsame, trivial⟩
    · have u1 : ¬ u = 1 := by rw [hu]; decide
      have c1 : ¬ (u = 1 ∧ tpo ks x n 0 = -1) := fun h => u1 h.1
      have c2 : u = 2 ∧ ¬ tpo ks x n 0 = -1 := ⟨hu, nt⟩
      have ea : (tpo ks x n 0).toNatClampNeg = a := by rw [e1, nI_clamp (by omega)]
      have ep : (f_Mo_keyAt n it x).toNatClampNeg = p := by rw [e2, nI_clamp (by omega)]
      simp only [if_neg c1, if_pos c2, if_neg u1, ea, ep]
      have hC : ∀ (f : Nat → Int32) q, q < n - 1 → upd f a (f (n - 1)) q = f (if q = a then n - 1 else q) := fun f q hq => by
        by_cases h9 : q = a
        · rw [if_pos h9, h9, upd_at]
        · rw [if_neg h9, upd_ne _ _ h9]
      have hM : ∀ (f : Nat → Int32) q, q < n - 1 → shd f (n - 1 - p) p q = f (if p ≤ q then q + 1 else q) := fun f q hq => by
        rw [shd_at]
        by_cases h9 : p ≤ q
        · rw [if_pos ⟨h9, by omega⟩, if_pos h9]
        · rw [if_neg (fun h => h9 h.1), if_neg h9]
      refine ⟨⟨by show n - 1 ≤ i + 1; omega, rfl, fun q r hq hr he => ?_, fun q r hq hr he => ?_, fun q hq => ?_, fun q hq => ?_⟩, ?_⟩
      · have hq : q < n - 1 := hq
        have hr : r < n - 1 := hr
        have he : upd ks a (ks (n - 1)) q = upd ks a (ks (n - 1)) r := he
        rw [hC ks q hq, hC ks r hr] at he
        have := g1 _ _ (by split <;> omega) (by split <;> omega) he
        by_cases a1 : q = a
        · by_cases a2 : r = a
          · omega
          · rw [if_pos a1, if_neg a2] at this; omega
        · by_cases a2 : r = a
          · rw [if_neg a1, if_pos a2] at this; omega
          · rw [if_neg a1, if_neg a2] at this; omega
      · have hq : q < n - 1 := hq
        have hr : r < n - 1 := hr
        have he : shd it (n - 1 - p) p q = shd it (n - 1 - p) p r := he
        rw [hM it q hq, hM it r hr] at he
        have := g2 _ _ (by split <;> omega) (by split <;> omega) he
        by_cases a1 : p ≤ q
        · by_cases a2 : p ≤ r
          · rw [if_pos a1, if_pos a2] at this; omega
          · rw [if_pos a1, if_neg a2] at this; omega
        · by_cases a2 : p ≤ r
          · rw [if_neg a1, if_pos a2] at this; omega
          · rw [if_neg a1, if_neg a2] at this; omega
      · have hq : q < n - 1 := hq
        show ∃ z, z < n - 1 ∧ shd it (n - 1 - p) p z = upd ks a (ks (n - 1)) q ∧ shd mv (n - 1 - p) p z = upd vs a (vs (n - 1)) q
        rw [hC ks q hq, hC vs q hq]
        have hz0 : (if q = a then n - 1 else q) < n ∧ (if q = a then n - 1 else q) ≠ a := by split <;> omega
        generalize (if q = a then n - 1 else q) = z0 at hz0
        obtain ⟨w, w1, w2, w3⟩ := g3 z0 hz0.1
        have hwp : w ≠ p := fun h => hz0.2 (g1 z0 a hz0.1 ha (by rw [← w2, h, e4, e3]))
        by_cases hw : p < w
        · refine ⟨w - 1, by omega, ?_, ?_⟩
          · rw [hM it _ (by omega), if_pos (by omega), show w - 1 + 1 = w by omega]; exact w2
          · rw [hM mv _ (by omega), if_pos (by omega), show w - 1 + 1 = w by omega]; exact w3
        · refine ⟨w, by omega, ?_, ?_⟩
          · rw [hM it _ (by omega), if_neg (by omega)]; exact w2
          · rw [hM mv _ (by omega), if_neg (by omega)]; exact w3
      · have hq : q < n - 1 := hq
        show ∃ z, z < n - 1 ∧ upd ks a (ks (n - 1)) z = shd it (n - 1 - p) p q
        rw [hM it q hq]
        have hz0 : (if p ≤ q then q + 1 else q) < n ∧ (if p ≤ q then q + 1 else q) ≠ p := by split <;> omega
        generalize (if p ≤ q then q + 1 else q) = z0 at hz0
        obtain ⟨w, w1, w2⟩ := g4 z0 hz0.1
        have hwa : w ≠ a := fun h => hz0.2 (g2 z0 p hz0.1 hp (by rw [← w2, h, e3, e4]))
        by_cases hw : w = n - 1
        · refine ⟨a, by omega, ?_⟩
          rw [hC ks a (by omega), if_pos rfl, ← hw]; exact w2
        · refine ⟨w, by omega, ?_⟩
          rw [hC ks w (by omega), if_neg hwa]; exact w2
      · show ((vs a).toInt64, (1 : Int32)) = ((mv p).toInt64, 1)
        rw [e5]
