/-! the class's run and the reference's run, side by side -/
/-- the reference's run: state, results, works -/
def mru {M : Type} (stp : Int32 → Int32 → Int32 → M → M × Int64 × Int32) (ti nm xa xb : Nat → Int32) (b : Nat) (t : Int32) : Nat → Nat → M → (Nat → Int64) → (Nat → Int32) → M × (Nat → Int64) × (Nat → Int32)
  | 0, _, m, rs, wk => (m, rs, wk)
  | k + 1, i, m, rs, wk => if t < ti (b + i) then (m, rs, wk) else mru stp ti nm xa xb b t k (i + 1) (stp (nm (b + i)) (xa (b + i)) (xb (b + i)) m).1 (vp_updL rs i (stp (nm (b + i)) (xa (b + i)) (xb (b + i)) m).2.1) (upd wk i (stp (nm (b + i)) (xa (b + i)) (xb (b + i)) m).2.2)
/-- the operations of a line lie in the reference's arrays from b on -/
def LEq (n : Nat) (mo na aa bb ti nm xa xb : Nat → Int32) (b : Nat) : Prop := ∀ p, p < n → ti (b + p) = mo p ∧ nm (b + p) = na p ∧ xa (b + p) = aa p ∧ xb (b + p) = bb p
section SM
variable {S M : Type} {stC : Int32 → Int32 → Int32 → S → S × Int64 × Int32} {stM : Int32 → Int32 → Int32 → M → M × Int64 × Int32} {ti nm xa xb mo na aa bb : Nat → Int32} {b : Nat} {t : Int32}
theorem mru_lt : ∀ (k i : Nat) (m : M) (rs : Nat → Int64) (wk : Nat → Int32) (p : Nat), p < i → (mru stM ti nm xa xb b t k i m rs wk).2.1 p = rs p ∧ (mru stM ti nm xa xb b t k i m rs wk).2.2 p = wk p := by
  intro k
  induction k with
  | zero => intro i m rs wk p hp; exact ⟨rfl, rfl⟩
  | succ k ih =>
    intro i m rs wk p hp
    unfold mru
    split
    · exact ⟨rfl, rfl⟩
    · obtain ⟨h1, h2⟩ := ih (i + 1) (stM (nm (b + i)) (xa (b + i)) (xb (b + i)) m).1 (vp_updL rs i (stM (nm (b + i)) (xa (b + i)) (xb (b + i)) m).2.1) (upd wk i (stM (nm (b + i)) (xa (b + i)) (xb (b + i)) m).2.2) p (by omega)
      rw [h1, h2, updL_ne _ _ (by omega), upd_ne _ _ (by omega)]
      exact ⟨rfl, rfl⟩
theorem rdo_lt : ∀ (k i : Nat) (st : S × Int64 × Int32) (re : Nat → Int64) (ef : Nat → Int32) (p : Nat), p < i → (rdo stC na aa bb k i st re ef).2.1 p = re p ∧ (rdo stC na aa bb k i st re ef).2.2 p = ef p := by
  intro k
  induction k with
  | zero => intro i st re ef p hp; exact ⟨rfl, rfl⟩
  | succ k ih =>
    intro i st re ef p hp
    unfold rdo
    obtain ⟨h1, h2⟩ := ih (i + 1) (stC (na i) (aa i) (bb i) st.1) (vp_updL re i (stC (na i) (aa i) (bb i) st.1).2.1) (upd ef i (stC (na i) (aa i) (bb i) st.1).2.2) p (by omega)
    rw [h1, h2, updL_ne _ _ (by omega), upd_ne _ _ (by omega)]
    exact ⟨rfl, rfl⟩
theorem sim_run (R : S → M → Prop) (V : Int32 → Int32 → Int32 → Prop) (hs : ∀ u x y s m, V u x y → R s m → R (stC u x y s).1 (stM u x y m).1 ∧ (stC u x y s).2 = (stM u x y m).2) :
    ∀ (k i : Nat) (st : S × Int64 × Int32) (m : M) (rs : Nat → Int64) (wk : Nat → Int32), (∀ p, i ≤ p → p < i + k → (ti (b + p) = mo p ∧ nm (b + p) = na p ∧ xa (b + p) = aa p ∧ xb (b + p) = bb p) ∧ V (na p) (aa p) (bb p)) → R st.1 m → R (rut stC mo na aa bb t k i st).1 (mru stM ti nm xa xb b t k i m rs wk).1 := by
  intro k
  induction k with
  | zero => intro i st m rs wk h hR; exact hR
  | succ k ih =>
    intro i st m rs wk h hR
    obtain ⟨⟨e1, e2, e3, e4⟩, hv⟩ := h i (Nat.le_refl _) (by omega)
    unfold rut mru
    rw [e1, e2, e3, e4]
    by_cases hc : mo i ≤ t
    · rw [if_pos hc, if_neg (Int32.not_lt.mpr hc)]
      exact ih (i + 1) _ _ _ _ (fun p h1 h2 => h p (by omega) (by omega)) (hs _ _ _ _ _ hv hR).1
    · rw [if_neg hc, if_pos (Int32.not_le.mp hc)]
      exact hR
theorem sim_res (R : S → M → Prop) (V : Int32 → Int32 → Int32 → Prop) (hs : ∀ u x y s m, V u x y → R s m → R (stC u x y s).1 (stM u x y m).1 ∧ (stC u x y s).2 = (stM u x y m).2) :
    ∀ (k i : Nat) (st : S × Int64 × Int32) (re : Nat → Int64) (ef : Nat → Int32) (m : M) (rs : Nat → Int64) (wk : Nat → Int32), (∀ p, i ≤ p → p < i + k → (ti (b + p) = mo p ∧ nm (b + p) = na p ∧ xa (b + p) = aa p ∧ xb (b + p) = bb p) ∧ V (na p) (aa p) (bb p)) → R st.1 m →
      ∀ p, i ≤ p → p < i + k → (∀ z, i ≤ z → z ≤ p → mo z ≤ t) → (mru stM ti nm xa xb b t k i m rs wk).2.1 p = (rdo stC na aa bb k i st re ef).2.1 p ∧ (mru stM ti nm xa xb b t k i m rs wk).2.2 p = (rdo stC na aa bb k i st re ef).2.2 p := by
  intro k
  induction k with
  | zero => intro i st re ef m rs wk h hR p h1 h2; omega
  | succ k ih =>
    intro i st re ef m rs wk h hR p h1 h2 h3
    obtain ⟨⟨e1, e2, e3, e4⟩, hv⟩ := h i (Nat.le_refl _) (by omega)
    have hc : mo i ≤ t := h3 i (Nat.le_refl _) h1
    obtain ⟨g1, g2⟩ := hs _ _ _ _ _ hv hR
    unfold rdo mru
    rw [e1, e2, e3, e4, if_neg (Int32.not_lt.mpr hc)]
    by_cases hp : p = i
    · subst hp
      obtain ⟨a1, a2⟩ := mru_lt (stM := stM) (ti := ti) (nm := nm) (xa := xa) (xb := xb) (b := b) (t := t) k (p + 1) (stM (na p) (aa p) (bb p) m).1 (vp_updL rs p (stM (na p) (aa p) (bb p) m).2.1) (upd wk p (stM (na p) (aa p) (bb p) m).2.2) p (by omega)
      obtain ⟨b1, b2⟩ := rdo_lt (stC := stC) (na := na) (aa := aa) (bb := bb) k (p + 1) (stC (na p) (aa p) (bb p) st.1) (vp_updL re p (stC (na p) (aa p) (bb p) st.1).2.1) (upd ef p (stC (na p) (aa p) (bb p) st.1).2.2) p (by omega)
      rw [a1, a2, b1, b2, updL_at, updL_at, upd_at, upd_at, g2]
      exact ⟨rfl, rfl⟩
    · exact ih (i + 1) _ _ _ _ _ _ (fun z z1 z2 => h z (by omega) (by omega)) g1 p (by omega) (by omega) (fun z z1 z2 => h3 z (by omega) z2)
end SM
theorem updL_updL (f : Nat → Int64) (i : Nat) (x y : Int64) : vp_updL (vp_updL f i x) i y = vp_updL f i y := by
  funext q
  unfold vp_updL
  by_cases h : q = i
  · simp [h]
  · simp [h]
theorem to_shd (n : Nat) : ∀ (k i : Nat) (it vs : Nat → Int32), g_Mo_takeOut_12 n k i it vs = (n - 1, shd it k i, shd vs k i) := by
  intro k
  induction k with
  | zero => intro i it vs; rfl
  | succ k ih => intro i it vs; exact ih _ _ _
theorem takeOut_eq (n : Nat) (it vs : Nat → Int32) (p : Nat) : f_Mo_takeOut n it vs p = (n - 1, shd it (n - 1 - p) p, shd vs (n - 1 - p) p) := to_shd n _ _ _ _
theorem nx0_eq (n : Nat) : f_Mo_nextOf_0 n = 0 := by unfold f_Mo_nextOf_0; split <;> rfl
theorem nx1_eq (n : Nat) : f_Mo_nextOf_1 n = n - 1 := by unfold f_Mo_nextOf_1; split <;> rfl
abbrev BgM : Type := Nat × (Nat → Int32) × (Nat → Int32)
/-- the reference's step on a bag; nx: where the next one lies -/
def bgM (nx : Nat → (Nat → Int32) → Nat) (u x _y : Int32) (m : BgM) : BgM × Int64 × Int32 :=
  if u = 1 then ((m.1 + 1, upd m.2.1 m.1 x, m.2.2), 0, 1) else if m.1 = 0 then (m, 0, 0)
  else ((m.1 - 1, shd m.2.1 (m.1 - 1 - nx m.1 m.2.1) (nx m.1 m.2.1), shd m.2.2 (m.1 - 1 - nx m.1 m.2.1) (nx m.1 m.2.1)), (m.2.1 (nx m.1 m.2.1)).toInt64, 1)
theorem doBag_eq_0 (n : Nat) (it vs : Nat → Int32) (rs : Nat → Int64) (i : Nat) (u x y : Int32) : f_Mo_doBag_0 n it vs (vp_updL rs i 0) i u x = ((bgM (fun n _ => f_Mo_nextOf_0 n) u x y (n, it, vs)).2.2, (bgM (fun n _ => f_Mo_nextOf_0 n) u x y (n, it, vs)).1.1, (bgM (fun n _ => f_Mo_nextOf_0 n) u x y (n, it, vs)).1.2.1, (bgM (fun n _ => f_Mo_nextOf_0 n) u x y (n, it, vs)).1.2.2, vp_updL rs i (bgM (fun n _ => f_Mo_nextOf_0 n) u x y (n, it, vs)).2.1) := by
  unfold f_Mo_doBag_0 bgM
  by_cases h1 : u = 1
  · simp only [if_pos h1]
  · simp only [if_neg h1]
    by_cases h2 : n = 0
    · simp only [if_pos h2]
    · simp only [if_neg h2, takeOut_eq, updL_updL]
theorem run48_0 (ti nm xa xb : Nat → Int32) (j : Nat) (t : Int32) : ∀ (k i mc : Nat) (it vs se : Nat → Int32) (sm : Int64) (rs : Nat → Int64) (wk : Nat → Int32), g_Mo_run_0_48 ti nm xa j t k i mc it vs se sm rs wk =
    ((mru (bgM (fun n _ => f_Mo_nextOf_0 n)) ti nm xa xb (32 * j) t k i (mc, it, vs) rs wk).1.1, (mru (bgM (fun n _ => f_Mo_nextOf_0 n)) ti nm xa xb (32 * j) t k i (mc, it, vs) rs wk).1.2.1, (mru (bgM (fun n _ => f_Mo_nextOf_0 n)) ti nm xa xb (32 * j) t k i (mc, it, vs) rs wk).1.2.2, se, sm, (mru (bgM (fun n _ => f_Mo_nextOf_0 n)) ti nm xa xb (32 * j) t k i (mc, it, vs) rs wk).2.1, (mru (bgM (fun n _ => f_Mo_nextOf_0 n)) ti nm xa xb (32 * j) t k i (mc, it, vs) rs wk).2.2) := by
  intro k
  induction k with
  | zero => intro i mc it vs se sm rs wk; rfl
  | succ k ih =>
    intro i mc it vs se sm rs wk
    unfold g_Mo_run_0_48 mru
    by_cases hc : t < ti (32 * j + i)
    · simp only [if_pos hc]
    · simp only [if_neg hc]
      rw [doBag_eq_0 mc it vs rs i (nm (32 * j + i)) (xa (32 * j + i)) (xb (32 * j + i)), ih]
theorem run23_0 (ti nm xa xb it vs : Nat → Int32) (rs : Nat → Int64) (wk : Nat → Int32) (n j : Nat) (t : Int32) : ∀ (k i : Nat) (se : Nat → Int32), ∃ se1 : Nat → Int32, g_Mo_run_0_23 ti nm xa it vs rs wk n j t k i se =
    ((mru (bgM (fun n _ => f_Mo_nextOf_0 n)) ti nm xa xb (32 * j) t n 0 (0, it, vs) rs wk).1.1, (mru (bgM (fun n _ => f_Mo_nextOf_0 n)) ti nm xa xb (32 * j) t n 0 (0, it, vs) rs wk).1.2.1, (mru (bgM (fun n _ => f_Mo_nextOf_0 n)) ti nm xa xb (32 * j) t n 0 (0, it, vs) rs wk).1.2.2, se1, 0, (mru (bgM (fun n _ => f_Mo_nextOf_0 n)) ti nm xa xb (32 * j) t n 0 (0, it, vs) rs wk).2.1, (mru (bgM (fun n _ => f_Mo_nextOf_0 n)) ti nm xa xb (32 * j) t n 0 (0, it, vs) rs wk).2.2) := by
  intro k
  induction k with
  | zero => intro i se; exact ⟨se, run48_0 ti nm xa xb j t n 0 0 it vs se 0 rs wk⟩
  | succ k ih => intro i se; exact ih _ _
theorem doBag_eq_1 (n : Nat) (it vs : Nat → Int32) (rs : Nat → Int64) (i : Nat) (u x y : Int32) : f_Mo_doBag_1 n it vs (vp_updL rs i 0) i u x = ((bgM (fun n _ => f_Mo_nextOf_1 n) u x y (n, it, vs)).2.2, (bgM (fun n _ => f_Mo_nextOf_1 n) u x y (n, it, vs)).1.1, (bgM (fun n _ => f_Mo_nextOf_1 n) u x y (n, it, vs)).1.2.1, (bgM (fun n _ => f_Mo_nextOf_1 n) u x y (n, it, vs)).1.2.2, vp_updL rs i (bgM (fun n _ => f_Mo_nextOf_1 n) u x y (n, it, vs)).2.1) := by
  unfold f_Mo_doBag_1 bgM
  by_cases h1 : u = 1
  · simp only [if_pos h1]
  · simp only [if_neg h1]
    by_cases h2 : n = 0
    · simp only [if_pos h2]
    · simp only [if_neg h2, takeOut_eq, updL_updL]
theorem run48_1 (ti nm xa xb : Nat → Int32) (j : Nat) (t : Int32) : ∀ (k i mc : Nat) (it vs se : Nat → Int32) (sm : Int64) (rs : Nat → Int64) (wk : Nat → Int32), g_Mo_run_1_48 ti nm xa j t k i mc it vs se sm rs wk =
    ((mru (bgM (fun n _ => f_Mo_nextOf_1 n)) ti nm xa xb (32 * j) t k i (mc, it, vs) rs wk).1.1, (mru (bgM (fun n _ => f_Mo_nextOf_1 n)) ti nm xa xb (32 * j) t k i (mc, it, vs) rs wk).1.2.1, (mru (bgM (fun n _ => f_Mo_nextOf_1 n)) ti nm xa xb (32 * j) t k i (mc, it, vs) rs wk).1.2.2, se, sm, (mru (bgM (fun n _ => f_Mo_nextOf_1 n)) ti nm xa xb (32 * j) t k i (mc, it, vs) rs wk).2.1, (mru (bgM (fun n _ => f_Mo_nextOf_1 n)) ti nm xa xb (32 * j) t k i (mc, it, vs) rs wk).2.2) := by
  intro k
  induction k with
  | zero => intro i mc it vs se sm rs wk; rfl
  | succ k ih =>
    intro i mc it vs se sm rs wk
    unfold g_Mo_run_1_48 mru
    by_cases hc : t < ti (32 * j + i)
    · simp only [if_pos hc]
    · simp only [if_neg hc]
      rw [doBag_eq_1 mc it vs rs i (nm (32 * j + i)) (xa (32 * j + i)) (xb (32 * j + i)), ih]
theorem run23_1 (ti nm xa xb it vs : Nat → Int32) (rs : Nat → Int64) (wk : Nat → Int32) (n j : Nat) (t : Int32) : ∀ (k i : Nat) (se : Nat → Int32), ∃ se1 : Nat → Int32, g_Mo_run_1_23 ti nm xa it vs rs wk n j t k i se =
    ((mru (bgM (fun n _ => f_Mo_nextOf_1 n)) ti nm xa xb (32 * j) t n 0 (0, it, vs) rs wk).1.1, (mru (bgM (fun n _ => f_Mo_nextOf_1 n)) ti nm xa xb (32 * j) t n 0 (0, it, vs) rs wk).1.2.1, (mru (bgM (fun n _ => f_Mo_nextOf_1 n)) ti nm xa xb (32 * j) t n 0 (0, it, vs) rs wk).1.2.2, se1, 0, (mru (bgM (fun n _ => f_Mo_nextOf_1 n)) ti nm xa xb (32 * j) t n 0 (0, it, vs) rs wk).2.1, (mru (bgM (fun n _ => f_Mo_nextOf_1 n)) ti nm xa xb (32 * j) t n 0 (0, it, vs) rs wk).2.2) := by
  intro k
  induction k with
  | zero => intro i se; exact ⟨se, run48_1 ti nm xa xb j t n 0 0 it vs se 0 rs wk⟩
  | succ k ih => intro i se; exact ih _ _
theorem doBag_eq_3 (n : Nat) (it vs : Nat → Int32) (rs : Nat → Int64) (i : Nat) (u x y : Int32) : f_Mo_doBag_3 n it vs (vp_updL rs i 0) i u x = ((bgM (fun n it => f_Mo_nextOf_3 n it) u x y (n, it, vs)).2.2, (bgM (fun n it => f_Mo_nextOf_3 n it) u x y (n, it, vs)).1.1, (bgM (fun n it => f_Mo_nextOf_3 n it) u x y (n, it, vs)).1.2.1, (bgM (fun n it => f_Mo_nextOf_3 n it) u x y (n, it, vs)).1.2.2, vp_updL rs i (bgM (fun n it => f_Mo_nextOf_3 n it) u x y (n, it, vs)).2.1) := by
  unfold f_Mo_doBag_3 bgM
  by_cases h1 : u = 1
  · simp only [if_pos h1]
  · simp only [if_neg h1]
    by_cases h2 : n = 0
    · simp only [if_pos h2]
    · simp only [if_neg h2, takeOut_eq, updL_updL]
theorem run48_3 (ti nm xa xb : Nat → Int32) (j : Nat) (t : Int32) : ∀ (k i mc : Nat) (it vs se : Nat → Int32) (sm : Int64) (rs : Nat → Int64) (wk : Nat → Int32), g_Mo_run_3_48 ti nm xa j t k i mc it vs se sm rs wk =
    ((mru (bgM (fun n it => f_Mo_nextOf_3 n it)) ti nm xa xb (32 * j) t k i (mc, it, vs) rs wk).1.1, (mru (bgM (fun n it => f_Mo_nextOf_3 n it)) ti nm xa xb (32 * j) t k i (mc, it, vs) rs wk).1.2.1, (mru (bgM (fun n it => f_Mo_nextOf_3 n it)) ti nm xa xb (32 * j) t k i (mc, it, vs) rs wk).1.2.2, se, sm, (mru (bgM (fun n it => f_Mo_nextOf_3 n it)) ti nm xa xb (32 * j) t k i (mc, it, vs) rs wk).2.1, (mru (bgM (fun n it => f_Mo_nextOf_3 n it)) ti nm xa xb (32 * j) t k i (mc, it, vs) rs wk).2.2) := by
  intro k
  induction k with
  | zero => intro i mc it vs se sm rs wk; rfl
  | succ k ih =>
    intro i mc it vs se sm rs wk
    unfold g_Mo_run_3_48 mru
    by_cases hc : t < ti (32 * j + i)
    · simp only [if_pos hc]
    · simp only [if_neg hc]
      rw [doBag_eq_3 mc it vs rs i (nm (32 * j + i)) (xa (32 * j + i)) (xb (32 * j + i)), ih]
theorem run23_3 (ti nm xa xb it vs : Nat → Int32) (rs : Nat → Int64) (wk : Nat → Int32) (n j : Nat) (t : Int32) : ∀ (k i : Nat) (se : Nat → Int32), ∃ se1 : Nat → Int32, g_Mo_run_3_23 ti nm xa it vs rs wk n j t k i se =
    ((mru (bgM (fun n it => f_Mo_nextOf_3 n it)) ti nm xa xb (32 * j) t n 0 (0, it, vs) rs wk).1.1, (mru (bgM (fun n it => f_Mo_nextOf_3 n it)) ti nm xa xb (32 * j) t n 0 (0, it, vs) rs wk).1.2.1, (mru (bgM (fun n it => f_Mo_nextOf_3 n it)) ti nm xa xb (32 * j) t n 0 (0, it, vs) rs wk).1.2.2, se1, 0, (mru (bgM (fun n it => f_Mo_nextOf_3 n it)) ti nm xa xb (32 * j) t n 0 (0, it, vs) rs wk).2.1, (mru (bgM (fun n it => f_Mo_nextOf_3 n it)) ti nm xa xb (32 * j) t n 0 (0, it, vs) rs wk).2.2) := by
  intro k
  induction k with
  | zero => intro i se; exact ⟨se, run48_3 ti nm xa xb j t n 0 0 it vs se 0 rs wk⟩
  | succ k ih => intro i se; exact ih _ _
