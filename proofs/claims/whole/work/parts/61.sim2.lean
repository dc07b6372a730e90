/-! table, register, sets: the reference's run in the common form -/
def taM (u x y : Int32) (m : BgM) : BgM × Int64 × Int32 :=
  if ¬ f_Mo_keyAt m.1 m.2.1 x = -1 then (if u = 1 then (m, 0, 0) else ((m.1 - 1, shd m.2.1 (m.1 - 1 - (f_Mo_keyAt m.1 m.2.1 x).toNatClampNeg) (f_Mo_keyAt m.1 m.2.1 x).toNatClampNeg, shd m.2.2 (m.1 - 1 - (f_Mo_keyAt m.1 m.2.1 x).toNatClampNeg) (f_Mo_keyAt m.1 m.2.1 x).toNatClampNeg), (m.2.2 (f_Mo_keyAt m.1 m.2.1 x).toNatClampNeg).toInt64, 1))
  else (if u = 1 then ((m.1 + 1, upd m.2.1 m.1 x, upd m.2.2 m.1 y), 0, 1) else (m, 0, 0))
theorem doTable_eq (n : Nat) (it vs : Nat → Int32) (rs : Nat → Int64) (i : Nat) (u x y : Int32) : f_Mo_doTable n it vs (vp_updL rs i 0) i u x y = ((taM u x y (n, it, vs)).2.2, (taM u x y (n, it, vs)).1.1, (taM u x y (n, it, vs)).1.2.1, (taM u x y (n, it, vs)).1.2.2, vp_updL rs i (taM u x y (n, it, vs)).2.1) := by
  unfold f_Mo_doTable taM
  by_cases h1 : ¬ f_Mo_keyAt n it x = -1
  · simp only [if_pos h1]
    by_cases h2 : u = 1
    · simp only [if_pos h2]
    · simp only [if_neg h2, takeOut_eq, updL_updL]
  · simp only [if_neg h1]
    by_cases h2 : u = 1
    · simp only [if_pos h2]
    · simp only [if_neg h2]
theorem run48_2 (ti nm xa xb : Nat → Int32) (j : Nat) (t : Int32) : ∀ (k i mc : Nat) (it vs se : Nat → Int32) (sm : Int64) (rs : Nat → Int64) (wk : Nat → Int32), g_Mo_run_2_48 ti nm xa xb j t k i mc it vs se sm rs wk =
    ((mru taM ti nm xa xb (32 * j) t k i (mc, it, vs) rs wk).1.1, (mru taM ti nm xa xb (32 * j) t k i (mc, it, vs) rs wk).1.2.1, (mru taM ti nm xa xb (32 * j) t k i (mc, it, vs) rs wk).1.2.2, se, sm, (mru taM ti nm xa xb (32 * j) t k i (mc, it, vs) rs wk).2.1, (mru taM ti nm xa xb (32 * j) t k i (mc, it, vs) rs wk).2.2) := by
  intro k
  induction k with
  | zero => intro i mc it vs se sm rs wk; rfl
  | succ k ih =>
    intro i mc it vs se sm rs wk
    unfold g_Mo_run_2_48 mru
    by_cases hc : t < ti (32 * j + i)
    · simp only [if_pos hc]
    · simp only [if_neg hc]
      rw [doTable_eq mc it vs rs i (nm (32 * j + i)) (xa (32 * j + i)) (xb (32 * j + i)), ih]
theorem run23_2 (ti nm xa xb it vs : Nat → Int32) (rs : Nat → Int64) (wk : Nat → Int32) (n j : Nat) (t : Int32) : ∀ (k i : Nat) (se : Nat → Int32), ∃ se1 : Nat → Int32, g_Mo_run_2_23 ti nm xa xb it vs rs wk n j t k i se =
    ((mru taM ti nm xa xb (32 * j) t n 0 (0, it, vs) rs wk).1.1, (mru taM ti nm xa xb (32 * j) t n 0 (0, it, vs) rs wk).1.2.1, (mru taM ti nm xa xb (32 * j) t n 0 (0, it, vs) rs wk).1.2.2, se1, 0, (mru taM ti nm xa xb (32 * j) t n 0 (0, it, vs) rs wk).2.1, (mru taM ti nm xa xb (32 * j) t n 0 (0, it, vs) rs wk).2.2) := by
  intro k
  induction k with
  | zero => intro i se; exact ⟨se, run48_2 ti nm xa xb j t n 0 0 it vs se 0 rs wk⟩
  | succ k ih => intro i se; exact ih _ _
def reM (_u x _y : Int32) (m : Int64) : Int64 × Int64 × Int32 := if 0 ≤ lg_cmp (m + x.toInt64) 0 then (m + x.toInt64, m + x.toInt64, 1) else (0, 0, 1)
theorem run48_4 (ti nm xa xb : Nat → Int32) (j : Nat) (t : Int32) : ∀ (k i : Nat) (mc : Int32) (it vs se : Nat → Int32) (sm : Int64) (rs : Nat → Int64) (wk : Nat → Int32), g_Mo_run_4_48 ti xa j t k i mc it vs se sm rs wk =
    (mc, it, vs, se, (mru reM ti nm xa xb (32 * j) t k i sm rs wk).1, (mru reM ti nm xa xb (32 * j) t k i sm rs wk).2.1, (mru reM ti nm xa xb (32 * j) t k i sm rs wk).2.2) := by
  intro k
  induction k with
  | zero => intro i mc it vs se sm rs wk; rfl
  | succ k ih =>
    intro i mc it vs se sm rs wk
    unfold g_Mo_run_4_48 mru
    by_cases hc : t < ti (32 * j + i)
    · simp only [if_pos hc]
    · simp only [if_neg hc]
      unfold reM
      by_cases h1 : 0 ≤ lg_cmp (sm + (xa (32 * j + i)).toInt64) 0
      · simp only [if_pos h1, updL_updL, ih]; rfl
      · simp only [if_neg h1, updL_updL, ih]; rfl
theorem run23_4 (ti nm xa xb it vs : Nat → Int32) (rs : Nat → Int64) (wk : Nat → Int32) (n j : Nat) (t : Int32) : ∀ (k i : Nat) (se : Nat → Int32), ∃ se1 : Nat → Int32, g_Mo_run_4_23 ti xa it vs rs wk n j t k i se =
    (0, it, vs, se1, (mru reM ti nm xa xb (32 * j) t n 0 0 rs wk).1, (mru reM ti nm xa xb (32 * j) t n 0 0 rs wk).2.1, (mru reM ti nm xa xb (32 * j) t n 0 0 rs wk).2.2) := by
  intro k
  induction k with
  | zero => intro i se; exact ⟨se, run48_4 ti nm xa xb j t n 0 0 it vs se 0 rs wk⟩
  | succ k ih => intro i se; exact ih _ _
abbrev SeM : Type := Int32 × (Nat → Int32)
def seM (_u x y : Int32) (m : SeM) : SeM × Int64 × Int32 := (((f_Mo_doSets m.1 m.2 x.toNatClampNeg y.toNatClampNeg).2.1, (f_Mo_doSets m.1 m.2 x.toNatClampNeg y.toNatClampNeg).2.2), 0, (f_Mo_doSets m.1 m.2 x.toNatClampNeg y.toNatClampNeg).1)
theorem run48_5 (ti nm xa xb : Nat → Int32) (j : Nat) (t : Int32) : ∀ (k i : Nat) (mc : Int32) (it vs se : Nat → Int32) (sm : Int64) (rs : Nat → Int64) (wk : Nat → Int32), g_Mo_run_5_48 ti xa xb j t k i mc it vs se sm rs wk =
    ((mru seM ti nm xa xb (32 * j) t k i (mc, se) rs wk).1.1, it, vs, (mru seM ti nm xa xb (32 * j) t k i (mc, se) rs wk).1.2, sm, (mru seM ti nm xa xb (32 * j) t k i (mc, se) rs wk).2.1, (mru seM ti nm xa xb (32 * j) t k i (mc, se) rs wk).2.2) := by
  intro k
  induction k with
  | zero => intro i mc it vs se sm rs wk; rfl
  | succ k ih =>
    intro i mc it vs se sm rs wk
    unfold g_Mo_run_5_48 mru
    by_cases hc : t < ti (32 * j + i)
    · simp only [if_pos hc]
    · simp only [if_neg hc]
      rw [ih]
      rfl
theorem run23_5 (ti nm xa xb it vs : Nat → Int32) (rs : Nat → Int64) (wk : Nat → Int32) (n j : Nat) (t : Int32) : ∀ (k i : Nat) (se : Nat → Int32), g_Mo_run_5_23 ti xa xb it vs rs wk n j t k i se =
    ((mru seM ti nm xa xb (32 * j) t n 0 (16, sal k i se) rs wk).1.1, it, vs, (mru seM ti nm xa xb (32 * j) t n 0 (16, sal k i se) rs wk).1.2, 0, (mru seM ti nm xa xb (32 * j) t n 0 (16, sal k i se) rs wk).2.1, (mru seM ti nm xa xb (32 * j) t n 0 (16, sal k i se) rs wk).2.2) := by
  intro k
  induction k with
  | zero => intro i se; exact run48_5 ti nm xa xb j t n 0 16 it vs se 0 rs wk
  | succ k ih => intro i se; exact ih _ _
/-! queue and stack: one step -/
def RQ (s : Nat × (Nat → Int32)) (m : BgM) : Prop := s.1 = m.1 ∧ ∀ i, i < s.1 → s.2 i = m.2.1 i
def RS (s : Nat × (Nat → Int32)) (m : BgM) : Prop := s.1 = m.1 ∧ ∀ i, i < s.1 → s.2 i = m.2.1 (s.1 - 1 - i)
theorem simQ (u x y : Int32) (s : Nat × (Nat → Int32)) (m : BgM) (hR : RQ s m) : RQ (bgS 2 u x s).1 (bgM (fun n _ => f_Mo_nextOf_0 n) u x y m).1 ∧ (bgS 2 u x s).2 = (bgM (fun n _ => f_Mo_nextOf_0 n) u x y m).2 := by
  obtain ⟨n, v⟩ := s
  obtain ⟨n1, it, vs⟩ := m
  obtain ⟨h1, h2⟩ := hR
  have h1 : n = n1 := h1
  subst h1
  have h2 : ∀ i, i < n → v i = it i := h2
  unfold bgS bgM
  by_cases hu : u = 1
  · simp only [if_pos hu]
    have hb : bgP 2 n v x = n := by unfold bgP; rw [if_pos rfl]
    refine ⟨⟨rfl, fun i hi => ?_⟩, trivial⟩
    show upd (shu v (n - bgP 2 n v x) n) (bgP 2 n v x) x i = upd it n x i
    rw [hb, Nat.sub_self]
    show upd v n x i = upd it n x i
    by_cases hi2 : i = n
    · rw [hi2, upd_at, upd_at]
    · rw [upd_ne _ _ hi2, upd_ne _ _ hi2]; exact h2 i (by have hi : i < n + 1 := hi; omega)
  · simp only [if_neg hu]
    by_cases h0 : n = 0
    · simp only [if_pos h0, if_neg (show ¬ 0 < n by omega)]
      exact ⟨⟨rfl, h2⟩, trivial⟩
    · simp only [if_neg h0, if_pos (show 0 < n by omega), nx0_eq]
      refine ⟨⟨rfl, fun i hi => ?_⟩, ?_⟩
      · have hi : i < n - 1 := hi
        show shd v (n - 1) 0 i = shd it (n - 1 - 0) 0 i
        rw [shd_at, shd_at, if_pos (by omega), if_pos (by omega)]
        exact h2 (i + 1) (by omega)
      · rw [h2 0 (by omega)]
theorem simS (u x y : Int32) (s : Nat × (Nat → Int32)) (m : BgM) (hR : RS s m) : RS (bgS 3 u x s).1 (bgM (fun n _ => f_Mo_nextOf_1 n) u x y m).1 ∧ (bgS 3 u x s).2 = (bgM (fun n _ => f_Mo_nextOf_1 n) u x y m).2 := by
  obtain ⟨n, v⟩ := s
  obtain ⟨n1, it, vs⟩ := m
  obtain ⟨h1, h2⟩ := hR
  have h1 : n = n1 := h1
  subst h1
  have h2 : ∀ i, i < n → v i = it (n - 1 - i) := h2
  unfold bgS bgM
  by_cases hu : u = 1
  · simp only [if_pos hu]
    have hb : bgP 3 n v x = 0 := by unfold bgP; rw [if_neg (by decide), if_pos rfl]
    refine ⟨⟨rfl, fun i hi => ?_⟩, trivial⟩
    have hi : i < n + 1 := hi
    show upd (shu v (n - bgP 3 n v x) n) (bgP 3 n v x) x i = upd it n x (n + 1 - 1 - i)
    rw [hb]
    by_cases hi2 : i = 0
    · rw [hi2, upd_at, show n + 1 - 1 - 0 = n by omega, upd_at]
    · rw [upd_ne _ _ hi2, upd_ne _ _ (by omega), shu_at _ _ _ _ (by omega), if_pos (by omega), h2 (i - 1) (by omega)]
      congr 1
      omega
  · simp only [if_neg hu]
    by_cases h0 : n = 0
    · simp only [if_pos h0, if_neg (show ¬ 0 < n by omega)]
      exact ⟨⟨rfl, h2⟩, trivial⟩
    · simp only [if_neg h0, if_pos (show 0 < n by omega), nx1_eq]
      refine ⟨⟨rfl, fun i hi => ?_⟩, ?_⟩
      · have hi : i < n - 1 := hi
        show shd v (n - 1) 0 i = shd it (n - 1 - (n - 1)) (n - 1) (n - 1 - 1 - i)
        rw [shd_at, shd_at, if_pos (by omega), if_neg (by omega), h2 (i + 1) (by omega)]
        congr 1
        omega
      · rw [h2 0 (by omega)]
        rfl
