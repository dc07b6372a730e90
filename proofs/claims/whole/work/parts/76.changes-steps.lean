/-! counting effects and the first change as steps of both sides (by wip/whole/gen/ops3.py) -/
theorem effg_0 (kn ti : Nat → Int32) (j : Nat) (t u : Int32) : ∀ (k i c9 : Nat) (mc : Nat) (it vs se : Nat → Int32) (sm : Int64) (rs : Nat → Int64) (wk : Nat → Int32), g_Mo_effective_0_29 kn ti j t u k i c9 mc it vs se sm rs wk = (cem ti wk (32 * j) t u k i c9, (f_Mo_lacksTwo kn j t u).2, mc, it, vs, se, sm, rs, wk) := by
  intro k
  induction k with
  | zero => intro i c9 mc it vs se sm rs wk; rfl
  | succ k ih =>
    intro i c9 mc it vs se sm rs wk
    unfold g_Mo_effective_0_29 cem
    by_cases h1 : ti (32 * j + i) < t
    · rw [if_pos h1, if_pos h1]; exact ih _ _ _ _ _ _ _ _ _
    · rw [if_neg h1, if_neg h1]
      by_cases h2 : u < ti (32 * j + i)
      · rw [if_pos h2, if_pos h2]; exact ih _ _ _ _ _ _ _ _ _
      · rw [if_neg h2, if_neg h2]
        by_cases h3 : wk i = 0
        · rw [if_pos h3, if_pos h3]; exact ih _ _ _ _ _ _ _ _ _
        · rw [if_neg h3, if_neg h3]; exact ih _ _ _ _ _ _ _ _ _
theorem pq_effective_0 {mo na aa bb kn ti nm xa xb : Nat → Int32} {n j : Nat} {t u : Int32} {it vs se : Nat → Int32} {rs : Nat → Int64} {wk : Nat → Int32} {re : Nat → Int64} {ef : Nat → Int32} (hn : n ≤ 32) (hL : LEq n mo na aa bb ti nm xa xb (32 * j)) (hO : LOK 0 n mo na aa bb re ef) (hb : bz wk) : (f_Mo_effective_0 kn ti nm xa it vs se rs wk n j t u).1 = cef mo ef u (n - pfr mo t n 0) (pfr mo t n 0) ∧ (f_Mo_effective_0 kn ti nm xa it vs se rs wk n j t u).2.1 = (f_Mo_lacksTwo kn j t u).2 ∧ bz (f_Mo_effective_0 kn ti nm xa it vs se rs wk n j t u).2.2.2.2.2.2.2.2 := by
  have e := effg_0 kn ti j t u n 0 0 (f_Mo_run_0 ti nm xa it vs se rs wk n j u).1 (f_Mo_run_0 ti nm xa it vs se rs wk n j u).2.1 (f_Mo_run_0 ti nm xa it vs se rs wk n j u).2.2.1 (f_Mo_run_0 ti nm xa it vs se rs wk n j u).2.2.2.1 (f_Mo_run_0 ti nm xa it vs se rs wk n j u).2.2.2.2.1 (f_Mo_run_0 ti nm xa it vs se rs wk n j u).2.2.2.2.2.1 (f_Mo_run_0 ti nm xa it vs se rs wk n j u).2.2.2.2.2.2
  have e : f_Mo_effective_0 kn ti nm xa it vs se rs wk n j t u = _ := e
  rw [e]
  exact ⟨cem_ok hO.1 hL.mo (fun p hp hz => (rM_0 hn hL hO p hp hz).2), rfl, run_bz_0 _ _ _ _ _ _ _ _ _ _ _ hb⟩
theorem fcg2_0 (kn ti : Nat → Int32) (n j : Nat) (t u : Int32) : ∀ (k i : Nat) (be : Int32) (mc : Nat) (it vs se : Nat → Int32) (sm : Int64) (rs : Nat → Int64) (wk : Nat → Int32) (ors : Nat → Int64) (owk : Nat → Int32), g_Mo_firstChange_0_227 kn ti n j t u k i be mc it vs se sm rs wk ors owk = (fc2 ti n j t u k i be, (f_Mo_lacksTwo kn j t u).2, mc, it, vs, se, sm, rs, wk, ors, owk) := by
  intro k
  induction k with
  | zero => intro i be mc it vs se sm rs wk ors owk; rfl
  | succ k ih =>
    intro i be mc it vs se sm rs wk ors owk
    unfold g_Mo_firstChange_0_227 fc2 fcw
    by_cases h1 : ¬ (f_Mo_find ti n j (ti (32 * (j + 4) + i))) = -1
    · rw [if_pos h1, if_pos h1]; exact ih _ _ _ _ _ _ _ _ _ _ _
    · rw [if_neg h1, if_neg h1]
      by_cases h2 : ti (32 * (j + 4) + i) < t
      · rw [if_pos h2, if_pos h2]; exact ih _ _ _ _ _ _ _ _ _ _ _
      · rw [if_neg h2, if_neg h2]
        by_cases h3 : u < ti (32 * (j + 4) + i)
        · rw [if_pos h3, if_pos h3]; exact ih _ _ _ _ _ _ _ _ _ _ _
        · rw [if_neg h3, if_neg h3]
          by_cases h4 : be = 0
          · rw [if_pos h4, if_pos h4]; exact ih _ _ _ _ _ _ _ _ _ _ _
          · rw [if_neg h4, if_neg h4]
            by_cases h5 : be ≤ ti (32 * (j + 4) + i)
            · rw [if_pos h5, if_pos h5]; exact ih _ _ _ _ _ _ _ _ _ _ _
            · rw [if_neg h5, if_neg h5]; exact ih _ _ _ _ _ _ _ _ _ _ _
theorem fcg1_0 (kn ti : Nat → Int32) (n n2 j : Nat) (t u : Int32) : ∀ (k i : Nat) (be : Int32) (mc : Nat) (it vs se : Nat → Int32) (sm : Int64) (rs : Nat → Int64) (wk : Nat → Int32) (ors : Nat → Int64) (owk : Nat → Int32), g_Mo_firstChange_0_97 kn ti n n2 j t u k i be mc it vs se sm rs wk ors owk = (fc2 ti n j t u n2 0 (fc1 ti n2 j t u rs wk ors owk k i be), (f_Mo_lacksTwo kn j t u).2, mc, it, vs, se, sm, rs, wk, ors, owk) := by
  intro k
  induction k with
  | zero => intro i be mc it vs se sm rs wk ors owk; exact fcg2_0 _ _ _ _ _ _ _ _ _ _ _ _ _ _ _ _ _ _
  | succ k ih =>
    intro i be mc it vs se sm rs wk ors owk
    unfold g_Mo_firstChange_0_97 fc1 fcw
    by_cases h1 : ¬ (f_Mo_find ti n2 (j + 4) (ti (32 * j + i))) = -1
    · rw [if_pos h1, if_pos h1]
      by_cases h2 : (lg_cmp (ors ((f_Mo_find ti n2 (j + 4) (ti (32 * j + i))).toNatClampNeg)) (rs i)) = 0
      · rw [if_pos h2, if_pos h2]
        by_cases h3 : (owk ((f_Mo_find ti n2 (j + 4) (ti (32 * j + i))).toNatClampNeg)) = (wk i)
        · rw [if_pos h3, if_pos h3]; exact ih _ _ _ _ _ _ _ _ _ _ _
        · rw [if_neg h3, if_neg h3]
          by_cases k2 : ti (32 * j + i) < t
          · rw [if_pos k2, if_pos k2]; exact ih _ _ _ _ _ _ _ _ _ _ _
          · rw [if_neg k2, if_neg k2]
            by_cases k3 : u < ti (32 * j + i)
            · rw [if_pos k3, if_pos k3]; exact ih _ _ _ _ _ _ _ _ _ _ _
            · rw [if_neg k3, if_neg k3]
              by_cases k4 : be = 0
              · rw [if_pos k4, if_pos k4]; exact ih _ _ _ _ _ _ _ _ _ _ _
              · rw [if_neg k4, if_neg k4]
                by_cases k5 : be ≤ ti (32 * j + i)
                · rw [if_pos k5, if_pos k5]; exact ih _ _ _ _ _ _ _ _ _ _ _
                · rw [if_neg k5, if_neg k5]; exact ih _ _ _ _ _ _ _ _ _ _ _
      · rw [if_neg h2, if_neg h2]
        by_cases k2 : ti (32 * j + i) < t
        · rw [if_pos k2, if_pos k2]; exact ih _ _ _ _ _ _ _ _ _ _ _
        · rw [if_neg k2, if_neg k2]
          by_cases k3 : u < ti (32 * j + i)
          · rw [if_pos k3, if_pos k3]; exact ih _ _ _ _ _ _ _ _ _ _ _
          · rw [if_neg k3, if_neg k3]
            by_cases k4 : be = 0
            · rw [if_pos k4, if_pos k4]; exact ih _ _ _ _ _ _ _ _ _ _ _
            · rw [if_neg k4, if_neg k4]
              by_cases k5 : be ≤ ti (32 * j + i)
              · rw [if_pos k5, if_pos k5]; exact ih _ _ _ _ _ _ _ _ _ _ _
              · rw [if_neg k5, if_neg k5]; exact ih _ _ _ _ _ _ _ _ _ _ _
    · rw [if_neg h1, if_neg h1]
      by_cases k2 : ti (32 * j + i) < t
      · rw [if_pos k2, if_pos k2]; exact ih _ _ _ _ _ _ _ _ _ _ _
      · rw [if_neg k2, if_neg k2]
        by_cases k3 : u < ti (32 * j + i)
        · rw [if_pos k3, if_pos k3]; exact ih _ _ _ _ _ _ _ _ _ _ _
        · rw [if_neg k3, if_neg k3]
          by_cases k4 : be = 0
          · rw [if_pos k4, if_pos k4]; exact ih _ _ _ _ _ _ _ _ _ _ _
          · rw [if_neg k4, if_neg k4]
            by_cases k5 : be ≤ ti (32 * j + i)
            · rw [if_pos k5, if_pos k5]; exact ih _ _ _ _ _ _ _ _ _ _ _
            · rw [if_neg k5, if_neg k5]; exact ih _ _ _ _ _ _ _ _ _ _ _
theorem fcg0_0 (kn ti nm xa : Nat → Int32) (n n2 j : Nat) (t u : Int32) : ∀ (k i : Nat) (mc : Nat) (it vs se : Nat → Int32) (sm : Int64) (rs : Nat → Int64) (wk : Nat → Int32) (ors : Nat → Int64) (owk : Nat → Int32), g_Mo_firstChange_0_38 kn ti nm xa n n2 j t u k i mc it vs se sm rs wk ors owk = g_Mo_firstChange_0_97 kn ti n n2 j t u n 0 0 (f_Mo_run_0 ti nm xa it vs se rs wk n j 1000000000).1 (f_Mo_run_0 ti nm xa it vs se rs wk n j 1000000000).2.1 (f_Mo_run_0 ti nm xa it vs se rs wk n j 1000000000).2.2.1 (f_Mo_run_0 ti nm xa it vs se rs wk n j 1000000000).2.2.2.1 (f_Mo_run_0 ti nm xa it vs se rs wk n j 1000000000).2.2.2.2.1 (f_Mo_run_0 ti nm xa it vs se rs wk n j 1000000000).2.2.2.2.2.1 (f_Mo_run_0 ti nm xa it vs se rs wk n j 1000000000).2.2.2.2.2.2 (cpfL ors rs k i) (cpf owk wk k i) := by
  intro k
  induction k with
  | zero => intro i mc it vs se sm rs wk ors owk; rfl
  | succ k ih => intro i mc it vs se sm rs wk ors owk; exact ih _ _ _ _ _ _ _ _ _ _
theorem pq_firstChange_0 {mo na aa bb kn ti nm xa xb : Nat → Int32} {n j : Nat} {t u : Int32} {it vs se : Nat → Int32} {rs : Nat → Int64} {wk : Nat → Int32} {n2 : Nat} {mo2 na2 aa2 bb2 ef ef2 owk : Nat → Int32} {re re2 ors : Nat → Int64} (hn : n ≤ 32) (hn2 : n2 ≤ 32) (hL : LEq n mo na aa bb ti nm xa xb (32 * j)) (hL2 : LEq n2 mo2 na2 aa2 bb2 ti nm xa xb (32 * (j + 4))) (hO : LOK 0 n mo na aa bb re ef) (hO2 : LOK 0 n2 mo2 na2 aa2 bb2 re2 ef2) (hb : bz wk) (hu : okM u) : (f_Mo_firstChange_0 kn ti nm xa it vs se rs wk ors owk n n2 j t u).1 = (if u < f_Li_firstDifference n mo re ef n2 mo2 re2 ef2 t then 0 else f_Li_firstDifference n mo re ef n2 mo2 re2 ef2 t) ∧ (f_Mo_firstChange_0 kn ti nm xa it vs se rs wk ors owk n n2 j t u).2.1 = (f_Mo_lacksTwo kn j t u).2 ∧ bz (f_Mo_firstChange_0 kn ti nm xa it vs se rs wk ors owk n n2 j t u).2.2.2.2.2.2.2.2.1 := by
  have b2 := run_bz_0 ti nm xa it vs se rs wk n2 (j + 4) 1000000000 hb
  have r2 := fun p (hp : p < n2) => rM_0 (t := 1000000000) (it := it) (vs := vs) (se := se) (rs := rs) (wk := wk) hn2 hL2 hO2 p hp (fun z hz => Int32.not_lt.mp (hO2.2.1 z (by omega)).2)
  have b1 := run_bz_0 ti nm xa (f_Mo_run_0 ti nm xa it vs se rs wk n2 (j + 4) 1000000000).2.1 (f_Mo_run_0 ti nm xa it vs se rs wk n2 (j + 4) 1000000000).2.2.1 (f_Mo_run_0 ti nm xa it vs se rs wk n2 (j + 4) 1000000000).2.2.2.1 (f_Mo_run_0 ti nm xa it vs se rs wk n2 (j + 4) 1000000000).2.2.2.2.2.1 (f_Mo_run_0 ti nm xa it vs se rs wk n2 (j + 4) 1000000000).2.2.2.2.2.2 n j 1000000000 b2
  have r1 := fun p (hp : p < n) => rM_0 (t := 1000000000) (it := (f_Mo_run_0 ti nm xa it vs se rs wk n2 (j + 4) 1000000000).2.1) (vs := (f_Mo_run_0 ti nm xa it vs se rs wk n2 (j + 4) 1000000000).2.2.1) (se := (f_Mo_run_0 ti nm xa it vs se rs wk n2 (j + 4) 1000000000).2.2.2.1) (rs := (f_Mo_run_0 ti nm xa it vs se rs wk n2 (j + 4) 1000000000).2.2.2.2.2.1) (wk := (f_Mo_run_0 ti nm xa it vs se rs wk n2 (j + 4) 1000000000).2.2.2.2.2.2) hn hL hO p hp (fun z hz => Int32.not_lt.mp (hO.2.1 z (by omega)).2)
  have e := fcg0_0 kn ti nm xa n n2 j t u 32 0 (f_Mo_run_0 ti nm xa it vs se rs wk n2 (j + 4) 1000000000).1 (f_Mo_run_0 ti nm xa it vs se rs wk n2 (j + 4) 1000000000).2.1 (f_Mo_run_0 ti nm xa it vs se rs wk n2 (j + 4) 1000000000).2.2.1 (f_Mo_run_0 ti nm xa it vs se rs wk n2 (j + 4) 1000000000).2.2.2.1 (f_Mo_run_0 ti nm xa it vs se rs wk n2 (j + 4) 1000000000).2.2.2.2.1 (f_Mo_run_0 ti nm xa it vs se rs wk n2 (j + 4) 1000000000).2.2.2.2.2.1 (f_Mo_run_0 ti nm xa it vs se rs wk n2 (j + 4) 1000000000).2.2.2.2.2.2 ors owk
  have e : f_Mo_firstChange_0 kn ti nm xa it vs se rs wk ors owk n n2 j t u = _ := e
  rw [e, fcg1_0]
  refine ⟨fc_ok hO.1 hO2.1 hn hn2 hO.2.1 hO2.2.1 hL.mo hL2.mo r1 (fun p hp => ?_) hu, rfl, b1⟩
  rw [cpfL_at, cpf_at, if_pos (by omega), if_pos (by omega)]
  exact r2 p hp
theorem effg_1 (kn ti : Nat → Int32) (j : Nat) (t u : Int32) : ∀ (k i c9 : Nat) (mc : Nat) (it vs se : Nat → Int32) (sm : Int64) (rs : Nat → Int64) (wk : Nat → Int32), g_Mo_effective_1_29 kn ti j t u k i c9 mc it vs se sm rs wk = (cem ti wk (32 * j) t u k i c9, (f_Mo_lacksTwo kn j t u).2, mc, it, vs, se, sm, rs, wk) := by
  intro k
  induction k with
  | zero => intro i c9 mc it vs se sm rs wk; rfl
  | succ k ih =>
    intro i c9 mc it vs se sm rs wk
    unfold g_Mo_effective_1_29 cem
    by_cases h1 : ti (32 * j + i) < t
    · rw [if_pos h1, if_pos h1]; exact ih _ _ _ _ _ _ _ _ _
    · rw [if_neg h1, if_neg h1]
      by_cases h2 : u < ti (32 * j + i)
      · rw [if_pos h2, if_pos h2]; exact ih _ _ _ _ _ _ _ _ _
      · rw [if_neg h2, if_neg h2]
        by_cases h3 : wk i = 0
        · rw [if_pos h3, if_pos h3]; exact ih _ _ _ _ _ _ _ _ _
        · rw [if_neg h3, if_neg h3]; exact ih _ _ _ _ _ _ _ _ _
theorem pq_effective_1 {mo na aa bb kn ti nm xa xb : Nat → Int32} {n j : Nat} {t u : Int32} {it vs se : Nat → Int32} {rs : Nat → Int64} {wk : Nat → Int32} {re : Nat → Int64} {ef : Nat → Int32} (hn : n ≤ 32) (hL : LEq n mo na aa bb ti nm xa xb (32 * j)) (hO : LOK 1 n mo na aa bb re ef) (hb : bz wk) : (f_Mo_effective_1 kn ti nm xa it vs se rs wk n j t u).1 = cef mo ef u (n - pfr mo t n 0) (pfr mo t n 0) ∧ (f_Mo_effective_1 kn ti nm xa it vs se rs wk n j t u).2.1 = (f_Mo_lacksTwo kn j t u).2 ∧ bz (f_Mo_effective_1 kn ti nm xa it vs se rs wk n j t u).2.2.2.2.2.2.2.2 := by
  have e := effg_1 kn ti j t u n 0 0 (f_Mo_run_1 ti nm xa it vs se rs wk n j u).1 (f_Mo_run_1 ti nm xa it vs se rs wk n j u).2.1 (f_Mo_run_1 ti nm xa it vs se rs wk n j u).2.2.1 (f_Mo_run_1 ti nm xa it vs se rs wk n j u).2.2.2.1 (f_Mo_run_1 ti nm xa it vs se rs wk n j u).2.2.2.2.1 (f_Mo_run_1 ti nm xa it vs se rs wk n j u).2.2.2.2.2.1 (f_Mo_run_1 ti nm xa it vs se rs wk n j u).2.2.2.2.2.2
  have e : f_Mo_effective_1 kn ti nm xa it vs se rs wk n j t u = _ := e
  rw [e]
  exact ⟨cem_ok hO.1 hL.mo (fun p hp hz => (rM_1 hn hL hO p hp hz).2), rfl, run_bz_1 _ _ _ _ _ _ _ _ _ _ _ hb⟩
theorem fcg2_1 (kn ti : Nat → Int32) (n j : Nat) (t u : Int32) : ∀ (k i : Nat) (be : Int32) (mc : Nat) (it vs se : Nat → Int32) (sm : Int64) (rs : Nat → Int64) (wk : Nat → Int32) (ors : Nat → Int64) (owk : Nat → Int32), g_Mo_firstChange_1_227 kn ti n j t u k i be mc it vs se sm rs wk ors owk = (fc2 ti n j t u k i be, (f_Mo_lacksTwo kn j t u).2, mc, it, vs, se, sm, rs, wk, ors, owk) := by
  intro k
  induction k with
  | zero => intro i be mc it vs se sm rs wk ors owk; rfl
  | succ k ih =>
    intro i be mc it vs se sm rs wk ors owk
    unfold g_Mo_firstChange_1_227 fc2 fcw
    by_cases h1 : ¬ (f_Mo_find ti n j (ti (32 * (j + 4) + i))) = -1
    · rw [if_pos h1, if_pos h1]; exact ih _ _ _ _ _ _ _ _ _ _ _
    · rw [if_neg h1, if_neg h1]
      by_cases h2 : ti (32 * (j + 4) + i) < t
      · rw [if_pos h2, if_pos h2]; exact ih _ _ _ _ _ _ _ _ _ _ _
      · rw [if_neg h2, if_neg h2]
        by_cases h3 : u < ti (32 * (j + 4) + i)
        · rw [if_pos h3, if_pos h3]; exact ih _ _ _ _ _ _ _ _ _ _ _
        · rw [if_neg h3, if_neg h3]
          by_cases h4 : be = 0
          · rw [if_pos h4, if_pos h4]; exact ih _ _ _ _ _ _ _ _ _ _ _
          · rw [if_neg h4, if_neg h4]
            by_cases h5 : be ≤ ti (32 * (j + 4) + i)
            · rw [if_pos h5, if_pos h5]; exact ih _ _ _ _ _ _ _ _ _ _ _
            · rw [if_neg h5, if_neg h5]; exact ih _ _ _ _ _ _ _ _ _ _ _
theorem fcg1_1 (kn ti : Nat → Int32) (n n2 j : Nat) (t u : Int32) : ∀ (k i : Nat) (be : Int32) (mc : Nat) (it vs se : Nat → Int32) (sm : Int64) (rs : Nat → Int64) (wk : Nat → Int32) (ors : Nat → Int64) (owk : Nat → Int32), g_Mo_firstChange_1_97 kn ti n n2 j t u k i be mc it vs se sm rs wk ors owk = (fc2 ti n j t u n2 0 (fc1 ti n2 j t u rs wk ors owk k i be), (f_Mo_lacksTwo kn j t u).2, mc, it, vs, se, sm, rs, wk, ors, owk) := by
  intro k
  induction k with
  | zero => intro i be mc it vs se sm rs wk ors owk; exact fcg2_1 _ _ _ _ _ _ _ _ _ _ _ _ _ _ _ _ _ _
  | succ k ih =>
    intro i be mc it vs se sm rs wk ors owk
    unfold g_Mo_firstChange_1_97 fc1 fcw
    by_cases h1 : ¬ (f_Mo_find ti n2 (j + 4) (ti (32 * j + i))) = -1
    · rw [if_pos h1, if_pos h1]
      by_cases h2 : (lg_cmp (ors ((f_Mo_find ti n2 (j + 4) (ti (32 * j + i))).toNatClampNeg)) (rs i)) = 0
      · rw [if_pos h2, if_pos h2]
        by_cases h3 : (owk ((f_Mo_find ti n2 (j + 4) (ti (32 * j + i))).toNatClampNeg)) = (wk i)
        · rw [if_pos h3, if_pos h3]; exact ih _ _ _ _ _ _ _ _ _ _ _
        · rw [if_neg h3, if_neg h3]
          by_cases k2 : ti (32 * j + i) < t
          · rw [if_pos k2, if_pos k2]; exact ih _ _ _ _ _ _ _ _ _ _ _
          · rw [if_neg k2, if_neg k2]
            by_cases k3 : u < ti (32 * j + i)
            · rw [if_pos k3, if_pos k3]; exact ih _ _ _ _ _ _ _ _ _ _ _
            · rw [if_neg k3, if_neg k3]
              by_cases k4 : be = 0
              · rw [if_pos k4, if_pos k4]; exact ih _ _ _ _ _ _ _ _ _ _ _
              · rw [if_neg k4, if_neg k4]
                by_cases k5 : be ≤ ti (32 * j + i)
                · rw [if_pos k5, if_pos k5]; exact ih _ _ _ _ _ _ _ _ _ _ _
                · rw [if_neg k5, if_neg k5]; exact ih _ _ _ _ _ _ _ _ _ _ _
      · rw [if_neg h2, if_neg h2]
        by_cases k2 : ti (32 * j + i) < t
        · rw [if_pos k2, if_pos k2]; exact ih _ _ _ _ _ _ _ _ _ _ _
        · rw [if_neg k2, if_neg k2]
          by_cases k3 : u < ti (32 * j + i)
          · rw [if_pos k3, if_pos k3]; exact ih _ _ _ _ _ _ _ _ _ _ _
          · rw [if_neg k3, if_neg k3]
            by_cases k4 : be = 0
            · rw [if_pos k4, if_pos k4]; exact ih _ _ _ _ _ _ _ _ _ _ _
            · rw [if_neg k4, if_neg k4]
              by_cases k5 : be ≤ ti (32 * j + i)
              · rw [if_pos k5, if_pos k5]; exact ih _ _ _ _ _ _ _ _ _ _ _
              · rw [if_neg k5, if_neg k5]; exact ih _ _ _ _ _ _ _ _ _ _ _
    · rw [if_neg h1, if_neg h1]
      by_cases k2 : ti (32 * j + i) < t
      · rw [if_pos k2, if_pos k2]; exact ih _ _ _ _ _ _ _ _ _ _ _
      · rw [if_neg k2, if_neg k2]
        by_cases k3 : u < ti (32 * j + i)
        · rw [if_pos k3, if_pos k3]; exact ih _ _ _ _ _ _ _ _ _ _ _
        · rw [if_neg k3, if_neg k3]
          by_cases k4 : be = 0
          · rw [if_pos k4, if_pos k4]; exact ih _ _ _ _ _ _ _ _ _ _ _
          · rw [if_neg k4, if_neg k4]
            by_cases k5 : be ≤ ti (32 * j + i)
            · rw [if_pos k5, if_pos k5]; exact ih _ _ _ _ _ _ _ _ _ _ _
            · rw [if_neg k5, if_neg k5]; exact ih _ _ _ _ _ _ _ _ _ _ _
theorem fcg0_1 (kn ti nm xa : Nat → Int32) (n n2 j : Nat) (t u : Int32) : ∀ (k i : Nat) (mc : Nat) (it vs se : Nat → Int32) (sm : Int64) (rs : Nat → Int64) (wk : Nat → Int32) (ors : Nat → Int64) (owk : Nat → Int32), g_Mo_firstChange_1_38 kn ti nm xa n n2 j t u k i mc it vs se sm rs wk ors owk = g_Mo_firstChange_1_97 kn ti n n2 j t u n 0 0 (f_Mo_run_1 ti nm xa it vs se rs wk n j 1000000000).1 (f_Mo_run_1 ti nm xa it vs se rs wk n j 1000000000).2.1 (f_Mo_run_1 ti nm xa it vs se rs wk n j 1000000000).2.2.1 (f_Mo_run_1 ti nm xa it vs se rs wk n j 1000000000).2.2.2.1 (f_Mo_run_1 ti nm xa it vs se rs wk n j 1000000000).2.2.2.2.1 (f_Mo_run_1 ti nm xa it vs se rs wk n j 1000000000).2.2.2.2.2.1 (f_Mo_run_1 ti nm xa it vs se rs wk n j 1000000000).2.2.2.2.2.2 (cpfL ors rs k i) (cpf owk wk k i) := by
  intro k
  induction k with
  | zero => intro i mc it vs se sm rs wk ors owk; rfl
  | succ k ih => intro i mc it vs se sm rs wk ors owk; exact ih _ _ _ _ _ _ _ _ _ _
theorem pq_firstChange_1 {mo na aa bb kn ti nm xa xb : Nat → Int32} {n j : Nat} {t u : Int32} {it vs se : Nat → Int32} {rs : Nat → Int64} {wk : Nat → Int32} {n2 : Nat} {mo2 na2 aa2 bb2 ef ef2 owk : Nat → Int32} {re re2 ors : Nat → Int64} (hn : n ≤ 32) (hn2 : n2 ≤ 32) (hL : LEq n mo na aa bb ti nm xa xb (32 * j)) (hL2 : LEq n2 mo2 na2 aa2 bb2 ti nm xa xb (32 * (j + 4))) (hO : LOK 1 n mo na aa bb re ef) (hO2 : LOK 1 n2 mo2 na2 aa2 bb2 re2 ef2) (hb : bz wk) (hu : okM u) : (f_Mo_firstChange_1 kn ti nm xa it vs se rs wk ors owk n n2 j t u).1 = (if u < f_Li_firstDifference n mo re ef n2 mo2 re2 ef2 t then 0 else f_Li_firstDifference n mo re ef n2 mo2 re2 ef2 t) ∧ (f_Mo_firstChange_1 kn ti nm xa it vs se rs wk ors owk n n2 j t u).2.1 = (f_Mo_lacksTwo kn j t u).2 ∧ bz (f_Mo_firstChange_1 kn ti nm xa it vs se rs wk ors owk n n2 j t u).2.2.2.2.2.2.2.2.1 := by
  have b2 := run_bz_1 ti nm xa it vs se rs wk n2 (j + 4) 1000000000 hb
  have r2 := fun p (hp : p < n2) => rM_1 (t := 1000000000) (it := it) (vs := vs) (se := se) (rs := rs) (wk := wk) hn2 hL2 hO2 p hp (fun z hz => Int32.not_lt.mp (hO2.2.1 z (by omega)).2)
  have b1 := run_bz_1 ti nm xa (f_Mo_run_1 ti nm xa it vs se rs wk n2 (j + 4) 1000000000).2.1 (f_Mo_run_1 ti nm xa it vs se rs wk n2 (j + 4) 1000000000).2.2.1 (f_Mo_run_1 ti nm xa it vs se rs wk n2 (j + 4) 1000000000).2.2.2.1 (f_Mo_run_1 ti nm xa it vs se rs wk n2 (j + 4) 1000000000).2.2.2.2.2.1 (f_Mo_run_1 ti nm xa it vs se rs wk n2 (j + 4) 1000000000).2.2.2.2.2.2 n j 1000000000 b2
  have r1 := fun p (hp : p < n) => rM_1 (t := 1000000000) (it := (f_Mo_run_1 ti nm xa it vs se rs wk n2 (j + 4) 1000000000).2.1) (vs := (f_Mo_run_1 ti nm xa it vs se rs wk n2 (j + 4) 1000000000).2.2.1) (se := (f_Mo_run_1 ti nm xa it vs se rs wk n2 (j + 4) 1000000000).2.2.2.1) (rs := (f_Mo_run_1 ti nm xa it vs se rs wk n2 (j + 4) 1000000000).2.2.2.2.2.1) (wk := (f_Mo_run_1 ti nm xa it vs se rs wk n2 (j + 4) 1000000000).2.2.2.2.2.2) hn hL hO p hp (fun z hz => Int32.not_lt.mp (hO.2.1 z (by omega)).2)
  have e := fcg0_1 kn ti nm xa n n2 j t u 32 0 (f_Mo_run_1 ti nm xa it vs se rs wk n2 (j + 4) 1000000000).1 (f_Mo_run_1 ti nm xa it vs se rs wk n2 (j + 4) 1000000000).2.1 (f_Mo_run_1 ti nm xa it vs se rs wk n2 (j + 4) 1000000000).2.2.1 (f_Mo_run_1 ti nm xa it vs se rs wk n2 (j + 4) 1000000000).2.2.2.1 (f_Mo_run_1 ti nm xa it vs se rs wk n2 (j + 4) 1000000000).2.2.2.2.1 (f_Mo_run_1 ti nm xa it vs se rs wk n2 (j + 4) 1000000000).2.2.2.2.2.1 (f_Mo_run_1 ti nm xa it vs se rs wk n2 (j + 4) 1000000000).2.2.2.2.2.2 ors owk
  have e : f_Mo_firstChange_1 kn ti nm xa it vs se rs wk ors owk n n2 j t u = _ := e
  rw [e, fcg1_1]
  refine ⟨fc_ok hO.1 hO2.1 hn hn2 hO.2.1 hO2.2.1 hL.mo hL2.mo r1 (fun p hp => ?_) hu, rfl, b1⟩
  rw [cpfL_at, cpf_at, if_pos (by omega), if_pos (by omega)]
  exact r2 p hp
theorem effg_2 (kn ti : Nat → Int32) (j : Nat) (t u : Int32) : ∀ (k i c9 : Nat) (mc : Nat) (it vs se : Nat → Int32) (sm : Int64) (rs : Nat → Int64) (wk : Nat → Int32), g_Mo_effective_2_29 kn ti j t u k i c9 mc it vs se sm rs wk = (cem ti wk (32 * j) t u k i c9, (f_Mo_lacksTwo kn j t u).2, mc, it, vs, se, sm, rs, wk) := by
  intro k
  induction k with
  | zero => intro i c9 mc it vs se sm rs wk; rfl
  | succ k ih =>
    intro i c9 mc it vs se sm rs wk
    unfold g_Mo_effective_2_29 cem
    by_cases h1 : ti (32 * j + i) < t
    · rw [if_pos h1, if_pos h1]; exact ih _ _ _ _ _ _ _ _ _
    · rw [if_neg h1, if_neg h1]
      by_cases h2 : u < ti (32 * j + i)
      · rw [if_pos h2, if_pos h2]; exact ih _ _ _ _ _ _ _ _ _
      · rw [if_neg h2, if_neg h2]
        by_cases h3 : wk i = 0
        · rw [if_pos h3, if_pos h3]; exact ih _ _ _ _ _ _ _ _ _
        · rw [if_neg h3, if_neg h3]; exact ih _ _ _ _ _ _ _ _ _
theorem pq_effective_2 {mo na aa bb kn ti nm xa xb : Nat → Int32} {n j : Nat} {t u : Int32} {it vs se : Nat → Int32} {rs : Nat → Int64} {wk : Nat → Int32} {re : Nat → Int64} {ef : Nat → Int32} (hn : n ≤ 32) (hL : LEq n mo na aa bb ti nm xa xb (32 * j)) (hO : LOK 2 n mo na aa bb re ef) (hb : bz wk) : (f_Mo_effective_2 kn ti nm xa xb it vs se rs wk n j t u).1 = cef mo ef u (n - pfr mo t n 0) (pfr mo t n 0) ∧ (f_Mo_effective_2 kn ti nm xa xb it vs se rs wk n j t u).2.1 = (f_Mo_lacksTwo kn j t u).2 ∧ bz (f_Mo_effective_2 kn ti nm xa xb it vs se rs wk n j t u).2.2.2.2.2.2.2.2 := by
  have e := effg_2 kn ti j t u n 0 0 (f_Mo_run_2 ti nm xa xb it vs se rs wk n j u).1 (f_Mo_run_2 ti nm xa xb it vs se rs wk n j u).2.1 (f_Mo_run_2 ti nm xa xb it vs se rs wk n j u).2.2.1 (f_Mo_run_2 ti nm xa xb it vs se rs wk n j u).2.2.2.1 (f_Mo_run_2 ti nm xa xb it vs se rs wk n j u).2.2.2.2.1 (f_Mo_run_2 ti nm xa xb it vs se rs wk n j u).2.2.2.2.2.1 (f_Mo_run_2 ti nm xa xb it vs se rs wk n j u).2.2.2.2.2.2
  have e : f_Mo_effective_2 kn ti nm xa xb it vs se rs wk n j t u = _ := e
  rw [e]
  exact ⟨cem_ok hO.1 hL.mo (fun p hp hz => (rM_2 hn hL hO p hp hz).2), rfl, run_bz_2 _ _ _ _ _ _ _ _ _ _ _ _ hb⟩
theorem fcg2_2 (kn ti : Nat → Int32) (n j : Nat) (t u : Int32) : ∀ (k i : Nat) (be : Int32) (mc : Nat) (it vs se : Nat → Int32) (sm : Int64) (rs : Nat → Int64) (wk : Nat → Int32) (ors : Nat → Int64) (owk : Nat → Int32), g_Mo_firstChange_2_227 kn ti n j t u k i be mc it vs se sm rs wk ors owk = (fc2 ti n j t u k i be, (f_Mo_lacksTwo kn j t u).2, mc, it, vs, se, sm, rs, wk, ors, owk) := by
  intro k
  induction k with
  | zero => intro i be mc it vs se sm rs wk ors owk; rfl
  | succ k ih =>
    intro i be mc it vs se sm rs wk ors owk
    unfold g_Mo_firstChange_2_227 fc2 fcw
    by_cases h1 : ¬ (f_Mo_find ti n j (ti (32 * (j + 4) + i))) = -1
    · rw [if_pos h1, if_pos h1]; exact ih _ _ _ _ _ _ _ _ _ _ _
    · rw [if_neg h1, if_neg h1]
      by_cases h2 : ti (32 * (j + 4) + i) < t
      · rw [if_pos h2, if_pos h2]; exact ih _ _ _ _ _ _ _ _ _ _ _
      · rw [if_neg h2, if_neg h2]
        by_cases h3 : u < ti (32 * (j + 4) + i)
        · rw [if_pos h3, if_pos h3]; exact ih _ _ _ _ _ _ _ _ _ _ _
        · rw [if_neg h3, if_neg h3]
          by_cases h4 : be = 0
          · rw [if_pos h4, if_pos h4]; exact ih _ _ _ _ _ _ _ _ _ _ _
          · rw [if_neg h4, if_neg h4]
            by_cases h5 : be ≤ ti (32 * (j + 4) + i)
            · rw [if_pos h5, if_pos h5]; exact ih _ _ _ _ _ _ _ _ _ _ _
            · rw [if_neg h5, if_neg h5]; exact ih _ _ _ _ _ _ _ _ _ _ _
theorem fcg1_2 (kn ti : Nat → Int32) (n n2 j : Nat) (t u : Int32) : ∀ (k i : Nat) (be : Int32) (mc : Nat) (it vs se : Nat → Int32) (sm : Int64) (rs : Nat → Int64) (wk : Nat → Int32) (ors : Nat → Int64) (owk : Nat → Int32), g_Mo_firstChange_2_97 kn ti n n2 j t u k i be mc it vs se sm rs wk ors owk = (fc2 ti n j t u n2 0 (fc1 ti n2 j t u rs wk ors owk k i be), (f_Mo_lacksTwo kn j t u).2, mc, it, vs, se, sm, rs, wk, ors, owk) := by
  intro k
  induction k with
  | zero => intro i be mc it vs se sm rs wk ors owk; exact fcg2_2 _ _ _ _ _ _ _ _ _ _ _ _ _ _ _ _ _ _
  | succ k ih =>
    intro i be mc it vs se sm rs wk ors owk
    unfold g_Mo_firstChange_2_97 fc1 fcw
    by_cases h1 : ¬ (f_Mo_find ti n2 (j + 4) (ti (32 * j + i))) = -1
    · rw [if_pos h1, if_pos h1]
      by_cases h2 : (lg_cmp (ors ((f_Mo_find ti n2 (j + 4) (ti (32 * j + i))).toNatClampNeg)) (rs i)) = 0
      · rw [if_pos h2, if_pos h2]
        by_cases h3 : (owk ((f_Mo_find ti n2 (j + 4) (ti (32 * j + i))).toNatClampNeg)) = (wk i)
        · rw [if_pos h3, if_pos h3]; exact ih _ _ _ _ _ _ _ _ _ _ _
        · rw [if_neg h3, if_neg h3]
          by_cases k2 : ti (32 * j + i) < t
          · rw [if_pos k2, if_pos k2]; exact ih _ _ _ _ _ _ _ _ _ _ _
          · rw [if_neg k2, if_neg k2]
            by_cases k3 : u < ti (32 * j + i)
            · rw [if_pos k3, if_pos k3]; exact ih _ _ _ _ _ _ _ _ _ _ _
            · rw [if_neg k3, if_neg k3]
              by_cases k4 : be = 0
              · rw [if_pos k4, if_pos k4]; exact ih _ _ _ _ _ _ _ _ _ _ _
              · rw [if_neg k4, if_neg k4]
                by_cases k5 : be ≤ ti (32 * j + i)
                · rw [if_pos k5, if_pos k5]; exact ih _ _ _ _ _ _ _ _ _ _ _
                · rw [if_neg k5, if_neg k5]; exact ih _ _ _ _ _ _ _ _ _ _ _
      · rw [if_neg h2, if_neg h2]
        by_cases k2 : ti (32 * j + i) < t
        · rw [if_pos k2, if_pos k2]; exact ih _ _ _ _ _ _ _ _ _ _ _
        · rw [if_neg k2, if_neg k2]
          by_cases k3 : u < ti (32 * j + i)
          · rw [if_pos k3, if_pos k3]; exact ih _ _ _ _ _ _ _ _ _ _ _
          · rw [if_neg k3, if_neg k3]
            by_cases k4 : be = 0
            · rw [if_pos k4, if_pos k4]; exact ih _ _ _ _ _ _ _ _ _ _ _
            · rw [if_neg k4, if_neg k4]
              by_cases k5 : be ≤ ti (32 * j + i)
              · rw [if_pos k5, if_pos k5]; exact ih _ _ _ _ _ _ _ _ _ _ _
              · rw [if_neg k5, if_neg k5]; exact ih _ _ _ _ _ _ _ _ _ _ _
    · rw [if_neg h1, if_neg h1]
      by_cases k2 : ti (32 * j + i) < t
      · rw [if_pos k2, if_pos k2]; exact ih _ _ _ _ _ _ _ _ _ _ _
      · rw [if_neg k2, if_neg k2]
        by_cases k3 : u < ti (32 * j + i)
        · rw [if_pos k3, if_pos k3]; exact ih _ _ _ _ _ _ _ _ _ _ _
        · rw [if_neg k3, if_neg k3]
          by_cases k4 : be = 0
          · rw [if_pos k4, if_pos k4]; exact ih _ _ _ _ _ _ _ _ _ _ _
          · rw [if_neg k4, if_neg k4]
            by_cases k5 : be ≤ ti (32 * j + i)
            · rw [if_pos k5, if_pos k5]; exact ih _ _ _ _ _ _ _ _ _ _ _
            · rw [if_neg k5, if_neg k5]; exact ih _ _ _ _ _ _ _ _ _ _ _
theorem fcg0_2 (kn ti nm xa xb : Nat → Int32) (n n2 j : Nat) (t u : Int32) : ∀ (k i : Nat) (mc : Nat) (it vs se : Nat → Int32) (sm : Int64) (rs : Nat → Int64) (wk : Nat → Int32) (ors : Nat → Int64) (owk : Nat → Int32), g_Mo_firstChange_2_38 kn ti nm xa xb n n2 j t u k i mc it vs se sm rs wk ors owk = g_Mo_firstChange_2_97 kn ti n n2 j t u n 0 0 (f_Mo_run_2 ti nm xa xb it vs se rs wk n j 1000000000).1 (f_Mo_run_2 ti nm xa xb it vs se rs wk n j 1000000000).2.1 (f_Mo_run_2 ti nm xa xb it vs se rs wk n j 1000000000).2.2.1 (f_Mo_run_2 ti nm xa xb it vs se rs wk n j 1000000000).2.2.2.1 (f_Mo_run_2 ti nm xa xb it vs se rs wk n j 1000000000).2.2.2.2.1 (f_Mo_run_2 ti nm xa xb it vs se rs wk n j 1000000000).2.2.2.2.2.1 (f_Mo_run_2 ti nm xa xb it vs se rs wk n j 1000000000).2.2.2.2.2.2 (cpfL ors rs k i) (cpf owk wk k i) := by
  intro k
  induction k with
  | zero => intro i mc it vs se sm rs wk ors owk; rfl
  | succ k ih => intro i mc it vs se sm rs wk ors owk; exact ih _ _ _ _ _ _ _ _ _ _
theorem pq_firstChange_2 {mo na aa bb kn ti nm xa xb : Nat → Int32} {n j : Nat} {t u : Int32} {it vs se : Nat → Int32} {rs : Nat → Int64} {wk : Nat → Int32} {n2 : Nat} {mo2 na2 aa2 bb2 ef ef2 owk : Nat → Int32} {re re2 ors : Nat → Int64} (hn : n ≤ 32) (hn2 : n2 ≤ 32) (hL : LEq n mo na aa bb ti nm xa xb (32 * j)) (hL2 : LEq n2 mo2 na2 aa2 bb2 ti nm xa xb (32 * (j + 4))) (hO : LOK 2 n mo na aa bb re ef) (hO2 : LOK 2 n2 mo2 na2 aa2 bb2 re2 ef2) (hb : bz wk) (hu : okM u) : (f_Mo_firstChange_2 kn ti nm xa xb it vs se rs wk ors owk n n2 j t u).1 = (if u < f_Li_firstDifference n mo re ef n2 mo2 re2 ef2 t then 0 else f_Li_firstDifference n mo re ef n2 mo2 re2 ef2 t) ∧ (f_Mo_firstChange_2 kn ti nm xa xb it vs se rs wk ors owk n n2 j t u).2.1 = (f_Mo_lacksTwo kn j t u).2 ∧ bz (f_Mo_firstChange_2 kn ti nm xa xb it vs se rs wk ors owk n n2 j t u).2.2.2.2.2.2.2.2.1 := by
  have b2 := run_bz_2 ti nm xa xb it vs se rs wk n2 (j + 4) 1000000000 hb
  have r2 := fun p (hp : p < n2) => rM_2 (t := 1000000000) (it := it) (vs := vs) (se := se) (rs := rs) (wk := wk) hn2 hL2 hO2 p hp (fun z hz => Int32.not_lt.mp (hO2.2.1 z (by omega)).2)
  have b1 := run_bz_2 ti nm xa xb (f_Mo_run_2 ti nm xa xb it vs se rs wk n2 (j + 4) 1000000000).2.1 (f_Mo_run_2 ti nm xa xb it vs se rs wk n2 (j + 4) 1000000000).2.2.1 (f_Mo_run_2 ti nm xa xb it vs se rs wk n2 (j + 4) 1000000000).2.2.2.1 (f_Mo_run_2 ti nm xa xb it vs se rs wk n2 (j + 4) 1000000000).2.2.2.2.2.1 (f_Mo_run_2 ti nm xa xb it vs se rs wk n2 (j + 4) 1000000000).2.2.2.2.2.2 n j 1000000000 b2
  have r1 := fun p (hp : p < n) => rM_2 (t := 1000000000) (it := (f_Mo_run_2 ti nm xa xb it vs se rs wk n2 (j + 4) 1000000000).2.1) (vs := (f_Mo_run_2 ti nm xa xb it vs se rs wk n2 (j + 4) 1000000000).2.2.1) (se := (f_Mo_run_2 ti nm xa xb it vs se rs wk n2 (j + 4) 1000000000).2.2.2.1) (rs := (f_Mo_run_2 ti nm xa xb it vs se rs wk n2 (j + 4) 1000000000).2.2.2.2.2.1) (wk := (f_Mo_run_2 ti nm xa xb it vs se rs wk n2 (j + 4) 1000000000).2.2.2.2.2.2) hn hL hO p hp (fun z hz => Int32.not_lt.mp (hO.2.1 z (by omega)).2)
  have e := fcg0_2 kn ti nm xa xb n n2 j t u 32 0 (f_Mo_run_2 ti nm xa xb it vs se rs wk n2 (j + 4) 1000000000).1 (f_Mo_run_2 ti nm xa xb it vs se rs wk n2 (j + 4) 1000000000).2.1 (f_Mo_run_2 ti nm xa xb it vs se rs wk n2 (j + 4) 1000000000).2.2.1 (f_Mo_run_2 ti nm xa xb it vs se rs wk n2 (j + 4) 1000000000).2.2.2.1 (f_Mo_run_2 ti nm xa xb it vs se rs wk n2 (j + 4) 1000000000).2.2.2.2.1 (f_Mo_run_2 ti nm xa xb it vs se rs wk n2 (j + 4) 1000000000).2.2.2.2.2.1 (f_Mo_run_2 ti nm xa xb it vs se rs wk n2 (j + 4) 1000000000).2.2.2.2.2.2 ors owk
  have e : f_Mo_firstChange_2 kn ti nm xa xb it vs se rs wk ors owk n n2 j t u = _ := e
  rw [e, fcg1_2]
  refine ⟨fc_ok hO.1 hO2.1 hn hn2 hO.2.1 hO2.2.1 hL.mo hL2.mo r1 (fun p hp => ?_) hu, rfl, b1⟩
  rw [cpfL_at, cpf_at, if_pos (by omega), if_pos (by omega)]
  exact r2 p hp
theorem effg_3 (kn ti : Nat → Int32) (j : Nat) (t u : Int32) : ∀ (k i c9 : Nat) (mc : Nat) (it vs se : Nat → Int32) (sm : Int64) (rs : Nat → Int64) (wk : Nat → Int32), g_Mo_effective_3_29 kn ti j t u k i c9 mc it vs se sm rs wk = (cem ti wk (32 * j) t u k i c9, (f_Mo_lacksTwo kn j t u).2, mc, it, vs, se, sm, rs, wk) := by
  intro k
  induction k with
  | zero => intro i c9 mc it vs se sm rs wk; rfl
  | succ k ih =>
    intro i c9 mc it vs se sm rs wk
    unfold g_Mo_effective_3_29 cem
    by_cases h1 : ti (32 * j + i) < t
    · rw [if_pos h1, if_pos h1]; exact ih _ _ _ _ _ _ _ _ _
    · rw [if_neg h1, if_neg h1]
      by_cases h2 : u < ti (32 * j + i)
      · rw [if_pos h2, if_pos h2]; exact ih _ _ _ _ _ _ _ _ _
      · rw [if_neg h2, if_neg h2]
        by_cases h3 : wk i = 0
        · rw [if_pos h3, if_pos h3]; exact ih _ _ _ _ _ _ _ _ _
        · rw [if_neg h3, if_neg h3]; exact ih _ _ _ _ _ _ _ _ _
theorem pq_effective_3 {mo na aa bb kn ti nm xa xb : Nat → Int32} {n j : Nat} {t u : Int32} {it vs se : Nat → Int32} {rs : Nat → Int64} {wk : Nat → Int32} {re : Nat → Int64} {ef : Nat → Int32} (hn : n ≤ 32) (hL : LEq n mo na aa bb ti nm xa xb (32 * j)) (hO : LOK 3 n mo na aa bb re ef) (hb : bz wk) : (f_Mo_effective_3 kn ti nm xa it vs se rs wk n j t u).1 = cef mo ef u (n - pfr mo t n 0) (pfr mo t n 0) ∧ (f_Mo_effective_3 kn ti nm xa it vs se rs wk n j t u).2.1 = (f_Mo_lacksTwo kn j t u).2 ∧ bz (f_Mo_effective_3 kn ti nm xa it vs se rs wk n j t u).2.2.2.2.2.2.2.2 := by
  have e := effg_3 kn ti j t u n 0 0 (f_Mo_run_3 ti nm xa it vs se rs wk n j u).1 (f_Mo_run_3 ti nm xa it vs se rs wk n j u).2.1 (f_Mo_run_3 ti nm xa it vs se rs wk n j u).2.2.1 (f_Mo_run_3 ti nm xa it vs se rs wk n j u).2.2.2.1 (f_Mo_run_3 ti nm xa it vs se rs wk n j u).2.2.2.2.1 (f_Mo_run_3 ti nm xa it vs se rs wk n j u).2.2.2.2.2.1 (f_Mo_run_3 ti nm xa it vs se rs wk n j u).2.2.2.2.2.2
  have e : f_Mo_effective_3 kn ti nm xa it vs se rs wk n j t u = _ := e
  rw [e]
  exact ⟨cem_ok hO.1 hL.mo (fun p hp hz => (rM_3 hn hL hO p hp hz).2), rfl, run_bz_3 _ _ _ _ _ _ _ _ _ _ _ hb⟩
theorem fcg2_3 (kn ti : Nat → Int32) (n j : Nat) (t u : Int32) : ∀ (k i : Nat) (be : Int32) (mc : Nat) (it vs se : Nat → Int32) (sm : Int64) (rs : Nat → Int64) (wk : Nat → Int32) (ors : Nat → Int64) (owk : Nat → Int32), g_Mo_firstChange_3_227 kn ti n j t u k i be mc it vs se sm rs wk ors owk = (fc2 ti n j t u k i be, (f_Mo_lacksTwo kn j t u).2, mc, it, vs, se, sm, rs, wk, ors, owk) := by
  intro k
  induction k with
  | zero => intro i be mc it vs se sm rs wk ors owk; rfl
  | succ k ih =>
    intro i be mc it vs se sm rs wk ors owk
    unfold g_Mo_firstChange_3_227 fc2 fcw
    by_cases h1 : ¬ (f_Mo_find ti n j (ti (32 * (j + 4) + i))) = -1
    · rw [if_pos h1, if_pos h1]; exact ih _ _ _ _ _ _ _ _ _ _ _
    · rw [if_neg h1, if_neg h1]
      by_cases h2 : ti (32 * (j + 4) + i) < t
      · rw [if_pos h2, if_pos h2]; exact ih _ _ _ _ _ _ _ _ _ _ _
      · rw [if_neg h2, if_neg h2]
        by_cases h3 : u < ti (32 * (j + 4) + i)
        · rw [if_pos h3, if_pos h3]; exact ih _ _ _ _ _ _ _ _ _ _ _
        · rw [if_neg h3, if_neg h3]
          by_cases h4 : be = 0
          · rw [if_pos h4, if_pos h4]; exact ih _ _ _ _ _ _ _ _ _ _ _
          · rw [if_neg h4, if_neg h4]
            by_cases h5 : be ≤ ti (32 * (j + 4) + i)
            · rw [if_pos h5, if_pos h5]; exact ih _ _ _ _ _ _ _ _ _ _ _
            · rw [if_neg h5, if_neg h5]; exact ih _ _ _ _ _ _ _ _ _ _ _
theorem fcg1_3 (kn ti : Nat → Int32) (n n2 j : Nat) (t u : Int32) : ∀ (k i : Nat) (be : Int32) (mc : Nat) (it vs se : Nat → Int32) (sm : Int64) (rs : Nat → Int64) (wk : Nat → Int32) (ors : Nat → Int64) (owk : Nat → Int32), g_Mo_firstChange_3_97 kn ti n n2 j t u k i be mc it vs se sm rs wk ors owk = (fc2 ti n j t u n2 0 (fc1 ti n2 j t u rs wk ors owk k i be), (f_Mo_lacksTwo kn j t u).2, mc, it, vs, se, sm, rs, wk, ors, owk) := by
  intro k
  induction k with
  | zero => intro i be mc it vs se sm rs wk ors owk; exact fcg2_3 _ _ _ _ _ _ _ _ _ _ _ _ _ _ _ _ _ _
  | succ k ih =>
    intro i be mc it vs se sm rs wk ors owk
    unfold g_Mo_firstChange_3_97 fc1 fcw
    by_cases h1 : ¬ (f_Mo_find ti n2 (j + 4) (ti (32 * j + i))) = -1
    · rw [if_pos h1, if_pos h1]
      by_cases h2 : (lg_cmp (ors ((f_Mo_find ti n2 (j + 4) (ti (32 * j + i))).toNatClampNeg)) (rs i)) = 0
      · rw [if_pos h2, if_pos h2]
        by_cases h3 : (owk ((f_Mo_find ti n2 (j + 4) (ti (32 * j + i))).toNatClampNeg)) = (wk i)
        · rw [if_pos h3, if_pos h3]; exact ih _ _ _ _ _ _ _ _ _ _ _
        · rw [if_neg h3, if_neg h3]
          by_cases k2 : ti (32 * j + i) < t
          · rw [if_pos k2, if_pos k2]; exact ih _ _ _ _ _ _ _ _ _ _ _
          · rw [if_neg k2, if_neg k2]
            by_cases k3 : u < ti (32 * j + i)
            · rw [if_pos k3, if_pos k3]; exact ih _ _ _ _ _ _ _ _ _ _ _
            · rw [if_neg k3, if_neg k3]
              by_cases k4 : be = 0
              · rw [if_pos k4, if_pos k4]; exact ih _ _ _ _ _ _ _ _ _ _ _
              · rw [if_neg k4, if_neg k4]
                by_cases k5 : be ≤ ti (32 * j + i)
                · rw [if_pos k5, if_pos k5]; exact ih _ _ _ _ _ _ _ _ _ _ _
                · rw [if_neg k5, if_neg k5]; exact ih _ _ _ _ _ _ _ _ _ _ _
      · rw [if_neg h2, if_neg h2]
        by_cases k2 : ti (32 * j + i) < t
        · rw [if_pos k2, if_pos k2]; exact ih _ _ _ _ _ _ _ _ _ _ _
        · rw [if_neg k2, if_neg k2]
          by_cases k3 : u < ti (32 * j + i)
          · rw [if_pos k3, if_pos k3]; exact ih _ _ _ _ _ _ _ _ _ _ _
          · rw [if_neg k3, if_neg k3]
            by_cases k4 : be = 0
            · rw [if_pos k4, if_pos k4]; exact ih _ _ _ _ _ _ _ _ _ _ _
            · rw [if_neg k4, if_neg k4]
              by_cases k5 : be ≤ ti (32 * j + i)
              · rw [if_pos k5, if_pos k5]; exact ih _ _ _ _ _ _ _ _ _ _ _
              · rw [if_neg k5, if_neg k5]; exact ih _ _ _ _ _ _ _ _ _ _ _
    · rw [if_neg h1, if_neg h1]
      by_cases k2 : ti (32 * j + i) < t
      · rw [if_pos k2, if_pos k2]; exact ih _ _ _ _ _ _ _ _ _ _ _
      · rw [if_neg k2, if_neg k2]
        by_cases k3 : u < ti (32 * j + i)
        · rw [if_pos k3, if_pos k3]; exact ih _ _ _ _ _ _ _ _ _ _ _
        · rw [if_neg k3, if_neg k3]
          by_cases k4 : be = 0
          · rw [if_pos k4, if_pos k4]; exact ih _ _ _ _ _ _ _ _ _ _ _
          · rw [if_neg k4, if_neg k4]
            by_cases k5 : be ≤ ti (32 * j + i)
            · rw [if_pos k5, if_pos k5]; exact ih _ _ _ _ _ _ _ _ _ _ _
            · rw [if_neg k5, if_neg k5]; exact ih _ _ _ _ _ _ _ _ _ _ _
theorem fcg0_3 (kn ti nm xa : Nat → Int32) (n n2 j : Nat) (t u : Int32) : ∀ (k i : Nat) (mc : Nat) (it vs se : Nat → Int32) (sm : Int64) (rs : Nat → Int64) (wk : Nat → Int32) (ors : Nat → Int64) (owk : Nat → Int32), g_Mo_firstChange_3_38 kn ti nm xa n n2 j t u k i mc it vs se sm rs wk ors owk = g_Mo_firstChange_3_97 kn ti n n2 j t u n 0 0 (f_Mo_run_3 ti nm xa it vs se rs wk n j 1000000000).1 (f_Mo_run_3 ti nm xa it vs se rs wk n j 1000000000).2.1 (f_Mo_run_3 ti nm xa it vs se rs wk n j 1000000000).2.2.1 (f_Mo_run_3 ti nm xa it vs se rs wk n j 1000000000).2.2.2.1 (f_Mo_run_3 ti nm xa it vs se rs wk n j 1000000000).2.2.2.2.1 (f_Mo_run_3 ti nm xa it vs se rs wk n j 1000000000).2.2.2.2.2.1 (f_Mo_run_3 ti nm xa it vs se rs wk n j 1000000000).2.2.2.2.2.2 (cpfL ors rs k i) (cpf owk wk k i) := by
  intro k
  induction k with
  | zero => intro i mc it vs se sm rs wk ors owk; rfl
  | succ k ih => intro i mc it vs se sm rs wk ors owk; exact ih _ _ _ _ _ _ _ _ _ _
theorem pq_firstChange_3 {mo na aa bb kn ti nm xa xb : Nat → Int32} {n j : Nat} {t u : Int32} {it vs se : Nat → Int32} {rs : Nat → Int64} {wk : Nat → Int32} {n2 : Nat} {mo2 na2 aa2 bb2 ef ef2 owk : Nat → Int32} {re re2 ors : Nat → Int64} (hn : n ≤ 32) (hn2 : n2 ≤ 32) (hL : LEq n mo na aa bb ti nm xa xb (32 * j)) (hL2 : LEq n2 mo2 na2 aa2 bb2 ti nm xa xb (32 * (j + 4))) (hO : LOK 3 n mo na aa bb re ef) (hO2 : LOK 3 n2 mo2 na2 aa2 bb2 re2 ef2) (hb : bz wk) (hu : okM u) : (f_Mo_firstChange_3 kn ti nm xa it vs se rs wk ors owk n n2 j t u).1 = (if u < f_Li_firstDifference n mo re ef n2 mo2 re2 ef2 t then 0 else f_Li_firstDifference n mo re ef n2 mo2 re2 ef2 t) ∧ (f_Mo_firstChange_3 kn ti nm xa it vs se rs wk ors owk n n2 j t u).2.1 = (f_Mo_lacksTwo kn j t u).2 ∧ bz (f_Mo_firstChange_3 kn ti nm xa it vs se rs wk ors owk n n2 j t u).2.2.2.2.2.2.2.2.1 := by
  have b2 := run_bz_3 ti nm xa it vs se rs wk n2 (j + 4) 1000000000 hb
  have r2 := fun p (hp : p < n2) => rM_3 (t := 1000000000) (it := it) (vs := vs) (se := se) (rs := rs) (wk := wk) hn2 hL2 hO2 p hp (fun z hz => Int32.not_lt.mp (hO2.2.1 z (by omega)).2)
  have b1 := run_bz_3 ti nm xa (f_Mo_run_3 ti nm xa it vs se rs wk n2 (j + 4) 1000000000).2.1 (f_Mo_run_3 ti nm xa it vs se rs wk n2 (j + 4) 1000000000).2.2.1 (f_Mo_run_3 ti nm xa it vs se rs wk n2 (j + 4) 1000000000).2.2.2.1 (f_Mo_run_3 ti nm xa it vs se rs wk n2 (j + 4) 1000000000).2.2.2.2.2.1 (f_Mo_run_3 ti nm xa it vs se rs wk n2 (j + 4) 1000000000).2.2.2.2.2.2 n j 1000000000 b2
  have r1 := fun p (hp : p < n) => rM_3 (t := 1000000000) (it := (f_Mo_run_3 ti nm xa it vs se rs wk n2 (j + 4) 1000000000).2.1) (vs := (f_Mo_run_3 ti nm xa it vs se rs wk n2 (j + 4) 1000000000).2.2.1) (se := (f_Mo_run_3 ti nm xa it vs se rs wk n2 (j + 4) 1000000000).2.2.2.1) (rs := (f_Mo_run_3 ti nm xa it vs se rs wk n2 (j + 4) 1000000000).2.2.2.2.2.1) (wk := (f_Mo_run_3 ti nm xa it vs se rs wk n2 (j + 4) 1000000000).2.2.2.2.2.2) hn hL hO p hp (fun z hz => Int32.not_lt.mp (hO.2.1 z (by omega)).2)
  have e := fcg0_3 kn ti nm xa n n2 j t u 32 0 (f_Mo_run_3 ti nm xa it vs se rs wk n2 (j + 4) 1000000000).1 (f_Mo_run_3 ti nm xa it vs se rs wk n2 (j + 4) 1000000000).2.1 (f_Mo_run_3 ti nm xa it vs se rs wk n2 (j + 4) 1000000000).2.2.1 (f_Mo_run_3 ti nm xa it vs se rs wk n2 (j + 4) 1000000000).2.2.2.1 (f_Mo_run_3 ti nm xa it vs se rs wk n2 (j + 4) 1000000000).2.2.2.2.1 (f_Mo_run_3 ti nm xa it vs se rs wk n2 (j + 4) 1000000000).2.2.2.2.2.1 (f_Mo_run_3 ti nm xa it vs se rs wk n2 (j + 4) 1000000000).2.2.2.2.2.2 ors owk
  have e : f_Mo_firstChange_3 kn ti nm xa it vs se rs wk ors owk n n2 j t u = _ := e
  rw [e, fcg1_3]
  refine ⟨fc_ok hO.1 hO2.1 hn hn2 hO.2.1 hO2.2.1 hL.mo hL2.mo r1 (fun p hp => ?_) hu, rfl, b1⟩
  rw [cpfL_at, cpf_at, if_pos (by omega), if_pos (by omega)]
  exact r2 p hp
theorem effg_4 (kn ti : Nat → Int32) (j : Nat) (t u : Int32) : ∀ (k i c9 : Nat) (mc : Int32) (it vs se : Nat → Int32) (sm : Int64) (rs : Nat → Int64) (wk : Nat → Int32), g_Mo_effective_4_29 kn ti j t u k i c9 mc it vs se sm rs wk = (cem ti wk (32 * j) t u k i c9, (f_Mo_lacksTwo kn j t u).2, mc, it, vs, se, sm, rs, wk) := by
  intro k
  induction k with
  | zero => intro i c9 mc it vs se sm rs wk; rfl
  | succ k ih =>
    intro i c9 mc it vs se sm rs wk
    unfold g_Mo_effective_4_29 cem
    by_cases h1 : ti (32 * j + i) < t
    · rw [if_pos h1, if_pos h1]; exact ih _ _ _ _ _ _ _ _ _
    · rw [if_neg h1, if_neg h1]
      by_cases h2 : u < ti (32 * j + i)
      · rw [if_pos h2, if_pos h2]; exact ih _ _ _ _ _ _ _ _ _
      · rw [if_neg h2, if_neg h2]
        by_cases h3 : wk i = 0
        · rw [if_pos h3, if_pos h3]; exact ih _ _ _ _ _ _ _ _ _
        · rw [if_neg h3, if_neg h3]; exact ih _ _ _ _ _ _ _ _ _
theorem pq_effective_4 {mo na aa bb kn ti nm xa xb : Nat → Int32} {n j : Nat} {t u : Int32} {it vs se : Nat → Int32} {rs : Nat → Int64} {wk : Nat → Int32} {re : Nat → Int64} {ef : Nat → Int32} (hn : n ≤ 32) (hL : LEq n mo na aa bb ti nm xa xb (32 * j)) (hO : LOK 4 n mo na aa bb re ef) (hb : bz wk) : (f_Mo_effective_4 kn ti xa it vs se rs wk n j t u).1 = cef mo ef u (n - pfr mo t n 0) (pfr mo t n 0) ∧ (f_Mo_effective_4 kn ti xa it vs se rs wk n j t u).2.1 = (f_Mo_lacksTwo kn j t u).2 ∧ bz (f_Mo_effective_4 kn ti xa it vs se rs wk n j t u).2.2.2.2.2.2.2.2 := by
  have e := effg_4 kn ti j t u n 0 0 (f_Mo_run_4 ti xa it vs se rs wk n j u).1 (f_Mo_run_4 ti xa it vs se rs wk n j u).2.1 (f_Mo_run_4 ti xa it vs se rs wk n j u).2.2.1 (f_Mo_run_4 ti xa it vs se rs wk n j u).2.2.2.1 (f_Mo_run_4 ti xa it vs se rs wk n j u).2.2.2.2.1 (f_Mo_run_4 ti xa it vs se rs wk n j u).2.2.2.2.2.1 (f_Mo_run_4 ti xa it vs se rs wk n j u).2.2.2.2.2.2
  have e : f_Mo_effective_4 kn ti xa it vs se rs wk n j t u = _ := e
  rw [e]
  exact ⟨cem_ok hO.1 hL.mo (fun p hp hz => (rM_4 hn hL hO p hp hz).2), rfl, run_bz_4 _ _ _ _ _ _ _ _ _ _ hb⟩
theorem fcg2_4 (kn ti : Nat → Int32) (n j : Nat) (t u : Int32) : ∀ (k i : Nat) (be : Int32) (mc : Int32) (it vs se : Nat → Int32) (sm : Int64) (rs : Nat → Int64) (wk : Nat → Int32) (ors : Nat → Int64) (owk : Nat → Int32), g_Mo_firstChange_4_227 kn ti n j t u k i be mc it vs se sm rs wk ors owk = (fc2 ti n j t u k i be, (f_Mo_lacksTwo kn j t u).2, mc, it, vs, se, sm, rs, wk, ors, owk) := by
  intro k
  induction k with
  | zero => intro i be mc it vs se sm rs wk ors owk; rfl
  | succ k ih =>
    intro i be mc it vs se sm rs wk ors owk
    unfold g_Mo_firstChange_4_227 fc2 fcw
    by_cases h1 : ¬ (f_Mo_find ti n j (ti (32 * (j + 4) + i))) = -1
    · rw [if_pos h1, if_pos h1]; exact ih _ _ _ _ _ _ _ _ _ _ _
    · rw [if_neg h1, if_neg h1]
      by_cases h2 : ti (32 * (j + 4) + i) < t
      · rw [if_pos h2, if_pos h2]; exact ih _ _ _ _ _ _ _ _ _ _ _
      · rw [if_neg h2, if_neg h2]
        by_cases h3 : u < ti (32 * (j + 4) + i)
        · rw [if_pos h3, if_pos h3]; exact ih _ _ _ _ _ _ _ _ _ _ _
        · rw [if_neg h3, if_neg h3]
          by_cases h4 : be = 0
          · rw [if_pos h4, if_pos h4]; exact ih _ _ _ _ _ _ _ _ _ _ _
          · rw [if_neg h4, if_neg h4]
            by_cases h5 : be ≤ ti (32 * (j + 4) + i)
            · rw [if_pos h5, if_pos h5]; exact ih _ _ _ _ _ _ _ _ _ _ _
            · rw [if_neg h5, if_neg h5]; exact ih _ _ _ _ _ _ _ _ _ _ _
theorem fcg1_4 (kn ti : Nat → Int32) (n n2 j : Nat) (t u : Int32) : ∀ (k i : Nat) (be : Int32) (mc : Int32) (it vs se : Nat → Int32) (sm : Int64) (rs : Nat → Int64) (wk : Nat → Int32) (ors : Nat → Int64) (owk : Nat → Int32), g_Mo_firstChange_4_97 kn ti n n2 j t u k i be mc it vs se sm rs wk ors owk = (fc2 ti n j t u n2 0 (fc1 ti n2 j t u rs wk ors owk k i be), (f_Mo_lacksTwo kn j t u).2, mc, it, vs, se, sm, rs, wk, ors, owk) := by
  intro k
  induction k with
  | zero => intro i be mc it vs se sm rs wk ors owk; exact fcg2_4 _ _ _ _ _ _ _ _ _ _ _ _ _ _ _ _ _ _
  | succ k ih =>
    intro i be mc it vs se sm rs wk ors owk
    unfold g_Mo_firstChange_4_97 fc1 fcw
    by_cases h1 : ¬ (f_Mo_find ti n2 (j + 4) (ti (32 * j + i))) = -1
    · rw [if_pos h1, if_pos h1]
      by_cases h2 : (lg_cmp (ors ((f_Mo_find ti n2 (j + 4) (ti (32 * j + i))).toNatClampNeg)) (rs i)) = 0
      · rw [if_pos h2, if_pos h2]
        by_cases h3 : (owk ((f_Mo_find ti n2 (j + 4) (ti (32 * j + i))).toNatClampNeg)) = (wk i)
        · rw [if_pos h3, if_pos h3]; exact ih _ _ _ _ _ _ _ _ _ _ _
        · rw [if_neg h3, if_neg h3]
          by_cases k2 : ti (32 * j + i) < t
          · rw [if_pos k2, if_pos k2]; exact ih _ _ _ _ _ _ _ _ _ _ _
          · rw [if_neg k2, if_neg k2]
            by_cases k3 : u < ti (32 * j + i)
            · rw [if_pos k3, if_pos k3]; exact ih _ _ _ _ _ _ _ _ _ _ _
            · rw [if_neg k3, if_neg k3]
              by_cases k4 : be = 0
              · rw [if_pos k4, if_pos k4]; exact ih _ _ _ _ _ _ _ _ _ _ _
              · rw [if_neg k4, if_neg k4]
                by_cases k5 : be ≤ ti (32 * j + i)
                · rw [if_pos k5, if_pos k5]; exact ih _ _ _ _ _ _ _ _ _ _ _
                · rw [if_neg k5, if_neg k5]; exact ih _ _ _ _ _ _ _ _ _ _ _
      · rw [if_neg h2, if_neg h2]
        by_cases k2 : ti (32 * j + i) < t
        · rw [if_pos k2, if_pos k2]; exact ih _ _ _ _ _ _ _ _ _ _ _
        · rw [if_neg k2, if_neg k2]
          by_cases k3 : u < ti (32 * j + i)
          · rw [if_pos k3, if_pos k3]; exact ih _ _ _ _ _ _ _ _ _ _ _
          · rw [if_neg k3, if_neg k3]
            by_cases k4 : be = 0
            · rw [if_pos k4, if_pos k4]; exact ih _ _ _ _ _ _ _ _ _ _ _
            · rw [if_neg k4, if_neg k4]
              by_cases k5 : be ≤ ti (32 * j + i)
              · rw [if_pos k5, if_pos k5]; exact ih _ _ _ _ _ _ _ _ _ _ _
              · rw [if_neg k5, if_neg k5]; exact ih _ _ _ _ _ _ _ _ _ _ _
    · rw [if_neg h1, if_neg h1]
      by_cases k2 : ti (32 * j + i) < t
      · rw [if_pos k2, if_pos k2]; exact ih _ _ _ _ _ _ _ _ _ _ _
      · rw [if_neg k2, if_neg k2]
        by_cases k3 : u < ti (32 * j + i)
        · rw [if_pos k3, if_pos k3]; exact ih _ _ _ _ _ _ _ _ _ _ _
        · rw [if_neg k3, if_neg k3]
          by_cases k4 : be = 0
          · rw [if_pos k4, if_pos k4]; exact ih _ _ _ _ _ _ _ _ _ _ _
          · rw [if_neg k4, if_neg k4]
            by_cases k5 : be ≤ ti (32 * j + i)
            · rw [if_pos k5, if_pos k5]; exact ih _ _ _ _ _ _ _ _ _ _ _
            · rw [if_neg k5, if_neg k5]; exact ih _ _ _ _ _ _ _ _ _ _ _
theorem fcg0_4 (kn ti xa : Nat → Int32) (n n2 j : Nat) (t u : Int32) : ∀ (k i : Nat) (mc : Int32) (it vs se : Nat → Int32) (sm : Int64) (rs : Nat → Int64) (wk : Nat → Int32) (ors : Nat → Int64) (owk : Nat → Int32), g_Mo_firstChange_4_38 kn ti xa n n2 j t u k i mc it vs se sm rs wk ors owk = g_Mo_firstChange_4_97 kn ti n n2 j t u n 0 0 (f_Mo_run_4 ti xa it vs se rs wk n j 1000000000).1 (f_Mo_run_4 ti xa it vs se rs wk n j 1000000000).2.1 (f_Mo_run_4 ti xa it vs se rs wk n j 1000000000).2.2.1 (f_Mo_run_4 ti xa it vs se rs wk n j 1000000000).2.2.2.1 (f_Mo_run_4 ti xa it vs se rs wk n j 1000000000).2.2.2.2.1 (f_Mo_run_4 ti xa it vs se rs wk n j 1000000000).2.2.2.2.2.1 (f_Mo_run_4 ti xa it vs se rs wk n j 1000000000).2.2.2.2.2.2 (cpfL ors rs k i) (cpf owk wk k i) := by
  intro k
  induction k with
  | zero => intro i mc it vs se sm rs wk ors owk; rfl
  | succ k ih => intro i mc it vs se sm rs wk ors owk; exact ih _ _ _ _ _ _ _ _ _ _
theorem pq_firstChange_4 {mo na aa bb kn ti nm xa xb : Nat → Int32} {n j : Nat} {t u : Int32} {it vs se : Nat → Int32} {rs : Nat → Int64} {wk : Nat → Int32} {n2 : Nat} {mo2 na2 aa2 bb2 ef ef2 owk : Nat → Int32} {re re2 ors : Nat → Int64} (hn : n ≤ 32) (hn2 : n2 ≤ 32) (hL : LEq n mo na aa bb ti nm xa xb (32 * j)) (hL2 : LEq n2 mo2 na2 aa2 bb2 ti nm xa xb (32 * (j + 4))) (hO : LOK 4 n mo na aa bb re ef) (hO2 : LOK 4 n2 mo2 na2 aa2 bb2 re2 ef2) (hb : bz wk) (hu : okM u) : (f_Mo_firstChange_4 kn ti xa it vs se rs wk ors owk n n2 j t u).1 = (if u < f_Li_firstDifference n mo re ef n2 mo2 re2 ef2 t then 0 else f_Li_firstDifference n mo re ef n2 mo2 re2 ef2 t) ∧ (f_Mo_firstChange_4 kn ti xa it vs se rs wk ors owk n n2 j t u).2.1 = (f_Mo_lacksTwo kn j t u).2 ∧ bz (f_Mo_firstChange_4 kn ti xa it vs se rs wk ors owk n n2 j t u).2.2.2.2.2.2.2.2.1 := by
  have b2 := run_bz_4 ti xa it vs se rs wk n2 (j + 4) 1000000000 hb
  have r2 := fun p (hp : p < n2) => rM_4 (t := 1000000000) (it := it) (vs := vs) (se := se) (rs := rs) (wk := wk) hn2 hL2 hO2 p hp (fun z hz => Int32.not_lt.mp (hO2.2.1 z (by omega)).2)
  have b1 := run_bz_4 ti xa (f_Mo_run_4 ti xa it vs se rs wk n2 (j + 4) 1000000000).2.1 (f_Mo_run_4 ti xa it vs se rs wk n2 (j + 4) 1000000000).2.2.1 (f_Mo_run_4 ti xa it vs se rs wk n2 (j + 4) 1000000000).2.2.2.1 (f_Mo_run_4 ti xa it vs se rs wk n2 (j + 4) 1000000000).2.2.2.2.2.1 (f_Mo_run_4 ti xa it vs se rs wk n2 (j + 4) 1000000000).2.2.2.2.2.2 n j 1000000000 b2
  have r1 := fun p (hp : p < n) => rM_4 (t := 1000000000) (it := (f_Mo_run_4 ti xa it vs se rs wk n2 (j + 4) 1000000000).2.1) (vs := (f_Mo_run_4 ti xa it vs se rs wk n2 (j + 4) 1000000000).2.2.1) (se := (f_Mo_run_4 ti xa it vs se rs wk n2 (j + 4) 1000000000).2.2.2.1) (rs := (f_Mo_run_4 ti xa it vs se rs wk n2 (j + 4) 1000000000).2.2.2.2.2.1) (wk := (f_Mo_run_4 ti xa it vs se rs wk n2 (j + 4) 1000000000).2.2.2.2.2.2) hn hL hO p hp (fun z hz => Int32.not_lt.mp (hO.2.1 z (by omega)).2)
  have e := fcg0_4 kn ti xa n n2 j t u 32 0 (f_Mo_run_4 ti xa it vs se rs wk n2 (j + 4) 1000000000).1 (f_Mo_run_4 ti xa it vs se rs wk n2 (j + 4) 1000000000).2.1 (f_Mo_run_4 ti xa it vs se rs wk n2 (j + 4) 1000000000).2.2.1 (f_Mo_run_4 ti xa it vs se rs wk n2 (j + 4) 1000000000).2.2.2.1 (f_Mo_run_4 ti xa it vs se rs wk n2 (j + 4) 1000000000).2.2.2.2.1 (f_Mo_run_4 ti xa it vs se rs wk n2 (j + 4) 1000000000).2.2.2.2.2.1 (f_Mo_run_4 ti xa it vs se rs wk n2 (j + 4) 1000000000).2.2.2.2.2.2 ors owk
  have e : f_Mo_firstChange_4 kn ti xa it vs se rs wk ors owk n n2 j t u = _ := e
  rw [e, fcg1_4]
  refine ⟨fc_ok hO.1 hO2.1 hn hn2 hO.2.1 hO2.2.1 hL.mo hL2.mo r1 (fun p hp => ?_) hu, rfl, b1⟩
  rw [cpfL_at, cpf_at, if_pos (by omega), if_pos (by omega)]
  exact r2 p hp
theorem effg_5 (kn ti : Nat → Int32) (j : Nat) (t u : Int32) : ∀ (k i c9 : Nat) (mc : Int32) (it vs se : Nat → Int32) (sm : Int64) (rs : Nat → Int64) (wk : Nat → Int32), g_Mo_effective_5_29 kn ti j t u k i c9 mc it vs se sm rs wk = (cem ti wk (32 * j) t u k i c9, (f_Mo_lacksTwo kn j t u).2, mc, it, vs, se, sm, rs, wk) := by
  intro k
  induction k with
  | zero => intro i c9 mc it vs se sm rs wk; rfl
  | succ k ih =>
    intro i c9 mc it vs se sm rs wk
    unfold g_Mo_effective_5_29 cem
    by_cases h1 : ti (32 * j + i) < t
    · rw [if_pos h1, if_pos h1]; exact ih _ _ _ _ _ _ _ _ _
    · rw [if_neg h1, if_neg h1]
      by_cases h2 : u < ti (32 * j + i)
      · rw [if_pos h2, if_pos h2]; exact ih _ _ _ _ _ _ _ _ _
      · rw [if_neg h2, if_neg h2]
        by_cases h3 : wk i = 0
        · rw [if_pos h3, if_pos h3]; exact ih _ _ _ _ _ _ _ _ _
        · rw [if_neg h3, if_neg h3]; exact ih _ _ _ _ _ _ _ _ _
theorem pq_effective_5 {mo na aa bb kn ti nm xa xb : Nat → Int32} {n j : Nat} {t u : Int32} {it vs se : Nat → Int32} {rs : Nat → Int64} {wk : Nat → Int32} {re : Nat → Int64} {ef : Nat → Int32} (hn : n ≤ 32) (hL : LEq n mo na aa bb ti nm xa xb (32 * j)) (hO : LOK 5 n mo na aa bb re ef) (hb : bz wk) : (f_Mo_effective_5 kn ti xa xb it vs se rs wk n j t u).1 = cef mo ef u (n - pfr mo t n 0) (pfr mo t n 0) ∧ (f_Mo_effective_5 kn ti xa xb it vs se rs wk n j t u).2.1 = (f_Mo_lacksTwo kn j t u).2 ∧ bz (f_Mo_effective_5 kn ti xa xb it vs se rs wk n j t u).2.2.2.2.2.2.2.2 := by
  have e := effg_5 kn ti j t u n 0 0 (f_Mo_run_5 ti xa xb it vs se rs wk n j u).1 (f_Mo_run_5 ti xa xb it vs se rs wk n j u).2.1 (f_Mo_run_5 ti xa xb it vs se rs wk n j u).2.2.1 (f_Mo_run_5 ti xa xb it vs se rs wk n j u).2.2.2.1 (f_Mo_run_5 ti xa xb it vs se rs wk n j u).2.2.2.2.1 (f_Mo_run_5 ti xa xb it vs se rs wk n j u).2.2.2.2.2.1 (f_Mo_run_5 ti xa xb it vs se rs wk n j u).2.2.2.2.2.2
  have e : f_Mo_effective_5 kn ti xa xb it vs se rs wk n j t u = _ := e
  rw [e]
  exact ⟨cem_ok hO.1 hL.mo (fun p hp hz => (rM_5 hn hL hO p hp hz).2), rfl, run_bz_5 _ _ _ _ _ _ _ _ _ _ _ hb⟩
theorem fcg2_5 (kn ti : Nat → Int32) (n j : Nat) (t u : Int32) : ∀ (k i : Nat) (be : Int32) (mc : Int32) (it vs se : Nat → Int32) (sm : Int64) (rs : Nat → Int64) (wk : Nat → Int32) (ors : Nat → Int64) (owk : Nat → Int32), g_Mo_firstChange_5_227 kn ti n j t u k i be mc it vs se sm rs wk ors owk = (fc2 ti n j t u k i be, (f_Mo_lacksTwo kn j t u).2, mc, it, vs, se, sm, rs, wk, ors, owk) := by
  intro k
  induction k with
  | zero => intro i be mc it vs se sm rs wk ors owk; rfl
  | succ k ih =>
    intro i be mc it vs se sm rs wk ors owk
    unfold g_Mo_firstChange_5_227 fc2 fcw
    by_cases h1 : ¬ (f_Mo_find ti n j (ti (32 * (j + 4) + i))) = -1
    · rw [if_pos h1, if_pos h1]; exact ih _ _ _ _ _ _ _ _ _ _ _
    · rw [if_neg h1, if_neg h1]
      by_cases h2 : ti (32 * (j + 4) + i) < t
      · rw [if_pos h2, if_pos h2]; exact ih _ _ _ _ _ _ _ _ _ _ _
      · rw [if_neg h2, if_neg h2]
        by_cases h3 : u < ti (32 * (j + 4) + i)
        · rw [if_pos h3, if_pos h3]; exact ih _ _ _ _ _ _ _ _ _ _ _
        · rw [if_neg h3, if_neg h3]
          by_cases h4 : be = 0
          · rw [if_pos h4, if_pos h4]; exact ih _ _ _ _ _ _ _ _ _ _ _
          · rw [if_neg h4, if_neg h4]
            by_cases h5 : be ≤ ti (32 * (j + 4) + i)
            · rw [if_pos h5, if_pos h5]; exact ih _ _ _ _ _ _ _ _ _ _ _
            · rw [if_neg h5, if_neg h5]; exact ih _ _ _ _ _ _ _ _ _ _ _
theorem fcg1_5 (kn ti : Nat → Int32) (n n2 j : Nat) (t u : Int32) : ∀ (k i : Nat) (be : Int32) (mc : Int32) (it vs se : Nat → Int32) (sm : Int64) (rs : Nat → Int64) (wk : Nat → Int32) (ors : Nat → Int64) (owk : Nat → Int32), g_Mo_firstChange_5_97 kn ti n n2 j t u k i be mc it vs se sm rs wk ors owk = (fc2 ti n j t u n2 0 (fc1 ti n2 j t u rs wk ors owk k i be), (f_Mo_lacksTwo kn j t u).2, mc, it, vs, se, sm, rs, wk, ors, owk) := by
  intro k
  induction k with
  | zero => intro i be mc it vs se sm rs wk ors owk; exact fcg2_5 _ _ _ _ _ _ _ _ _ _ _ _ _ _ _ _ _ _
  | succ k ih =>
    intro i be mc it vs se sm rs wk ors owk
    unfold g_Mo_firstChange_5_97 fc1 fcw
    by_cases h1 : ¬ (f_Mo_find ti n2 (j + 4) (ti (32 * j + i))) = -1
    · rw [if_pos h1, if_pos h1]
      by_cases h2 : (lg_cmp (ors ((f_Mo_find ti n2 (j + 4) (ti (32 * j + i))).toNatClampNeg)) (rs i)) = 0
      · rw [if_pos h2, if_pos h2]
        by_cases h3 : (owk ((f_Mo_find ti n2 (j + 4) (ti (32 * j + i))).toNatClampNeg)) = (wk i)
        · rw [if_pos h3, if_pos h3]; exact ih _ _ _ _ _ _ _ _ _ _ _
        · rw [if_neg h3, if_neg h3]
          by_cases k2 : ti (32 * j + i) < t
          · rw [if_pos k2, if_pos k2]; exact ih _ _ _ _ _ _ _ _ _ _ _
          · rw [if_neg k2, if_neg k2]
            by_cases k3 : u < ti (32 * j + i)
            · rw [if_pos k3, if_pos k3]; exact ih _ _ _ _ _ _ _ _ _ _ _
            · rw [if_neg k3, if_neg k3]
              by_cases k4 : be = 0
              · rw [if_pos k4, if_pos k4]; exact ih _ _ _ _ _ _ _ _ _ _ _
              · rw [if_neg k4, if_neg k4]
                by_cases k5 : be ≤ ti (32 * j + i)
                · rw [if_pos k5, if_pos k5]; exact ih _ _ _ _ _ _ _ _ _ _ _
                · rw [if_neg k5, if_neg k5]; exact ih _ _ _ _ _ _ _ _ _ _ _
      · rw [if_neg h2, if_neg h2]
        by_cases k2 : ti (32 * j + i) < t
        · rw [if_pos k2, if_pos k2]; exact ih _ _ _ _ _ _ _ _ _ _ _
        · rw [if_neg k2, if_neg k2]
          by_cases k3 : u < ti (32 * j + i)
          · rw [if_pos k3, if_pos k3]; exact ih _ _ _ _ _ _ _ _ _ _ _
          · rw [if_neg k3, if_neg k3]
            by_cases k4 : be = 0
            · rw [if_pos k4, if_pos k4]; exact ih _ _ _ _ _ _ _ _ _ _ _
            · rw [if_neg k4, if_neg k4]
              by_cases k5 : be ≤ ti (32 * j + i)
              · rw [if_pos k5, if_pos k5]; exact ih _ _ _ _ _ _ _ _ _ _ _
              · rw [if_neg k5, if_neg k5]; exact ih _ _ _ _ _ _ _ _ _ _ _
    · rw [if_neg h1, if_neg h1]
      by_cases k2 : ti (32 * j + i) < t
      · rw [if_pos k2, if_pos k2]; exact ih _ _ _ _ _ _ _ _ _ _ _
      · rw [if_neg k2, if_neg k2]
        by_cases k3 : u < ti (32 * j + i)
        · rw [if_pos k3, if_pos k3]; exact ih _ _ _ _ _ _ _ _ _ _ _
        · rw [if_neg k3, if_neg k3]
          by_cases k4 : be = 0
          · rw [if_pos k4, if_pos k4]; exact ih _ _ _ _ _ _ _ _ _ _ _
          · rw [if_neg k4, if_neg k4]
            by_cases k5 : be ≤ ti (32 * j + i)
            · rw [if_pos k5, if_pos k5]; exact ih _ _ _ _ _ _ _ _ _ _ _
            · rw [if_neg k5, if_neg k5]; exact ih _ _ _ _ _ _ _ _ _ _ _
theorem fcg0_5 (kn ti xa xb : Nat → Int32) (n n2 j : Nat) (t u : Int32) : ∀ (k i : Nat) (mc : Int32) (it vs se : Nat → Int32) (sm : Int64) (rs : Nat → Int64) (wk : Nat → Int32) (ors : Nat → Int64) (owk : Nat → Int32), g_Mo_firstChange_5_38 kn ti xa xb n n2 j t u k i mc it vs se sm rs wk ors owk = g_Mo_firstChange_5_97 kn ti n n2 j t u n 0 0 (f_Mo_run_5 ti xa xb it vs se rs wk n j 1000000000).1 (f_Mo_run_5 ti xa xb it vs se rs wk n j 1000000000).2.1 (f_Mo_run_5 ti xa xb it vs se rs wk n j 1000000000).2.2.1 (f_Mo_run_5 ti xa xb it vs se rs wk n j 1000000000).2.2.2.1 (f_Mo_run_5 ti xa xb it vs se rs wk n j 1000000000).2.2.2.2.1 (f_Mo_run_5 ti xa xb it vs se rs wk n j 1000000000).2.2.2.2.2.1 (f_Mo_run_5 ti xa xb it vs se rs wk n j 1000000000).2.2.2.2.2.2 (cpfL ors rs k i) (cpf owk wk k i) := by
  intro k
  induction k with
  | zero => intro i mc it vs se sm rs wk ors owk; rfl
  | succ k ih => intro i mc it vs se sm rs wk ors owk; exact ih _ _ _ _ _ _ _ _ _ _
theorem pq_firstChange_5 {mo na aa bb kn ti nm xa xb : Nat → Int32} {n j : Nat} {t u : Int32} {it vs se : Nat → Int32} {rs : Nat → Int64} {wk : Nat → Int32} {n2 : Nat} {mo2 na2 aa2 bb2 ef ef2 owk : Nat → Int32} {re re2 ors : Nat → Int64} (hn : n ≤ 32) (hn2 : n2 ≤ 32) (hL : LEq n mo na aa bb ti nm xa xb (32 * j)) (hL2 : LEq n2 mo2 na2 aa2 bb2 ti nm xa xb (32 * (j + 4))) (hO : LOK 5 n mo na aa bb re ef) (hO2 : LOK 5 n2 mo2 na2 aa2 bb2 re2 ef2) (hb : bz wk) (hu : okM u) : (f_Mo_firstChange_5 kn ti xa xb it vs se rs wk ors owk n n2 j t u).1 = (if u < f_Li_firstDifference n mo re ef n2 mo2 re2 ef2 t then 0 else f_Li_firstDifference n mo re ef n2 mo2 re2 ef2 t) ∧ (f_Mo_firstChange_5 kn ti xa xb it vs se rs wk ors owk n n2 j t u).2.1 = (f_Mo_lacksTwo kn j t u).2 ∧ bz (f_Mo_firstChange_5 kn ti xa xb it vs se rs wk ors owk n n2 j t u).2.2.2.2.2.2.2.2.1 := by
  have b2 := run_bz_5 ti xa xb it vs se rs wk n2 (j + 4) 1000000000 hb
  have r2 := fun p (hp : p < n2) => rM_5 (t := 1000000000) (it := it) (vs := vs) (se := se) (rs := rs) (wk := wk) hn2 hL2 hO2 p hp (fun z hz => Int32.not_lt.mp (hO2.2.1 z (by omega)).2)
  have b1 := run_bz_5 ti xa xb (f_Mo_run_5 ti xa xb it vs se rs wk n2 (j + 4) 1000000000).2.1 (f_Mo_run_5 ti xa xb it vs se rs wk n2 (j + 4) 1000000000).2.2.1 (f_Mo_run_5 ti xa xb it vs se rs wk n2 (j + 4) 1000000000).2.2.2.1 (f_Mo_run_5 ti xa xb it vs se rs wk n2 (j + 4) 1000000000).2.2.2.2.2.1 (f_Mo_run_5 ti xa xb it vs se rs wk n2 (j + 4) 1000000000).2.2.2.2.2.2 n j 1000000000 b2
  have r1 := fun p (hp : p < n) => rM_5 (t := 1000000000) (it := (f_Mo_run_5 ti xa xb it vs se rs wk n2 (j + 4) 1000000000).2.1) (vs := (f_Mo_run_5 ti xa xb it vs se rs wk n2 (j + 4) 1000000000).2.2.1) (se := (f_Mo_run_5 ti xa xb it vs se rs wk n2 (j + 4) 1000000000).2.2.2.1) (rs := (f_Mo_run_5 ti xa xb it vs se rs wk n2 (j + 4) 1000000000).2.2.2.2.2.1) (wk := (f_Mo_run_5 ti xa xb it vs se rs wk n2 (j + 4) 1000000000).2.2.2.2.2.2) hn hL hO p hp (fun z hz => Int32.not_lt.mp (hO.2.1 z (by omega)).2)
  have e := fcg0_5 kn ti xa xb n n2 j t u 32 0 (f_Mo_run_5 ti xa xb it vs se rs wk n2 (j + 4) 1000000000).1 (f_Mo_run_5 ti xa xb it vs se rs wk n2 (j + 4) 1000000000).2.1 (f_Mo_run_5 ti xa xb it vs se rs wk n2 (j + 4) 1000000000).2.2.1 (f_Mo_run_5 ti xa xb it vs se rs wk n2 (j + 4) 1000000000).2.2.2.1 (f_Mo_run_5 ti xa xb it vs se rs wk n2 (j + 4) 1000000000).2.2.2.2.1 (f_Mo_run_5 ti xa xb it vs se rs wk n2 (j + 4) 1000000000).2.2.2.2.2.1 (f_Mo_run_5 ti xa xb it vs se rs wk n2 (j + 4) 1000000000).2.2.2.2.2.2 ors owk
  have e : f_Mo_firstChange_5 kn ti xa xb it vs se rs wk ors owk n n2 j t u = _ := e
  rw [e, fcg1_5]
  refine ⟨fc_ok hO.1 hO2.1 hn hn2 hO.2.1 hO2.2.1 hL.mo hL2.mo r1 (fun p hp => ?_) hu, rfl, b1⟩
  rw [cpfL_at, cpf_at, if_pos (by omega), if_pos (by omega)]
  exact r2 p hp
theorem fd_00 {mo mo2 ef ef2 : Nat → Int32} {re re2 : Nat → Int64} {t : Int32} : f_Li_firstDifference 0 mo re ef 0 mo2 re2 ef2 t = 1000000001 := by
  unfold f_Li_firstDifference
  show g_Li_firstDifference_13 0 mo re ef 0 mo2 re2 ef2 0 0 0 = _
  unfold g_Li_firstDifference_13
  rw [if_neg (Nat.lt_irrefl 0), if_neg (Nat.lt_irrefl 0), if_neg Int32.lt_irrefl]
theorem fin_effective {l : Launch} {D : va_G} {cI cJ cZ cO : ClassId} {o : Nat} {C : Nat → CoT} {H : Heap} {M : MT} (hI : Inv C M) {a0 a1 a2 : Int32} {kap : Nat} {r r1 : Int32} {c : Int32} (hk : kap ≤ 2) (hcs : CS l D cI cJ cZ cO o y_EP_effective k_EP_effective rx_EP_effective [.ref o, .int a0, .int a1, .int a2] E_NSE (some (.int r)) kap C H) (hm : MqS l D cI cJ cZ cO (o + 74) y_Md_effective k_Md_effective rm_Md_effective [.ref (o + 74), .int a0, .int a1, .int a2] (some (.int r1)) c M) (hc : c = nI kap) (he : kap = 0 → r = r1) : OP_effective l D cI cJ cZ cO o Inv M H a0 a1 a2 := by
  obtain ⟨ma1, it1, vs1, se1, sm1, rs1, wk1, ors1, owk1, hb, hM⟩ := hm
  exact ⟨kap, r, r1, C, _, hk, hcs, hM, hc, he, hb, hI.2⟩
theorem op_effective (l : Launch) (hlt : l.stackTraces = false) (D : va_G) (cI cJ cZ cO : ClassId) (o : Nat) (C : Nat → CoT) (q : ScT) (H : Heap) (hq : PCq D cI cJ cZ cO o C q H) (M : MT) (hI : Inv C M) (id t u : Int32) : OP_effective l D cI cJ cZ cO o Inv M H id t u := by
  obtain ⟨code, kn, ed, ct, ti, nm, xa, xb, ma, it, vs, se, sm, rs, wk, ors, owk⟩ := M
  have hb : bz wk := hI.1
  by_cases hid : okI id
  · obtain ⟨j, hj, rfl⟩ := okI_of hid
    rcases hc : C j with ⟨kd, ⟨n, mo, na, aa, bb, re, ef⟩, n2, mo2, na2, aa2, bb2, re2, ef2⟩
    have hJ : IJ j (C j) kn ed ct ti nm xa xb := hI.2 j hj
    rw [hc] at hJ
    obtain ⟨hn, hn2, hz, hct, hct2, hJ⟩ := IJ_el hJ
    have hme : ∀ c : Int32, f_Mo_lacksTwo kn j t u = (1, c) → MqS l D cI cJ cZ cO (o + 74) y_Md_effective k_Md_effective rm_Md_effective [.ref (o + 74), .int (nI j), .int t, .int u] (some (.int 0)) c (code, kn, ed, ct, ti, nm, xa, xb, ma, it, vs, se, sm, rs, wk, ors, owk) := fun c h => ⟨ma, it, vs, se, sm, rs, wk, ors, owk, hb, m_Mo_effective_e l D cI cJ cZ cO (o + 74) code kn ed ct ti nm xa xb ma it vs se sm rs wk ors owk j t u hj (by rw [h]; show ¬ (1 : Int32) = 0; decide) c (by show (f_Mo_lacksTwo kn j t u).2 = c; rw [h])⟩
    by_cases ht : okM t ∧ okM u
    · rcases hJ with ⟨rfl, hk0⟩ | ⟨K, hK, rfl, hkn, hL, hL2, hO, hO2, hed⟩
      · have e : (f_EP_effective_c t u).1 = 2 := by unfold f_EP_effective_c; rw [if_pos ht.1, if_pos ht.2]
        exact fin_effective hI (by omega) (cs_effective_c l hlt D cI cJ cZ cO o C q H hq j n mo na aa bb re ef n2 mo2 na2 aa2 bb2 re2 ef2 t u hj hc) (hme 2 (ltw_2 ht.1 ht.2 hk0)) (by rw [e]; rfl) (fun h => absurd h (by omega))
      · have hlt2 := ltw_0 (t := t) (u := u) ht.1 ht.2 (kn_ne hK hkn)
        have hlk : (f_Mo_lacksTwo kn j t u).1 = 0 := by rw [hlt2]
        have hkd : ¬ nI K = -1 := nI_ne_m1 (by omega)
        have e : f_EP_effective n mo ef t u = (0, cef mo ef u (n - pfr mo t n 0) (pfr mo t n 0)) := by unfold f_EP_effective; rw [if_pos ht.1, if_pos ht.2]
        rcases (show K = 0 ∨ K = 1 ∨ K = 2 ∨ K = 3 ∨ K = 4 ∨ K = 5 by omega) with rfl | rfl | rfl | rfl | rfl | rfl
        · obtain ⟨p1, p2, p4⟩ := pq_effective_0 (t := t) (u := u) (it := it) (vs := vs) (se := se) (rs := rs) (kn := kn) hn hL hO hb
          exact fin_effective hI (by rw [e]; exact Nat.zero_le _) (cs_effective l hlt D cI cJ cZ cO o C q H hq j _ n mo na aa bb re ef n2 mo2 na2 aa2 bb2 re2 ef2 t u hj hkd hn hc) ⟨_, _, _, _, _, _, _, _, _, p4, m_Mo_effective_0 l D cI cJ cZ cO (o + 74) code kn ed ct ti nm xa xb ma it vs se sm rs wk ors owk n j t u hj hlk hkn hct hn _ rfl⟩ (p2.trans (by rw [hlt2, e]; rfl)) (fun _ => by rw [e]; exact congrArg nI p1.symm)
        · obtain ⟨p1, p2, p4⟩ := pq_effective_1 (t := t) (u := u) (it := it) (vs := vs) (se := se) (rs := rs) (kn := kn) hn hL hO hb
          exact fin_effective hI (by rw [e]; exact Nat.zero_le _) (cs_effective l hlt D cI cJ cZ cO o C q H hq j _ n mo na aa bb re ef n2 mo2 na2 aa2 bb2 re2 ef2 t u hj hkd hn hc) ⟨_, _, _, _, _, _, _, _, _, p4, m_Mo_effective_1 l D cI cJ cZ cO (o + 74) code kn ed ct ti nm xa xb ma it vs se sm rs wk ors owk n j t u hj hlk hkn hct hn _ rfl⟩ (p2.trans (by rw [hlt2, e]; rfl)) (fun _ => by rw [e]; exact congrArg nI p1.symm)
        · obtain ⟨p1, p2, p4⟩ := pq_effective_2 (t := t) (u := u) (it := it) (vs := vs) (se := se) (rs := rs) (kn := kn) hn hL hO hb
          exact fin_effective hI (by rw [e]; exact Nat.zero_le _) (cs_effective l hlt D cI cJ cZ cO o C q H hq j _ n mo na aa bb re ef n2 mo2 na2 aa2 bb2 re2 ef2 t u hj hkd hn hc) ⟨_, _, _, _, _, _, _, _, _, p4, m_Mo_effective_2 l D cI cJ cZ cO (o + 74) code kn ed ct ti nm xa xb ma it vs se sm rs wk ors owk n j t u hj hlk hkn hct hn _ rfl⟩ (p2.trans (by rw [hlt2, e]; rfl)) (fun _ => by rw [e]; exact congrArg nI p1.symm)
        · obtain ⟨p1, p2, p4⟩ := pq_effective_3 (t := t) (u := u) (it := it) (vs := vs) (se := se) (rs := rs) (kn := kn) hn hL hO hb
          exact fin_effective hI (by rw [e]; exact Nat.zero_le _) (cs_effective l hlt D cI cJ cZ cO o C q H hq j _ n mo na aa bb re ef n2 mo2 na2 aa2 bb2 re2 ef2 t u hj hkd hn hc) ⟨_, _, _, _, _, _, _, _, _, p4, m_Mo_effective_3 l D cI cJ cZ cO (o + 74) code kn ed ct ti nm xa xb ma it vs se sm rs wk ors owk n j t u hj hlk hkn hct hn _ rfl⟩ (p2.trans (by rw [hlt2, e]; rfl)) (fun _ => by rw [e]; exact congrArg nI p1.symm)
        · obtain ⟨p1, p2, p4⟩ := pq_effective_4 (t := t) (u := u) (it := it) (vs := vs) (se := se) (rs := rs) (kn := kn) hn hL hO hb
          exact fin_effective hI (by rw [e]; exact Nat.zero_le _) (cs_effective l hlt D cI cJ cZ cO o C q H hq j _ n mo na aa bb re ef n2 mo2 na2 aa2 bb2 re2 ef2 t u hj hkd hn hc) ⟨_, _, _, _, _, _, _, _, _, p4, m_Mo_effective_4 l D cI cJ cZ cO (o + 74) code kn ed ct ti nm xa xb ma it vs se sm rs wk ors owk n j t u hj hlk hkn hct hn _ rfl⟩ (p2.trans (by rw [hlt2, e]; rfl)) (fun _ => by rw [e]; exact congrArg nI p1.symm)
        · obtain ⟨p1, p2, p4⟩ := pq_effective_5 (t := t) (u := u) (it := it) (vs := vs) (se := se) (rs := rs) (kn := kn) hn hL hO hb
          exact fin_effective hI (by rw [e]; exact Nat.zero_le _) (cs_effective l hlt D cI cJ cZ cO o C q H hq j _ n mo na aa bb re ef n2 mo2 na2 aa2 bb2 re2 ef2 t u hj hkd hn hc) ⟨_, _, _, _, _, _, _, _, _, p4, m_Mo_effective_5 l D cI cJ cZ cO (o + 74) code kn ed ct ti nm xa xb ma it vs se sm rs wk ors owk n j t u hj hlk hkn hct hn (hop_m hO hL rfl) _ rfl⟩ (p2.trans (by rw [hlt2, e]; rfl)) (fun _ => by rw [e]; exact congrArg nI p1.symm)
    · rcases hJ with ⟨rfl, hk0⟩ | ⟨K, hK, rfl, hkn, hL, hL2, hO, hO2, hed⟩
      · have e : (f_EP_effective_c t u).1 = 1 := by
          unfold f_EP_effective_c
          by_cases h1 : okM t
          · rw [if_pos h1, if_neg (fun h2 => ht ⟨h1, h2⟩)]
          · rw [if_neg h1]
        exact fin_effective hI (by omega) (cs_effective_c l hlt D cI cJ cZ cO o C q H hq j n mo na aa bb re ef n2 mo2 na2 aa2 bb2 re2 ef2 t u hj hc) (hme 1 (ltw_1 ht)) (by rw [e]; rfl) (fun h => absurd h (by omega))
      · have hkd : ¬ nI K = -1 := nI_ne_m1 (by omega)
        have e : (f_EP_effective n mo ef t u).1 = 1 := by
          unfold f_EP_effective
          by_cases h1 : okM t
          · rw [if_pos h1, if_neg (fun h2 => ht ⟨h1, h2⟩)]
          · rw [if_neg h1]
        exact fin_effective hI (by omega) (cs_effective l hlt D cI cJ cZ cO o C q H hq j _ n mo na aa bb re ef n2 mo2 na2 aa2 bb2 re2 ef2 t u hj hkd hn hc) (hme 1 (ltw_1 ht)) (by rw [e]; rfl) (fun h => absurd h (by omega))
  · have e : (f_EP_effective_b t u).1 = 1 := by
      unfold f_EP_effective_b
      split
      · split <;> rfl
      · rfl
    exact fin_effective hI (by omega) (cs_effective_b l hlt D cI cJ cZ cO o C q H hq id t u hid) ⟨ma, it, vs, se, sm, rs, wk, ors, owk, hb, m_Mo_effective_b l D cI cJ cZ cO (o + 74) code kn ed ct ti nm xa xb ma it vs se sm rs wk ors owk id t u hid 1 rfl⟩ (by rw [e]; rfl) (fun h => absurd h (by omega))
theorem fin_firstChange {l : Launch} {D : va_G} {cI cJ cZ cO : ClassId} {o : Nat} {C : Nat → CoT} {H : Heap} {M : MT} (hI : Inv C M) {a0 a1 a2 : Int32} {kap : Nat} {r r1 : Int32} {c : Int32} (hk : kap ≤ 2) (hcs : CS l D cI cJ cZ cO o y_EP_firstChange k_EP_firstChange rx_EP_firstChange [.ref o, .int a0, .int a1, .int a2] E_NSE (some (.int r)) kap C H) (hm : MqS l D cI cJ cZ cO (o + 74) y_Md_firstChange k_Md_firstChange rm_Md_firstChange [.ref (o + 74), .int a0, .int a1, .int a2] (some (.int r1)) c M) (hc : c = nI kap) (he : kap = 0 → r = r1) : OP_firstChange l D cI cJ cZ cO o Inv M H a0 a1 a2 := by
  obtain ⟨ma1, it1, vs1, se1, sm1, rs1, wk1, ors1, owk1, hb, hM⟩ := hm
  exact ⟨kap, r, r1, C, _, hk, hcs, hM, hc, he, hb, hI.2⟩
theorem op_firstChange (l : Launch) (hlt : l.stackTraces = false) (D : va_G) (cI cJ cZ cO : ClassId) (o : Nat) (C : Nat → CoT) (q : ScT) (H : Heap) (hq : PCq D cI cJ cZ cO o C q H) (M : MT) (hI : Inv C M) (id t u : Int32) : OP_firstChange l D cI cJ cZ cO o Inv M H id t u := by
  obtain ⟨code, kn, ed, ct, ti, nm, xa, xb, ma, it, vs, se, sm, rs, wk, ors, owk⟩ := M
  have hb : bz wk := hI.1
  by_cases hid : okI id
  · obtain ⟨j, hj, rfl⟩ := okI_of hid
    rcases hc : C j with ⟨kd, ⟨n, mo, na, aa, bb, re, ef⟩, n2, mo2, na2, aa2, bb2, re2, ef2⟩
    have hJ : IJ j (C j) kn ed ct ti nm xa xb := hI.2 j hj
    rw [hc] at hJ
    obtain ⟨hn, hn2, hz, hct, hct2, hJ⟩ := IJ_el hJ
    have hme : ∀ c : Int32, f_Mo_lacksTwo kn j t u = (1, c) → MqS l D cI cJ cZ cO (o + 74) y_Md_firstChange k_Md_firstChange rm_Md_firstChange [.ref (o + 74), .int (nI j), .int t, .int u] (some (.int 0)) c (code, kn, ed, ct, ti, nm, xa, xb, ma, it, vs, se, sm, rs, wk, ors, owk) := fun c h => ⟨ma, it, vs, se, sm, rs, wk, ors, owk, hb, m_Mo_firstChange_e l D cI cJ cZ cO (o + 74) code kn ed ct ti nm xa xb ma it vs se sm rs wk ors owk j t u hj (by rw [h]; show ¬ (1 : Int32) = 0; decide) c (by show (f_Mo_lacksTwo kn j t u).2 = c; rw [h])⟩
    by_cases ht : okM t ∧ okM u
    · rcases hJ with ⟨rfl, hk0⟩ | ⟨K, hK, rfl, hkn, hL, hL2, hO, hO2, hed⟩
      · have e : (f_EP_firstChange_c t u).1 = 2 := by unfold f_EP_firstChange_c; rw [if_pos ht.1, if_pos ht.2]
        exact fin_firstChange hI (by omega) (cs_firstChange_c l hlt D cI cJ cZ cO o C q H hq j n mo na aa bb re ef n2 mo2 na2 aa2 bb2 re2 ef2 t u hj hc) (hme 2 (ltw_2 ht.1 ht.2 hk0)) (by rw [e]; rfl) (fun h => absurd h (by omega))
      · have hlt2 := ltw_0 (t := t) (u := u) ht.1 ht.2 (kn_ne hK hkn)
        have hlk : (f_Mo_lacksTwo kn j t u).1 = 0 := by rw [hlt2]
        have hkd : ¬ nI K = -1 := nI_ne_m1 (by omega)
        have e : f_EP_firstChange n mo re ef n2 mo2 re2 ef2 t u = (0, if u < f_Li_firstDifference n mo re ef n2 mo2 re2 ef2 t then 0 else f_Li_firstDifference n mo re ef n2 mo2 re2 ef2 t) := by
          unfold f_EP_firstChange
          rw [if_pos ht.1, if_pos ht.2]
          split <;> rfl
        by_cases hed0 : ed j = 0
        · obtain ⟨z1, z2⟩ := hed hed0
          have e1 : f_Li_firstDifference n mo re ef n2 mo2 re2 ef2 t = 1000000001 := by rw [z1, z2]; exact fd_00
          have e2 : u < 1000000001 := never_gt ht.2
          rw [e1, if_pos e2] at e
          exact fin_firstChange hI (by rw [e]; decide) (cs_firstChange l hlt D cI cJ cZ cO o C q H hq j _ n mo na aa bb re ef n2 mo2 na2 aa2 bb2 re2 ef2 t u hj hkd hn hn2 hc) ⟨ma, it, vs, se, sm, rs, wk, ors, owk, hb, m_Mo_firstChange_n l D cI cJ cZ cO (o + 74) code kn ed ct ti nm xa xb ma it vs se sm rs wk ors owk j t u hj hlk hed0 _ rfl⟩ (by rw [e]; show (f_Mo_lacksTwo kn j t u).2 = _; rw [hlt2]; rfl) (fun _ => by rw [e])
        rcases (show K = 0 ∨ K = 1 ∨ K = 2 ∨ K = 3 ∨ K = 4 ∨ K = 5 by omega) with rfl | rfl | rfl | rfl | rfl | rfl
        · obtain ⟨p1, p2, p4⟩ := pq_firstChange_0 (t := t) (ors := ors) (owk := owk) (it := it) (vs := vs) (se := se) (rs := rs) (kn := kn) hn hn2 hL hL2 hO hO2 hb ht.2
          exact fin_firstChange hI (by rw [e]; exact Nat.zero_le _) (cs_firstChange l hlt D cI cJ cZ cO o C q H hq j _ n mo na aa bb re ef n2 mo2 na2 aa2 bb2 re2 ef2 t u hj hkd hn hn2 hc) ⟨_, _, _, _, _, _, _, _, _, p4, m_Mo_firstChange_0 l D cI cJ cZ cO (o + 74) code kn ed ct ti nm xa xb ma it vs se sm rs wk ors owk n n2 j t u hj hlk hkn hct hn hct2 hn2 hb hed0 _ rfl⟩ (p2.trans (by rw [hlt2, e]; rfl)) (fun _ => by rw [e]; exact p1.symm)
        · obtain ⟨p1, p2, p4⟩ := pq_firstChange_1 (t := t) (ors := ors) (owk := owk) (it := it) (vs := vs) (se := se) (rs := rs) (kn := kn) hn hn2 hL hL2 hO hO2 hb ht.2
          exact fin_firstChange hI (by rw [e]; exact Nat.zero_le _) (cs_firstChange l hlt D cI cJ cZ cO o C q H hq j _ n mo na aa bb re ef n2 mo2 na2 aa2 bb2 re2 ef2 t u hj hkd hn hn2 hc) ⟨_, _, _, _, _, _, _, _, _, p4, m_Mo_firstChange_1 l D cI cJ cZ cO (o + 74) code kn ed ct ti nm xa xb ma it vs se sm rs wk ors owk n n2 j t u hj hlk hkn hct hn hct2 hn2 hb hed0 _ rfl⟩ (p2.trans (by rw [hlt2, e]; rfl)) (fun _ => by rw [e]; exact p1.symm)
        · obtain ⟨p1, p2, p4⟩ := pq_firstChange_2 (t := t) (ors := ors) (owk := owk) (it := it) (vs := vs) (se := se) (rs := rs) (kn := kn) hn hn2 hL hL2 hO hO2 hb ht.2
          exact fin_firstChange hI (by rw [e]; exact Nat.zero_le _) (cs_firstChange l hlt D cI cJ cZ cO o C q H hq j _ n mo na aa bb re ef n2 mo2 na2 aa2 bb2 re2 ef2 t u hj hkd hn hn2 hc) ⟨_, _, _, _, _, _, _, _, _, p4, m_Mo_firstChange_2 l D cI cJ cZ cO (o + 74) code kn ed ct ti nm xa xb ma it vs se sm rs wk ors owk n n2 j t u hj hlk hkn hct hn hct2 hn2 hb hed0 _ rfl⟩ (p2.trans (by rw [hlt2, e]; rfl)) (fun _ => by rw [e]; exact p1.symm)
        · obtain ⟨p1, p2, p4⟩ := pq_firstChange_3 (t := t) (ors := ors) (owk := owk) (it := it) (vs := vs) (se := se) (rs := rs) (kn := kn) hn hn2 hL hL2 hO hO2 hb ht.2
          exact fin_firstChange hI (by rw [e]; exact Nat.zero_le _) (cs_firstChange l hlt D cI cJ cZ cO o C q H hq j _ n mo na aa bb re ef n2 mo2 na2 aa2 bb2 re2 ef2 t u hj hkd hn hn2 hc) ⟨_, _, _, _, _, _, _, _, _, p4, m_Mo_firstChange_3 l D cI cJ cZ cO (o + 74) code kn ed ct ti nm xa xb ma it vs se sm rs wk ors owk n n2 j t u hj hlk hkn hct hn hct2 hn2 hb hed0 _ rfl⟩ (p2.trans (by rw [hlt2, e]; rfl)) (fun _ => by rw [e]; exact p1.symm)
        · obtain ⟨p1, p2, p4⟩ := pq_firstChange_4 (t := t) (ors := ors) (owk := owk) (it := it) (vs := vs) (se := se) (rs := rs) (kn := kn) hn hn2 hL hL2 hO hO2 hb ht.2
          exact fin_firstChange hI (by rw [e]; exact Nat.zero_le _) (cs_firstChange l hlt D cI cJ cZ cO o C q H hq j _ n mo na aa bb re ef n2 mo2 na2 aa2 bb2 re2 ef2 t u hj hkd hn hn2 hc) ⟨_, _, _, _, _, _, _, _, _, p4, m_Mo_firstChange_4 l D cI cJ cZ cO (o + 74) code kn ed ct ti nm xa xb ma it vs se sm rs wk ors owk n n2 j t u hj hlk hkn hct hn hct2 hn2 hb hed0 _ rfl⟩ (p2.trans (by rw [hlt2, e]; rfl)) (fun _ => by rw [e]; exact p1.symm)
        · obtain ⟨p1, p2, p4⟩ := pq_firstChange_5 (t := t) (ors := ors) (owk := owk) (it := it) (vs := vs) (se := se) (rs := rs) (kn := kn) hn hn2 hL hL2 hO hO2 hb ht.2
          exact fin_firstChange hI (by rw [e]; exact Nat.zero_le _) (cs_firstChange l hlt D cI cJ cZ cO o C q H hq j _ n mo na aa bb re ef n2 mo2 na2 aa2 bb2 re2 ef2 t u hj hkd hn hn2 hc) ⟨_, _, _, _, _, _, _, _, _, p4, m_Mo_firstChange_5 l D cI cJ cZ cO (o + 74) code kn ed ct ti nm xa xb ma it vs se sm rs wk ors owk n n2 j t u hj hlk hkn hct hn (hop_m hO hL rfl) hct2 hn2 hb hed0 (hop_m hO2 hL2 rfl) _ rfl⟩ (p2.trans (by rw [hlt2, e]; rfl)) (fun _ => by rw [e]; exact p1.symm)
    · rcases hJ with ⟨rfl, hk0⟩ | ⟨K, hK, rfl, hkn, hL, hL2, hO, hO2, hed⟩
      · have e : (f_EP_firstChange_c t u).1 = 1 := by
          unfold f_EP_firstChange_c
          by_cases h1 : okM t
          · rw [if_pos h1, if_neg (fun h2 => ht ⟨h1, h2⟩)]
          · rw [if_neg h1]
        exact fin_firstChange hI (by omega) (cs_firstChange_c l hlt D cI cJ cZ cO o C q H hq j n mo na aa bb re ef n2 mo2 na2 aa2 bb2 re2 ef2 t u hj hc) (hme 1 (ltw_1 ht)) (by rw [e]; rfl) (fun h => absurd h (by omega))
      · have hkd : ¬ nI K = -1 := nI_ne_m1 (by omega)
        have e : (f_EP_firstChange n mo re ef n2 mo2 re2 ef2 t u).1 = 1 := by
          unfold f_EP_firstChange
          by_cases h1 : okM t
          · rw [if_pos h1, if_neg (fun h2 => ht ⟨h1, h2⟩)]
          · rw [if_neg h1]
        exact fin_firstChange hI (by omega) (cs_firstChange l hlt D cI cJ cZ cO o C q H hq j _ n mo na aa bb re ef n2 mo2 na2 aa2 bb2 re2 ef2 t u hj hkd hn hn2 hc) (hme 1 (ltw_1 ht)) (by rw [e]; rfl) (fun h => absurd h (by omega))
  · have e : (f_EP_firstChange_b t u).1 = 1 := by
      unfold f_EP_firstChange_b
      split
      · split <;> rfl
      · rfl
    exact fin_firstChange hI (by omega) (cs_firstChange_b l hlt D cI cJ cZ cO o C q H hq id t u hid) ⟨ma, it, vs, se, sm, rs, wk, ors, owk, hb, m_Mo_firstChange_b l D cI cJ cZ cO (o + 74) code kn ed ct ti nm xa xb ma it vs se sm rs wk ors owk id t u hid 1 rfl⟩ (by rw [e]; rfl) (fun h => absurd h (by omega))
