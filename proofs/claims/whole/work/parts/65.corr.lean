/-! the class's runs against the reference's (by wip/whole/gen/corr.py) -/
theorem sal_at : ∀ (k i : Nat) (f : Nat → Int32) (q : Nat), sal k i f q = if i ≤ q ∧ q < i + k then nI q else f q := by
  intro k
  induction k with
  | zero => intro i f q; rw [if_neg (by omega)]; rfl
  | succ k ih =>
    intro i f q
    show sal k (i + 1) (upd f i (nI i)) q = _
    rw [ih]
    by_cases hq : q = i
    · subst hq
      rw [if_neg (by omega), upd_at, if_pos (by omega)]
    · rw [upd_ne _ _ hq]
      by_cases h : i + 1 ≤ q ∧ q < i + 1 + k
      · rw [if_pos h, if_pos (by omega)]
      · rw [if_neg h, if_neg (by omega)]
theorem RE_0 (ql se : Nat → Int32) : RE (16, sal 16 0 ql) (16, sal 16 0 se) := by
  have h1 := sal_at 16 0 ql
  have h2 := sal_at 16 0 se
  generalize sal 16 0 ql = A at h1
  generalize sal 16 0 se = B at h2
  refine ⟨rfl, fun a b ha hb => ?_⟩
  show A a = A b ↔ B a = B b
  rw [h1, h1, h2, h2, if_pos (by omega), if_pos (by omega), if_pos (by omega), if_pos (by omega)]
theorem corr_0 {mo na aa bb ti nm xa xb : Nat → Int32} {n j : Nat} {t : Int32} (it vs se : Nat → Int32) (rs : Nat → Int64) (wk : Nat → Int32) (qv : Nat → Int32) (qr : Int64) (qf : Int32) (hn : n ≤ 32) (hL : LEq n mo na aa bb ti nm xa xb (32 * j)) : RQ (rut (fun nm x _ => bgS 2 nm x) mo na aa bb t n 0 ((0, qv), qr, qf)).1 ((f_Mo_run_0 ti nm xa it vs se rs wk n j t).1, (f_Mo_run_0 ti nm xa it vs se rs wk n j t).2.1, (f_Mo_run_0 ti nm xa it vs se rs wk n j t).2.2.1) := by
  obtain ⟨se1, e⟩ := run23_0 ti nm xa xb it vs rs wk n j t 16 0 se
  have e : (f_Mo_run_0 ti nm xa it vs se rs wk n j t) = _ := e
  rw [e]
  exact sim_run (mo := mo) (t := t) RQ (fun _ _ _ => True) (fun u x y s m _ h => simQ u x y s m h) n 0 ((0, qv), qr, qf) (0, it, vs) rs wk (fun p _ hp => ⟨hL p (by omega), trivial⟩) ⟨rfl, fun i hi => absurd hi (Nat.not_lt_zero _)⟩
theorem res_0 {mo na aa bb ti nm xa xb : Nat → Int32} {n j : Nat} {t : Int32} (it vs se : Nat → Int32) (rs : Nat → Int64) (wk : Nat → Int32) (qv : Nat → Int32) (qr : Int64) (qf : Int32) (hn : n ≤ 32) (hL : LEq n mo na aa bb ti nm xa xb (32 * j)) (re : Nat → Int64) (ef : Nat → Int32) (p : Nat) (hp : p < n) (ht : ∀ z, z ≤ p → mo z ≤ t) : (f_Mo_run_0 ti nm xa it vs se rs wk n j t).2.2.2.2.2.1 p = (rdo (fun nm x _ => bgS 2 nm x) na aa bb n 0 ((0, qv), qr, qf) re ef).2.1 p ∧ (f_Mo_run_0 ti nm xa it vs se rs wk n j t).2.2.2.2.2.2 p = (rdo (fun nm x _ => bgS 2 nm x) na aa bb n 0 ((0, qv), qr, qf) re ef).2.2 p := by
  obtain ⟨se1, e⟩ := run23_0 ti nm xa xb it vs rs wk n j t 16 0 se
  have e : (f_Mo_run_0 ti nm xa it vs se rs wk n j t) = _ := e
  rw [e]
  exact sim_res RQ (fun _ _ _ => True) (fun u x y s m _ h => simQ u x y s m h) n 0 ((0, qv), qr, qf) re ef (0, it, vs) rs wk (fun p _ hp => ⟨hL p (by omega), trivial⟩) ⟨rfl, fun i hi => absurd hi (Nat.not_lt_zero _)⟩ p (Nat.zero_le _) (by omega) (fun z _ hz => ht z hz)
theorem corr_1 {mo na aa bb ti nm xa xb : Nat → Int32} {n j : Nat} {t : Int32} (it vs se : Nat → Int32) (rs : Nat → Int64) (wk : Nat → Int32) (qv : Nat → Int32) (qr : Int64) (qf : Int32) (hn : n ≤ 32) (hL : LEq n mo na aa bb ti nm xa xb (32 * j)) : RS (rut (fun nm x _ => bgS 3 nm x) mo na aa bb t n 0 ((0, qv), qr, qf)).1 ((f_Mo_run_1 ti nm xa it vs se rs wk n j t).1, (f_Mo_run_1 ti nm xa it vs se rs wk n j t).2.1, (f_Mo_run_1 ti nm xa it vs se rs wk n j t).2.2.1) := by
  obtain ⟨se1, e⟩ := run23_1 ti nm xa xb it vs rs wk n j t 16 0 se
  have e : (f_Mo_run_1 ti nm xa it vs se rs wk n j t) = _ := e
  rw [e]
  exact sim_run (mo := mo) (t := t) RS (fun _ _ _ => True) (fun u x y s m _ h => simS u x y s m h) n 0 ((0, qv), qr, qf) (0, it, vs) rs wk (fun p _ hp => ⟨hL p (by omega), trivial⟩) ⟨rfl, fun i hi => absurd hi (Nat.not_lt_zero _)⟩
theorem res_1 {mo na aa bb ti nm xa xb : Nat → Int32} {n j : Nat} {t : Int32} (it vs se : Nat → Int32) (rs : Nat → Int64) (wk : Nat → Int32) (qv : Nat → Int32) (qr : Int64) (qf : Int32) (hn : n ≤ 32) (hL : LEq n mo na aa bb ti nm xa xb (32 * j)) (re : Nat → Int64) (ef : Nat → Int32) (p : Nat) (hp : p < n) (ht : ∀ z, z ≤ p → mo z ≤ t) : (f_Mo_run_1 ti nm xa it vs se rs wk n j t).2.2.2.2.2.1 p = (rdo (fun nm x _ => bgS 3 nm x) na aa bb n 0 ((0, qv), qr, qf) re ef).2.1 p ∧ (f_Mo_run_1 ti nm xa it vs se rs wk n j t).2.2.2.2.2.2 p = (rdo (fun nm x _ => bgS 3 nm x) na aa bb n 0 ((0, qv), qr, qf) re ef).2.2 p := by
  obtain ⟨se1, e⟩ := run23_1 ti nm xa xb it vs rs wk n j t 16 0 se
  have e : (f_Mo_run_1 ti nm xa it vs se rs wk n j t) = _ := e
  rw [e]
  exact sim_res RS (fun _ _ _ => True) (fun u x y s m _ h => simS u x y s m h) n 0 ((0, qv), qr, qf) re ef (0, it, vs) rs wk (fun p _ hp => ⟨hL p (by omega), trivial⟩) ⟨rfl, fun i hi => absurd hi (Nat.not_lt_zero _)⟩ p (Nat.zero_le _) (by omega) (fun z _ hz => ht z hz)
theorem corr_2 {mo na aa bb ti nm xa xb : Nat → Int32} {n j : Nat} {t : Int32} (it vs se : Nat → Int32) (rs : Nat → Int64) (wk : Nat → Int32) (qk qv : Nat → Int32) (qr : Int64) (qf : Int32) (hn : n ≤ 32) (hL : LEq n mo na aa bb ti nm xa xb (32 * j)) (hV : ∀ p, p < n → (fun u _ _ => u = 1 ∨ u = 2) (na p) (aa p) (bb p)) : RT n (rut taS mo na aa bb t n 0 ((0, qk, qv), qr, qf)).1 ((f_Mo_run_2 ti nm xa xb it vs se rs wk n j t).1, (f_Mo_run_2 ti nm xa xb it vs se rs wk n j t).2.1, (f_Mo_run_2 ti nm xa xb it vs se rs wk n j t).2.2.1) := by
  obtain ⟨se1, e⟩ := run23_2 ti nm xa xb it vs rs wk n j t 16 0 se
  have e : (f_Mo_run_2 ti nm xa xb it vs se rs wk n j t) = _ := e
  rw [e]
  have h := sim_runI (mo := mo) (t := t) RT (fun u _ _ => u = 1 ∨ u = 2) (fun i u x y s m hi hv h => simT i u x y s m hi hv h) (fun i s m h => ⟨Nat.le_succ_of_le h.1, h.2⟩) n 0 ((0, qk, qv), qr, qf) (0, it, vs) rs wk (by omega) (fun p _ hp => ⟨hL p (by omega), hV p (by omega)⟩) ⟨Nat.le_refl _, rfl, fun a b ha => absurd ha (Nat.not_lt_zero _), fun a b ha => absurd ha (Nat.not_lt_zero _), fun a ha => absurd ha (Nat.not_lt_zero _), fun a ha => absurd ha (Nat.not_lt_zero _)⟩
  rw [Nat.zero_add] at h
  exact h
theorem res_2 {mo na aa bb ti nm xa xb : Nat → Int32} {n j : Nat} {t : Int32} (it vs se : Nat → Int32) (rs : Nat → Int64) (wk : Nat → Int32) (qk qv : Nat → Int32) (qr : Int64) (qf : Int32) (hn : n ≤ 32) (hL : LEq n mo na aa bb ti nm xa xb (32 * j)) (hV : ∀ p, p < n → (fun u _ _ => u = 1 ∨ u = 2) (na p) (aa p) (bb p)) (re : Nat → Int64) (ef : Nat → Int32) (p : Nat) (hp : p < n) (ht : ∀ z, z ≤ p → mo z ≤ t) : (f_Mo_run_2 ti nm xa xb it vs se rs wk n j t).2.2.2.2.2.1 p = (rdo taS na aa bb n 0 ((0, qk, qv), qr, qf) re ef).2.1 p ∧ (f_Mo_run_2 ti nm xa xb it vs se rs wk n j t).2.2.2.2.2.2 p = (rdo taS na aa bb n 0 ((0, qk, qv), qr, qf) re ef).2.2 p := by
  obtain ⟨se1, e⟩ := run23_2 ti nm xa xb it vs rs wk n j t 16 0 se
  have e : (f_Mo_run_2 ti nm xa xb it vs se rs wk n j t) = _ := e
  rw [e]
  exact sim_resI RT (fun u _ _ => u = 1 ∨ u = 2) (fun i u x y s m hi hv h => simT i u x y s m hi hv h) n 0 ((0, qk, qv), qr, qf) re ef (0, it, vs) rs wk (by omega) (fun p _ hp => ⟨hL p (by omega), hV p (by omega)⟩) ⟨Nat.le_refl _, rfl, fun a b ha => absurd ha (Nat.not_lt_zero _), fun a b ha => absurd ha (Nat.not_lt_zero _), fun a ha => absurd ha (Nat.not_lt_zero _), fun a ha => absurd ha (Nat.not_lt_zero _)⟩ p (Nat.zero_le _) (by omega) (fun z _ hz => ht z hz)
theorem corr_3 {mo na aa bb ti nm xa xb : Nat → Int32} {n j : Nat} {t : Int32} (it vs se : Nat → Int32) (rs : Nat → Int64) (wk : Nat → Int32) (qv : Nat → Int32) (qr : Int64) (qf : Int32) (hn : n ≤ 32) (hL : LEq n mo na aa bb ti nm xa xb (32 * j)) : RH (rut (fun nm x _ => bgS 4 nm x) mo na aa bb t n 0 ((0, qv), qr, qf)).1 ((f_Mo_run_3 ti nm xa it vs se rs wk n j t).1, (f_Mo_run_3 ti nm xa it vs se rs wk n j t).2.1, (f_Mo_run_3 ti nm xa it vs se rs wk n j t).2.2.1) := by
  obtain ⟨se1, e⟩ := run23_3 ti nm xa xb it vs rs wk n j t 16 0 se
  have e : (f_Mo_run_3 ti nm xa it vs se rs wk n j t) = _ := e
  rw [e]
  exact sim_run (mo := mo) (t := t) RH (fun _ _ _ => True) (fun u x y s m _ h => simH u x y s m h) n 0 ((0, qv), qr, qf) (0, it, vs) rs wk (fun p _ hp => ⟨hL p (by omega), trivial⟩) ⟨rfl, fun i k _ hk => absurd hk (Nat.not_lt_zero _), fun c => rfl⟩
theorem res_3 {mo na aa bb ti nm xa xb : Nat → Int32} {n j : Nat} {t : Int32} (it vs se : Nat → Int32) (rs : Nat → Int64) (wk : Nat → Int32) (qv : Nat → Int32) (qr : Int64) (qf : Int32) (hn : n ≤ 32) (hL : LEq n mo na aa bb ti nm xa xb (32 * j)) (re : Nat → Int64) (ef : Nat → Int32) (p : Nat) (hp : p < n) (ht : ∀ z, z ≤ p → mo z ≤ t) : (f_Mo_run_3 ti nm xa it vs se rs wk n j t).2.2.2.2.2.1 p = (rdo (fun nm x _ => bgS 4 nm x) na aa bb n 0 ((0, qv), qr, qf) re ef).2.1 p ∧ (f_Mo_run_3 ti nm xa it vs se rs wk n j t).2.2.2.2.2.2 p = (rdo (fun nm x _ => bgS 4 nm x) na aa bb n 0 ((0, qv), qr, qf) re ef).2.2 p := by
  obtain ⟨se1, e⟩ := run23_3 ti nm xa xb it vs rs wk n j t 16 0 se
  have e : (f_Mo_run_3 ti nm xa it vs se rs wk n j t) = _ := e
  rw [e]
  exact sim_res RH (fun _ _ _ => True) (fun u x y s m _ h => simH u x y s m h) n 0 ((0, qv), qr, qf) re ef (0, it, vs) rs wk (fun p _ hp => ⟨hL p (by omega), trivial⟩) ⟨rfl, fun i k _ hk => absurd hk (Nat.not_lt_zero _), fun c => rfl⟩ p (Nat.zero_le _) (by omega) (fun z _ hz => ht z hz)
theorem corr_4 {mo na aa bb ti nm xa xb : Nat → Int32} {n j : Nat} {t : Int32} (it vs se : Nat → Int32) (rs : Nat → Int64) (wk : Nat → Int32) (qn : Nat) (qr : Int64) (qf : Int32) (hn : n ≤ 32) (hL : LEq n mo na aa bb ti nm xa xb (32 * j)) : RR (rut (fun _ x _ => reS x) mo na aa bb t n 0 ((0, qn), qr, qf)).1 (f_Mo_run_4 ti xa it vs se rs wk n j t).2.2.2.2.1 := by
  obtain ⟨se1, e⟩ := run23_4 ti nm xa xb it vs rs wk n j t 16 0 se
  have e : (f_Mo_run_4 ti xa it vs se rs wk n j t) = _ := e
  rw [e]
  exact sim_run (mo := mo) (t := t) RR (fun _ _ _ => True) (fun u x y s m _ h => simR u x y s m h) n 0 ((0, qn), qr, qf) 0 rs wk (fun p _ hp => ⟨hL p (by omega), trivial⟩) rfl
theorem res_4 {mo na aa bb ti nm xa xb : Nat → Int32} {n j : Nat} {t : Int32} (it vs se : Nat → Int32) (rs : Nat → Int64) (wk : Nat → Int32) (qn : Nat) (qr : Int64) (qf : Int32) (hn : n ≤ 32) (hL : LEq n mo na aa bb ti nm xa xb (32 * j)) (re : Nat → Int64) (ef : Nat → Int32) (p : Nat) (hp : p < n) (ht : ∀ z, z ≤ p → mo z ≤ t) : (f_Mo_run_4 ti xa it vs se rs wk n j t).2.2.2.2.2.1 p = (rdo (fun _ x _ => reS x) na aa bb n 0 ((0, qn), qr, qf) re ef).2.1 p ∧ (f_Mo_run_4 ti xa it vs se rs wk n j t).2.2.2.2.2.2 p = (rdo (fun _ x _ => reS x) na aa bb n 0 ((0, qn), qr, qf) re ef).2.2 p := by
  obtain ⟨se1, e⟩ := run23_4 ti nm xa xb it vs rs wk n j t 16 0 se
  have e : (f_Mo_run_4 ti xa it vs se rs wk n j t) = _ := e
  rw [e]
  exact sim_res RR (fun _ _ _ => True) (fun u x y s m _ h => simR u x y s m h) n 0 ((0, qn), qr, qf) re ef 0 rs wk (fun p _ hp => ⟨hL p (by omega), trivial⟩) rfl p (Nat.zero_le _) (by omega) (fun z _ hz => ht z hz)
theorem corr_5 {mo na aa bb ti nm xa xb : Nat → Int32} {n j : Nat} {t : Int32} (it vs se : Nat → Int32) (rs : Nat → Int64) (wk : Nat → Int32) (ql : Nat → Int32) (qr : Int64) (qf : Int32) (hn : n ≤ 32) (hL : LEq n mo na aa bb ti nm xa xb (32 * j)) (hV : ∀ p, p < n → (fun _ x y => x.toNatClampNeg < 16 ∧ y.toNatClampNeg < 16) (na p) (aa p) (bb p)) : RE (rut (fun _ x y => seS x y) mo na aa bb t n 0 ((16, sal 16 0 ql), qr, qf)).1 ((f_Mo_run_5 ti xa xb it vs se rs wk n j t).1, (f_Mo_run_5 ti xa xb it vs se rs wk n j t).2.2.2.1) := by
  have e := run23_5 ti nm xa xb it vs rs wk n j t 16 0 se
  have e : (f_Mo_run_5 ti xa xb it vs se rs wk n j t) = _ := e
  rw [e]
  exact sim_run (mo := mo) (t := t) RE (fun _ x y => x.toNatClampNeg < 16 ∧ y.toNatClampNeg < 16) (fun u x y s m hv h => simE u x y s m hv.1 hv.2 h) n 0 ((16, sal 16 0 ql), qr, qf) (16, sal 16 0 se) rs wk (fun p _ hp => ⟨hL p (by omega), hV p (by omega)⟩) (RE_0 ql se)
theorem res_5 {mo na aa bb ti nm xa xb : Nat → Int32} {n j : Nat} {t : Int32} (it vs se : Nat → Int32) (rs : Nat → Int64) (wk : Nat → Int32) (ql : Nat → Int32) (qr : Int64) (qf : Int32) (hn : n ≤ 32) (hL : LEq n mo na aa bb ti nm xa xb (32 * j)) (hV : ∀ p, p < n → (fun _ x y => x.toNatClampNeg < 16 ∧ y.toNatClampNeg < 16) (na p) (aa p) (bb p)) (re : Nat → Int64) (ef : Nat → Int32) (p : Nat) (hp : p < n) (ht : ∀ z, z ≤ p → mo z ≤ t) : (f_Mo_run_5 ti xa xb it vs se rs wk n j t).2.2.2.2.2.1 p = (rdo (fun _ x y => seS x y) na aa bb n 0 ((16, sal 16 0 ql), qr, qf) re ef).2.1 p ∧ (f_Mo_run_5 ti xa xb it vs se rs wk n j t).2.2.2.2.2.2 p = (rdo (fun _ x y => seS x y) na aa bb n 0 ((16, sal 16 0 ql), qr, qf) re ef).2.2 p := by
  have e := run23_5 ti nm xa xb it vs rs wk n j t 16 0 se
  have e : (f_Mo_run_5 ti xa xb it vs se rs wk n j t) = _ := e
  rw [e]
  exact sim_res RE (fun _ x y => x.toNatClampNeg < 16 ∧ y.toNatClampNeg < 16) (fun u x y s m hv h => simE u x y s m hv.1 hv.2 h) n 0 ((16, sal 16 0 ql), qr, qf) re ef (16, sal 16 0 se) rs wk (fun p _ hp => ⟨hL p (by omega), hV p (by omega)⟩) (RE_0 ql se) p (Nat.zero_le _) (by omega) (fun z _ hz => ht z hz)
