/-! the asking calls: what both sides answer (by wip/whole/gen/ops.py) -/
theorem rM_0 {mo na aa bb ti nm xa xb : Nat → Int32} {n j : Nat} {t : Int32} {it vs se : Nat → Int32} {rs : Nat → Int64} {wk : Nat → Int32} {re : Nat → Int64} {ef : Nat → Int32} (hn : n ≤ 32) (hL : LEq n mo na aa bb ti nm xa xb (32 * j)) (hO : LOK 0 n mo na aa bb re ef) (p : Nat) (hp : p < n) (ht : ∀ z, z ≤ p → mo z ≤ t) : (f_Mo_run_0 ti nm xa it vs se rs wk n j t).2.2.2.2.2.1 p = re p ∧ (f_Mo_run_0 ti nm xa it vs se rs wk n j t).2.2.2.2.2.2 p = ef p := by
  obtain ⟨qv, qr, qf, re0, ef0, h⟩ := hO.2.2.2.1 rfl
  obtain ⟨a1, a2⟩ := res_0 it vs se rs wk qv qr qf hn hL re0 ef0 p hp ht
  obtain ⟨b1, b2⟩ := h p hp
  exact ⟨a1.trans b1.symm, a2.trans b2.symm⟩
theorem rM_1 {mo na aa bb ti nm xa xb : Nat → Int32} {n j : Nat} {t : Int32} {it vs se : Nat → Int32} {rs : Nat → Int64} {wk : Nat → Int32} {re : Nat → Int64} {ef : Nat → Int32} (hn : n ≤ 32) (hL : LEq n mo na aa bb ti nm xa xb (32 * j)) (hO : LOK 1 n mo na aa bb re ef) (p : Nat) (hp : p < n) (ht : ∀ z, z ≤ p → mo z ≤ t) : (f_Mo_run_1 ti nm xa it vs se rs wk n j t).2.2.2.2.2.1 p = re p ∧ (f_Mo_run_1 ti nm xa it vs se rs wk n j t).2.2.2.2.2.2 p = ef p := by
  obtain ⟨qv, qr, qf, re0, ef0, h⟩ := hO.2.2.2.2.1 rfl
  obtain ⟨a1, a2⟩ := res_1 it vs se rs wk qv qr qf hn hL re0 ef0 p hp ht
  obtain ⟨b1, b2⟩ := h p hp
  exact ⟨a1.trans b1.symm, a2.trans b2.symm⟩
theorem rM_2 {mo na aa bb ti nm xa xb : Nat → Int32} {n j : Nat} {t : Int32} {it vs se : Nat → Int32} {rs : Nat → Int64} {wk : Nat → Int32} {re : Nat → Int64} {ef : Nat → Int32} (hn : n ≤ 32) (hL : LEq n mo na aa bb ti nm xa xb (32 * j)) (hO : LOK 2 n mo na aa bb re ef) (p : Nat) (hp : p < n) (ht : ∀ z, z ≤ p → mo z ≤ t) : (f_Mo_run_2 ti nm xa xb it vs se rs wk n j t).2.2.2.2.2.1 p = re p ∧ (f_Mo_run_2 ti nm xa xb it vs se rs wk n j t).2.2.2.2.2.2 p = ef p := by
  obtain ⟨qk, qv, qr, qf, re0, ef0, h⟩ := hO.2.2.2.2.2.1 rfl
  obtain ⟨a1, a2⟩ := res_2 it vs se rs wk qk qv qr qf hn hL (hv_2 hO rfl) re0 ef0 p hp ht
  obtain ⟨b1, b2⟩ := h p hp
  exact ⟨a1.trans b1.symm, a2.trans b2.symm⟩
theorem rM_3 {mo na aa bb ti nm xa xb : Nat → Int32} {n j : Nat} {t : Int32} {it vs se : Nat → Int32} {rs : Nat → Int64} {wk : Nat → Int32} {re : Nat → Int64} {ef : Nat → Int32} (hn : n ≤ 32) (hL : LEq n mo na aa bb ti nm xa xb (32 * j)) (hO : LOK 3 n mo na aa bb re ef) (p : Nat) (hp : p < n) (ht : ∀ z, z ≤ p → mo z ≤ t) : (f_Mo_run_3 ti nm xa it vs se rs wk n j t).2.2.2.2.2.1 p = re p ∧ (f_Mo_run_3 ti nm xa it vs se rs wk n j t).2.2.2.2.2.2 p = ef p := by
  obtain ⟨qv, qr, qf, re0, ef0, h⟩ := hO.2.2.2.2.2.2.1 rfl
  obtain ⟨a1, a2⟩ := res_3 it vs se rs wk qv qr qf hn hL re0 ef0 p hp ht
  obtain ⟨b1, b2⟩ := h p hp
  exact ⟨a1.trans b1.symm, a2.trans b2.symm⟩
theorem rM_4 {mo na aa bb ti nm xa xb : Nat → Int32} {n j : Nat} {t : Int32} {it vs se : Nat → Int32} {rs : Nat → Int64} {wk : Nat → Int32} {re : Nat → Int64} {ef : Nat → Int32} (hn : n ≤ 32) (hL : LEq n mo na aa bb ti nm xa xb (32 * j)) (hO : LOK 4 n mo na aa bb re ef) (p : Nat) (hp : p < n) (ht : ∀ z, z ≤ p → mo z ≤ t) : (f_Mo_run_4 ti xa it vs se rs wk n j t).2.2.2.2.2.1 p = re p ∧ (f_Mo_run_4 ti xa it vs se rs wk n j t).2.2.2.2.2.2 p = ef p := by
  obtain ⟨qn, qr, qf, re0, ef0, h⟩ := hO.2.2.2.2.2.2.2.1 rfl
  obtain ⟨a1, a2⟩ := res_4 it vs se rs wk qn qr qf hn hL re0 ef0 p hp ht
  obtain ⟨b1, b2⟩ := h p hp
  exact ⟨a1.trans b1.symm, a2.trans b2.symm⟩
theorem rM_5 {mo na aa bb ti nm xa xb : Nat → Int32} {n j : Nat} {t : Int32} {it vs se : Nat → Int32} {rs : Nat → Int64} {wk : Nat → Int32} {re : Nat → Int64} {ef : Nat → Int32} (hn : n ≤ 32) (hL : LEq n mo na aa bb ti nm xa xb (32 * j)) (hO : LOK 5 n mo na aa bb re ef) (p : Nat) (hp : p < n) (ht : ∀ z, z ≤ p → mo z ≤ t) : (f_Mo_run_5 ti xa xb it vs se rs wk n j t).2.2.2.2.2.1 p = re p ∧ (f_Mo_run_5 ti xa xb it vs se rs wk n j t).2.2.2.2.2.2 p = ef p := by
  obtain ⟨ql, qr, qf, re0, ef0, h⟩ := hO.2.2.2.2.2.2.2.2 rfl
  obtain ⟨a1, a2⟩ := res_5 it vs se rs wk ql qr qf hn hL (hv_5 hO rfl) re0 ef0 p hp ht
  obtain ⟨b1, b2⟩ := h p hp
  exact ⟨a1.trans b1.symm, a2.trans b2.symm⟩
theorem pq_front_0 {mo na aa bb ti nm xa xb : Nat → Int32} {n j : Nat} {t : Int32} {it vs se : Nat → Int32} {rs : Nat → Int64} {wk : Nat → Int32} {qv : Nat → Int32} {qr : Int64} {qf : Int32} (hn : n ≤ 32) (hL : LEq n mo na aa bb ti nm xa xb (32 * j)) {re : Nat → Int64} {ef : Nat → Int32} (hO : LOK 0 n mo na aa bb re ef) (ht : okM t) (hb : bz wk) : (f_EP_front_0 n mo na aa bb qv qr qf t).1 ≤ 3 ∧ (f_Mo_front_0 ti nm xa it vs se rs wk n j t).2.1 = nI (f_EP_front_0 n mo na aa bb qv qr qf t).1 ∧ ((f_EP_front_0 n mo na aa bb qv qr qf t).1 = 0 → (f_EP_front_0 n mo na aa bb qv qr qf t).2 = (f_Mo_front_0 ti nm xa it vs se rs wk n j t).1) ∧ bz (f_Mo_front_0 ti nm xa it vs se rs wk n j t).2.2.2.2.2.2.2.2 := by
  have h := corr_0 (t := t) it vs se rs wk qv qr qf hn hL
  have hz := run_bz_0 ti nm xa it vs se rs wk n j t hb
  unfold f_EP_front_0 f_Mo_front_0 f_Mo_isNotFor_0_3
  rw [if_pos ht]
  generalize (rut (fun nm x _ => bgS 2 nm x) mo na aa bb t n 0 ((0, qv), qr, qf)) = S at h ⊢
  generalize f_Mo_run_0 ti nm xa it vs se rs wk n j t = R at h hz ⊢
  obtain ⟨h1, h2⟩ := h
  have h1 : S.1.1 = R.1 := h1
  by_cases hc : R.1 = 0
  · simp only [h1, if_pos hc]
    exact ⟨by decide, rfl, fun h9 => absurd h9 (by decide), hz⟩
  · have e : S.1.2 0 = R.2.1 (f_Mo_nextOf_0 R.1) := by rw [nx0_eq]; exact h2 0 (by omega)
    simp only [h1, if_neg hc]
    exact ⟨by decide, rfl, fun _ => e, hz⟩
theorem pq_front_1 {mo na aa bb ti nm xa xb : Nat → Int32} {n j : Nat} {t : Int32} {it vs se : Nat → Int32} {rs : Nat → Int64} {wk : Nat → Int32} {qv : Nat → Int32} {qr : Int64} {qf : Int32} (hn : n ≤ 32) (hL : LEq n mo na aa bb ti nm xa xb (32 * j)) {re : Nat → Int64} {ef : Nat → Int32} (hO : LOK 1 n mo na aa bb re ef) (ht : okM t) (hb : bz wk) : (f_EP_front_1 n mo na aa bb qv qr qf t).1 ≤ 3 ∧ (f_Mo_front_1 ti nm xa it vs se rs wk n j t).2.1 = nI (f_EP_front_1 n mo na aa bb qv qr qf t).1 ∧ ((f_EP_front_1 n mo na aa bb qv qr qf t).1 = 0 → (f_EP_front_1 n mo na aa bb qv qr qf t).2 = (f_Mo_front_1 ti nm xa it vs se rs wk n j t).1) ∧ bz (f_Mo_front_1 ti nm xa it vs se rs wk n j t).2.2.2.2.2.2.2.2 := by
  have h := corr_1 (t := t) it vs se rs wk qv qr qf hn hL
  have hz := run_bz_1 ti nm xa it vs se rs wk n j t hb
  unfold f_EP_front_1 f_Mo_front_1 f_Mo_isNotFor_1_3
  rw [if_pos ht]
  generalize (rut (fun nm x _ => bgS 3 nm x) mo na aa bb t n 0 ((0, qv), qr, qf)) = S at h ⊢
  generalize f_Mo_run_1 ti nm xa it vs se rs wk n j t = R at h hz ⊢
  obtain ⟨h1, h2⟩ := h
  have h1 : S.1.1 = R.1 := h1
  by_cases hc : R.1 = 0
  · simp only [h1, if_pos hc]
    exact ⟨by decide, rfl, fun h9 => absurd h9 (by decide), hz⟩
  · have e : S.1.2 0 = R.2.1 (f_Mo_nextOf_1 R.1) := by rw [nx1_eq]; have := h2 0 (by omega); rw [h1] at this; exact this
    simp only [h1, if_neg hc]
    exact ⟨by decide, rfl, fun _ => e, hz⟩
theorem pq_size_0 {mo na aa bb ti nm xa xb : Nat → Int32} {n j : Nat} {t : Int32} {it vs se : Nat → Int32} {rs : Nat → Int64} {wk : Nat → Int32} {qv : Nat → Int32} {qr : Int64} {qf : Int32} (hn : n ≤ 32) (hL : LEq n mo na aa bb ti nm xa xb (32 * j)) {re : Nat → Int64} {ef : Nat → Int32} (hO : LOK 0 n mo na aa bb re ef) (ht : okM t) (hb : bz wk) : (f_EP_size_0 n mo na aa bb qv qr qf t).1 = 0 ∧ (f_EP_size_0 n mo na aa bb qv qr qf t).2 = (f_Mo_size_0 ti nm xa it vs se rs wk n j t).1 ∧ bz (f_Mo_size_0 ti nm xa it vs se rs wk n j t).2.2.2.2.2.2.2 := by
  have h := corr_0 (t := t) it vs se rs wk qv qr qf hn hL
  have hz := run_bz_0 ti nm xa it vs se rs wk n j t hb
  unfold f_EP_size_0 f_Mo_size_0 f_Mo_isNotFor_0_47
  rw [if_pos ht]
  generalize (rut (fun nm x _ => bgS 2 nm x) mo na aa bb t n 0 ((0, qv), qr, qf)) = S at h ⊢
  generalize f_Mo_run_0 ti nm xa it vs se rs wk n j t = R at h hz ⊢
  have h1 : S.1.1 = R.1 := h.1
  exact ⟨rfl, h1, hz⟩
theorem pq_size_1 {mo na aa bb ti nm xa xb : Nat → Int32} {n j : Nat} {t : Int32} {it vs se : Nat → Int32} {rs : Nat → Int64} {wk : Nat → Int32} {qv : Nat → Int32} {qr : Int64} {qf : Int32} (hn : n ≤ 32) (hL : LEq n mo na aa bb ti nm xa xb (32 * j)) {re : Nat → Int64} {ef : Nat → Int32} (hO : LOK 1 n mo na aa bb re ef) (ht : okM t) (hb : bz wk) : (f_EP_size_1 n mo na aa bb qv qr qf t).1 = 0 ∧ (f_EP_size_1 n mo na aa bb qv qr qf t).2 = (f_Mo_size_1 ti nm xa it vs se rs wk n j t).1 ∧ bz (f_Mo_size_1 ti nm xa it vs se rs wk n j t).2.2.2.2.2.2.2 := by
  have h := corr_1 (t := t) it vs se rs wk qv qr qf hn hL
  have hz := run_bz_1 ti nm xa it vs se rs wk n j t hb
  unfold f_EP_size_1 f_Mo_size_1 f_Mo_isNotFor_1_47
  rw [if_pos ht]
  generalize (rut (fun nm x _ => bgS 3 nm x) mo na aa bb t n 0 ((0, qv), qr, qf)) = S at h ⊢
  generalize f_Mo_run_1 ti nm xa it vs se rs wk n j t = R at h hz ⊢
  have h1 : S.1.1 = R.1 := h.1
  exact ⟨rfl, h1, hz⟩
theorem pq_size_2 {mo na aa bb ti nm xa xb : Nat → Int32} {n j : Nat} {t : Int32} {it vs se : Nat → Int32} {rs : Nat → Int64} {wk : Nat → Int32} {qk qv : Nat → Int32} {qr : Int64} {qf : Int32} (hn : n ≤ 32) (hL : LEq n mo na aa bb ti nm xa xb (32 * j)) {re : Nat → Int64} {ef : Nat → Int32} (hO : LOK 2 n mo na aa bb re ef) (ht : okM t) (hb : bz wk) : (f_EP_size_2 n mo na aa bb qv qk qr qf t).1 = 0 ∧ (f_EP_size_2 n mo na aa bb qv qk qr qf t).2 = (f_Mo_size_2 ti nm xa xb it vs se rs wk n j t).1 ∧ bz (f_Mo_size_2 ti nm xa xb it vs se rs wk n j t).2.2.2.2.2.2.2 := by
  have h := corr_2 (t := t) it vs se rs wk qk qv qr qf hn hL (hv_2 hO rfl)
  have hz := run_bz_2 ti nm xa xb it vs se rs wk n j t hb
  unfold f_EP_size_2 f_Mo_size_2 f_Mo_isNotFor_2_47
  rw [if_pos ht]
  generalize (rut taS mo na aa bb t n 0 ((0, qk, qv), qr, qf)) = S at h ⊢
  generalize f_Mo_run_2 ti nm xa xb it vs se rs wk n j t = R at h hz ⊢
  have h1 : S.1.1 = R.1 := h.2.1
  exact ⟨rfl, h1, hz⟩
theorem pq_size_3 {mo na aa bb ti nm xa xb : Nat → Int32} {n j : Nat} {t : Int32} {it vs se : Nat → Int32} {rs : Nat → Int64} {wk : Nat → Int32} {qv : Nat → Int32} {qr : Int64} {qf : Int32} (hn : n ≤ 32) (hL : LEq n mo na aa bb ti nm xa xb (32 * j)) {re : Nat → Int64} {ef : Nat → Int32} (hO : LOK 3 n mo na aa bb re ef) (ht : okM t) (hb : bz wk) : (f_EP_size_3 n mo na aa bb qv qr qf t).1 = 0 ∧ (f_EP_size_3 n mo na aa bb qv qr qf t).2 = (f_Mo_size_3 ti nm xa it vs se rs wk n j t).1 ∧ bz (f_Mo_size_3 ti nm xa it vs se rs wk n j t).2.2.2.2.2.2.2 := by
  have h := corr_3 (t := t) it vs se rs wk qv qr qf hn hL
  have hz := run_bz_3 ti nm xa it vs se rs wk n j t hb
  unfold f_EP_size_3 f_Mo_size_3 f_Mo_isNotFor_3_47
  rw [if_pos ht]
  generalize (rut (fun nm x _ => bgS 4 nm x) mo na aa bb t n 0 ((0, qv), qr, qf)) = S at h ⊢
  generalize f_Mo_run_3 ti nm xa it vs se rs wk n j t = R at h hz ⊢
  have h1 : S.1.1 = R.1 := h.1
  exact ⟨rfl, h1, hz⟩
theorem pq_size_5 {mo na aa bb ti nm xa xb : Nat → Int32} {n j : Nat} {t : Int32} {it vs se : Nat → Int32} {rs : Nat → Int64} {wk : Nat → Int32} {ql : Nat → Int32} {qr : Int64} {qf : Int32} (hn : n ≤ 32) (hL : LEq n mo na aa bb ti nm xa xb (32 * j)) {re : Nat → Int64} {ef : Nat → Int32} (hO : LOK 5 n mo na aa bb re ef) (ht : okM t) (hb : bz wk) : (f_EP_size_5 n mo na aa bb ql qr qf t).1 = 0 ∧ (f_EP_size_5 n mo na aa bb ql qr qf t).2 = (f_Mo_size_5 ti xa xb it vs se rs wk n j t).1 ∧ bz (f_Mo_size_5 ti xa xb it vs se rs wk n j t).2.2.2.2.2.2.2 := by
  have h := corr_5 (t := t) it vs se rs wk ql qr qf hn hL (hv_5 hO rfl)
  have hz := run_bz_5 ti xa xb it vs se rs wk n j t hb
  unfold f_EP_size_5 f_Mo_size_5 f_Mo_isNotFor_5_47
  rw [if_pos ht]
  generalize (rut (fun _ x y => seS x y) mo na aa bb t n 0 ((16, sal 16 0 ql), qr, qf)) = S at h ⊢
  generalize f_Mo_run_5 ti xa xb it vs se rs wk n j t = R at h hz ⊢
  have h1 : S.1.1 = R.1 := h.1
  exact ⟨rfl, h1, hz⟩
theorem pq_at_2 {mo na aa bb ti nm xa xb : Nat → Int32} {n j : Nat} {t : Int32} {it vs se : Nat → Int32} {rs : Nat → Int64} {wk : Nat → Int32} {qk qv : Nat → Int32} {qr : Int64} {qf : Int32} {x : Int32} (hn : n ≤ 32) (hL : LEq n mo na aa bb ti nm xa xb (32 * j)) {re : Nat → Int64} {ef : Nat → Int32} (hO : LOK 2 n mo na aa bb re ef) (ht : okM t) (hb : bz wk) : (f_EP_at_2 n mo na aa bb qv qk qr qf t x).1 ≤ 3 ∧ (f_Mo_at_2 ti nm xa xb it vs se rs wk n j t x).2.1 = nI (f_EP_at_2 n mo na aa bb qv qk qr qf t x).1 ∧ ((f_EP_at_2 n mo na aa bb qv qk qr qf t x).1 = 0 → (f_EP_at_2 n mo na aa bb qv qk qr qf t x).2 = (f_Mo_at_2 ti nm xa xb it vs se rs wk n j t x).1) ∧ bz (f_Mo_at_2 ti nm xa xb it vs se rs wk n j t x).2.2.2.2.2.2.2.2 := by
  have h := corr_2 (t := t) it vs se rs wk qk qv qr qf hn hL (hv_2 hO rfl)
  have hz := run_bz_2 ti nm xa xb it vs se rs wk n j t hb
  unfold f_EP_at_2 f_Mo_at_2 f_Mo_isNotFor_2_4
  rw [if_pos ht]
  generalize (rut taS mo na aa bb t n 0 ((0, qk, qv), qr, qf)) = S at h ⊢
  generalize f_Mo_run_2 ti nm xa xb it vs se rs wk n j t = R at h hz ⊢
  obtain ⟨⟨c1, ks, vv⟩, q8, q9⟩ := S
  obtain ⟨c2, i2, v2, s2, m2, r2, w2⟩ := R
  have hc : c1 = c2 := h.2.1
  subst hc
  rcases RT_key hn h x with ⟨e1, e2, -, -⟩ | ⟨a, p, ha, hp, -, -, e3, e1, e2⟩
  · have n1 : ¬ ¬ tpo ks x c1 0 = -1 := fun h9 => h9 e1
    have n2 : ¬ ¬ f_Mo_keyAt c1 i2 x = -1 := fun h9 => h9 e2
    simp only [if_neg n1, if_neg n2]
    exact ⟨by decide, rfl, fun h9 => absurd h9 (by decide), hz⟩
  · have hle : c1 ≤ n := h.1
    have n1 : ¬ tpo ks x c1 0 = -1 := by rw [e1]; exact nI_ne_m1 (by omega)
    have n2 : ¬ f_Mo_keyAt c1 i2 x = -1 := by rw [e2]; exact nI_ne_m1 (by omega)
    simp only [if_pos n1, if_pos n2]
    refine ⟨by decide, rfl, fun _ => ?_, hz⟩
    rw [e1, e2, nI_clamp (by omega), nI_clamp (by omega)]
    exact e3.symm
theorem least_go (ti nm xa it vs se : Nat → Int32) (rs : Nat → Int64) (wk : Nat → Int32) (n j : Nat) (t : Int32) : ∀ (k i mc : Nat) (it1 vs1 v : Nat → Int32), RH (mc, v) (mc, it1, vs1) → k < mc → (g_Mo_least_3_37 ti nm xa it vs se rs wk n j t k i mc it1 vs1).1 = v k ∧ (g_Mo_least_3_37 ti nm xa it vs se rs wk n j t k i mc it1 vs1).2.2.2.2.2.2.2 = (f_Mo_isNotFor_3_8 ti nm xa it vs se rs wk n j t).2.2.2.2.2.2 := by
  intro k
  induction k with
  | zero => intro i mc it1 vs1 v hR hk; exact ⟨(RH_min hR hk).symm, rfl⟩
  | succ k ih =>
    intro i mc it1 vs1 v hR hk
    unfold g_Mo_least_3_37
    rw [takeOut_eq]
    obtain ⟨h1, h2⟩ := ih (i + 1) (mc - 1) (shd it1 (mc - 1 - f_Mo_nextOf_3 mc it1) (f_Mo_nextOf_3 mc it1)) (shd vs1 (mc - 1 - f_Mo_nextOf_3 mc it1) (f_Mo_nextOf_3 mc it1)) (shd v (mc - 1) 0) (RH_take hR (by omega) _) (by omega)
    refine ⟨h1.trans ?_, h2⟩
    rw [shd_at, if_pos (by omega)]
theorem pq_least_3 {mo na aa bb ti nm xa xb : Nat → Int32} {n j : Nat} {t : Int32} {it vs se : Nat → Int32} {rs : Nat → Int64} {wk : Nat → Int32} {qv : Nat → Int32} {qr : Int64} {qf : Int32} {x : Nat} (hn : n ≤ 32) (hL : LEq n mo na aa bb ti nm xa xb (32 * j)) {re : Nat → Int64} {ef : Nat → Int32} (hO : LOK 3 n mo na aa bb re ef) (ht : okM t) (hb : bz wk) : ((f_EP_least_3 n mo na aa bb qv qr qf t x) = (3, 0) ∧ (f_Mo_isNotFor_3_8 ti nm xa it vs se rs wk n j t).1 ≤ x ∧ bz (f_Mo_least_3o ti nm xa it vs se rs wk n j t x).2.2.2.2.2.2) ∨ ((f_EP_least_3 n mo na aa bb qv qr qf t x) = (0, (f_Mo_least_3 ti nm xa it vs se rs wk n j t x).1) ∧ x < (f_Mo_isNotFor_3_8 ti nm xa it vs se rs wk n j t).1 ∧ bz (f_Mo_least_3 ti nm xa it vs se rs wk n j t x).2.2.2.2.2.2.2) := by
  have h := corr_3 (t := t) it vs se rs wk qv qr qf hn hL
  have hz := run_bz_3 ti nm xa it vs se rs wk n j t hb
  have e : f_Mo_isNotFor_3_8 ti nm xa it vs se rs wk n j t = f_Mo_run_3 ti nm xa it vs se rs wk n j t := rfl
  unfold f_EP_least_3
  rw [if_pos ht, e]
  generalize (rut (fun nm x _ => bgS 4 nm x) mo na aa bb t n 0 ((0, qv), qr, qf)) = S at h ⊢
  have h1 : S.1.1 = (f_Mo_run_3 ti nm xa it vs se rs wk n j t).1 := h.1
  by_cases hx : x < S.1.1
  · right
    have hR : RH ((f_Mo_run_3 ti nm xa it vs se rs wk n j t).1, S.1.2) ((f_Mo_run_3 ti nm xa it vs se rs wk n j t).1, (f_Mo_run_3 ti nm xa it vs se rs wk n j t).2.1, (f_Mo_run_3 ti nm xa it vs se rs wk n j t).2.2.1) := by rw [← h1]; rw [← h1] at h; exact h
    obtain ⟨a1, a2⟩ := least_go ti nm xa it vs se rs wk n j t x 0 _ _ _ _ hR (by omega)
    have a1 : (f_Mo_least_3 ti nm xa it vs se rs wk n j t x).1 = S.1.2 x := a1
    have a2 : (f_Mo_least_3 ti nm xa it vs se rs wk n j t x).2.2.2.2.2.2.2 = (f_Mo_isNotFor_3_8 ti nm xa it vs se rs wk n j t).2.2.2.2.2.2 := a2
    rw [if_pos hx, a1, a2]
    exact ⟨rfl, by omega, hz⟩
  · left
    rw [if_neg hx]
    refine ⟨rfl, by omega, ?_⟩
    unfold f_Mo_least_3o
    split
    · exact hz
    · exact hz
theorem pq_least_3m {mo na aa bb ti nm xa xb : Nat → Int32} {n j : Nat} {t : Int32} {it vs se : Nat → Int32} {rs : Nat → Int64} {wk : Nat → Int32} (hn : n ≤ 32) (hL : LEq n mo na aa bb ti nm xa xb (32 * j)) {re : Nat → Int64} {ef : Nat → Int32} (hO : LOK 3 n mo na aa bb re ef) (ht : okM t) (hb : bz wk) : bz (f_Mo_least_3m ti nm xa it vs se rs wk n j t).2.2.2.2.2.2 := run_bz_3 ti nm xa it vs se rs wk n j t hb
theorem pq_sum_4 {mo na aa bb ti nm xa xb : Nat → Int32} {n j : Nat} {t : Int32} {it vs se : Nat → Int32} {rs : Nat → Int64} {wk : Nat → Int32} {qn : Nat} {qr : Int64} {qf : Int32} (hn : n ≤ 32) (hL : LEq n mo na aa bb ti nm xa xb (32 * j)) {re : Nat → Int64} {ef : Nat → Int32} (hO : LOK 4 n mo na aa bb re ef) (ht : okM t) (hb : bz wk) : (f_EP_sum_4 n mo na aa bb qn qr qf t).1 = 0 ∧ (f_EP_sum_4 n mo na aa bb qn qr qf t).2 = (f_Mo_sum_4 ti xa it vs se rs wk n j t).1 ∧ bz (f_Mo_sum_4 ti xa it vs se rs wk n j t).2.2.2.2.2.2.2 := by
  have h := corr_4 (t := t) it vs se rs wk qn qr qf hn hL
  have hz := run_bz_4 ti xa it vs se rs wk n j t hb
  unfold f_EP_sum_4 f_Mo_sum_4 f_Mo_isNotFor_4_16
  rw [if_pos ht]
  generalize (rut (fun _ x _ => reS x) mo na aa bb t n 0 ((0, qn), qr, qf)) = S at h ⊢
  generalize f_Mo_run_4 ti xa it vs se rs wk n j t = R at h hz ⊢
  exact ⟨rfl, h, hz⟩
theorem pq_together_5 {mo na aa bb ti nm xa xb : Nat → Int32} {n j : Nat} {t : Int32} {it vs se : Nat → Int32} {rs : Nat → Int64} {wk : Nat → Int32} {ql : Nat → Int32} {qr : Int64} {qf : Int32} {x y : Nat} (hx : x < 16) (hy : y < 16) (hn : n ≤ 32) (hL : LEq n mo na aa bb ti nm xa xb (32 * j)) {re : Nat → Int64} {ef : Nat → Int32} (hO : LOK 5 n mo na aa bb re ef) (ht : okM t) (hb : bz wk) : (f_EP_together_5 n mo na aa bb ql qr qf t x y).1 = 0 ∧ (f_EP_together_5 n mo na aa bb ql qr qf t x y).2 = (f_Mo_together_5 ti xa xb it vs se rs wk n j t x y).1 ∧ ((f_EP_together_5 n mo na aa bb ql qr qf t x y).2 = 0 ∨ (f_EP_together_5 n mo na aa bb ql qr qf t x y).2 = 1) ∧ bz (f_Mo_together_5 ti xa xb it vs se rs wk n j t x y).2.2.2.2.2.2.2 := by
  have h := corr_5 (t := t) it vs se rs wk ql qr qf hn hL (hv_5 hO rfl)
  have hz := run_bz_5 ti xa xb it vs se rs wk n j t hb
  unfold f_EP_together_5 f_Mo_together_5 f_Mo_isNotFor_5_32
  rw [if_pos ht]
  generalize (rut (fun _ x y => seS x y) mo na aa bb t n 0 ((16, sal 16 0 ql), qr, qf)) = S at h ⊢
  generalize f_Mo_run_5 ti xa xb it vs se rs wk n j t = R at h hz ⊢
  have h2 : S.1.2 x = S.1.2 y ↔ R.2.2.2.1 x = R.2.2.2.1 y := h.2 x y hx hy
  by_cases hc : S.1.2 x = S.1.2 y
  · have hd := h2.mp hc
    rw [if_pos hc, if_pos hd]
    exact ⟨rfl, rfl, Or.inr rfl, hz⟩
  · have hd : ¬ R.2.2.2.1 x = R.2.2.2.1 y := fun h9 => hc (h2.mpr h9)
    rw [if_neg hc, if_neg hd]
    exact ⟨rfl, rfl, Or.inl rfl, hz⟩
theorem pat_up {mo : Nat → Int32} {t : Int32} {n : Nat} (hn : n ≤ 32) (hS : Srt n mo) (h : ¬ pat mo t n = -1) : (pat mo t n).toNatClampNeg < n ∧ ∀ z, z ≤ (pat mo t n).toNatClampNeg → mo z ≤ t := by
  obtain ⟨h1, h2, h3⟩ := pat_pf h
  rw [h1, nI_clamp (by omega)]
  refine ⟨h2, fun z hz => ?_⟩
  rcases Nat.lt_or_ge z (pfr mo t n 0) with h4 | h4
  · exact Int32.le_of_lt (by rw [← h3]; exact hS _ _ h4 h2)
  · have : z = pfr mo t n 0 := by omega
    rw [this, h3]
    exact Int32.le_refl _
theorem pq_result_0 {mo na aa bb ti nm xa xb : Nat → Int32} {n j : Nat} {t : Int32} {it vs se : Nat → Int32} {rs : Nat → Int64} {wk : Nat → Int32} (hn : n ≤ 32) (hL : LEq n mo na aa bb ti nm xa xb (32 * j)) {re : Nat → Int64} {ef : Nat → Int32} (hO : LOK 0 n mo na aa bb re ef) (ht : okM t) (hb : bz wk) : (f_EP_result n mo re t).1 ≤ 3 ∧ (f_Mo_result_0 ti nm xa it vs se rs wk n j t).2.1 = nI (f_EP_result n mo re t).1 ∧ ((f_EP_result n mo re t).1 = 0 → (f_EP_result n mo re t).2 = (f_Mo_result_0 ti nm xa it vs se rs wk n j t).1) ∧ bz (f_Mo_result_0 ti nm xa it vs se rs wk n j t).2.2.2.2.2.2.2.2 := by
  have hz := run_bz_0 ti nm xa it vs se rs wk n j t hb
  have hr := fun p => rM_0 (t := t) (it := it) (vs := vs) (se := se) (rs := rs) (wk := wk) hn hL hO p
  unfold f_EP_result f_Mo_result_0 f_Mo_asked_0 f_Mo_isNotFor_0_63
  rw [if_pos ht, find_pat hL.mo hO.1]
  generalize f_Mo_run_0 ti nm xa it vs se rs wk n j t = R at hr hz ⊢
  by_cases hp : pat mo t n = -1
  · have hp : ¬ ¬ pat mo t n = -1 := fun h9 => h9 hp
    simp only [if_neg hp]
    exact ⟨by decide, rfl, fun h9 => absurd h9 (by decide), hz⟩
  · obtain ⟨u1, u2⟩ := pat_up hn hO.1 hp
    have := (hr _ u1 u2).1
    simp only [if_pos hp]
    exact ⟨by decide, rfl, fun _ => this.symm, hz⟩
theorem pq_works_0 {mo na aa bb ti nm xa xb : Nat → Int32} {n j : Nat} {t : Int32} {it vs se : Nat → Int32} {rs : Nat → Int64} {wk : Nat → Int32} (hn : n ≤ 32) (hL : LEq n mo na aa bb ti nm xa xb (32 * j)) {re : Nat → Int64} {ef : Nat → Int32} (hO : LOK 0 n mo na aa bb re ef) (ht : okM t) (hb : bz wk) (hf : bz ef) : (f_EP_works n mo ef t).1 ≤ 3 ∧ (f_Mo_works_0 ti nm xa it vs se rs wk n j t).2.1 = nI (f_EP_works n mo ef t).1 ∧ ((f_EP_works n mo ef t).2 = 0 ∨ (f_EP_works n mo ef t).2 = 1) ∧ ((f_EP_works n mo ef t).1 = 0 → (f_EP_works n mo ef t).2 = (f_Mo_works_0 ti nm xa it vs se rs wk n j t).1) ∧ bz (f_Mo_works_0 ti nm xa it vs se rs wk n j t).2.2.2.2.2.2.2.2 := by
  have hz := run_bz_0 ti nm xa it vs se rs wk n j t hb
  have hr := fun p => rM_0 (t := t) (it := it) (vs := vs) (se := se) (rs := rs) (wk := wk) hn hL hO p
  unfold f_EP_works f_Mo_works_0 f_Mo_asked_0 f_Mo_isNotFor_0_63
  rw [if_pos ht, find_pat hL.mo hO.1]
  generalize f_Mo_run_0 ti nm xa it vs se rs wk n j t = R at hr hz ⊢
  by_cases hp : pat mo t n = -1
  · have hp : ¬ ¬ pat mo t n = -1 := fun h9 => h9 hp
    rw [if_neg hp, if_neg hp]
    simp only [if_neg hp]
    exact ⟨by decide, rfl, Or.inl (by first | rfl | trivial), fun h9 => absurd h9 (by decide), hz⟩
  · obtain ⟨u1, u2⟩ := pat_up hn hO.1 hp
    have h8 := (hr _ u1 u2).2
    generalize (pat mo t n).toNatClampNeg = p8 at h8 u1 u2 ⊢
    simp only [if_pos hp, h8]
    rcases hf p8 with e | e
    · rw [if_pos e, e]
      exact ⟨by decide, rfl, Or.inl rfl, fun _ => rfl, hz⟩
    · have e0 : ¬ ef p8 = 0 := by rw [e]; decide
      rw [if_neg e0]
      exact ⟨by decide, rfl, Or.inr e, fun _ => e, hz⟩
theorem pq_result_1 {mo na aa bb ti nm xa xb : Nat → Int32} {n j : Nat} {t : Int32} {it vs se : Nat → Int32} {rs : Nat → Int64} {wk : Nat → Int32} (hn : n ≤ 32) (hL : LEq n mo na aa bb ti nm xa xb (32 * j)) {re : Nat → Int64} {ef : Nat → Int32} (hO : LOK 1 n mo na aa bb re ef) (ht : okM t) (hb : bz wk) : (f_EP_result n mo re t).1 ≤ 3 ∧ (f_Mo_result_1 ti nm xa it vs se rs wk n j t).2.1 = nI (f_EP_result n mo re t).1 ∧ ((f_EP_result n mo re t).1 = 0 → (f_EP_result n mo re t).2 = (f_Mo_result_1 ti nm xa it vs se rs wk n j t).1) ∧ bz (f_Mo_result_1 ti nm xa it vs se rs wk n j t).2.2.2.2.2.2.2.2 := by
  have hz := run_bz_1 ti nm xa it vs se rs wk n j t hb
  have hr := fun p => rM_1 (t := t) (it := it) (vs := vs) (se := se) (rs := rs) (wk := wk) hn hL hO p
  unfold f_EP_result f_Mo_result_1 f_Mo_asked_1 f_Mo_isNotFor_1_63
  rw [if_pos ht, find_pat hL.mo hO.1]
  generalize f_Mo_run_1 ti nm xa it vs se rs wk n j t = R at hr hz ⊢
  by_cases hp : pat mo t n = -1
  · have hp : ¬ ¬ pat mo t n = -1 := fun h9 => h9 hp
    simp only [if_neg hp]
    exact ⟨by decide, rfl, fun h9 => absurd h9 (by decide), hz⟩
  · obtain ⟨u1, u2⟩ := pat_up hn hO.1 hp
    have := (hr _ u1 u2).1
    simp only [if_pos hp]
    exact ⟨by decide, rfl, fun _ => this.symm, hz⟩
theorem pq_works_1 {mo na aa bb ti nm xa xb : Nat → Int32} {n j : Nat} {t : Int32} {it vs se : Nat → Int32} {rs : Nat → Int64} {wk : Nat → Int32} (hn : n ≤ 32) (hL : LEq n mo na aa bb ti nm xa xb (32 * j)) {re : Nat → Int64} {ef : Nat → Int32} (hO : LOK 1 n mo na aa bb re ef) (ht : okM t) (hb : bz wk) (hf : bz ef) : (f_EP_works n mo ef t).1 ≤ 3 ∧ (f_Mo_works_1 ti nm xa it vs se rs wk n j t).2.1 = nI (f_EP_works n mo ef t).1 ∧ ((f_EP_works n mo ef t).2 = 0 ∨ (f_EP_works n mo ef t).2 = 1) ∧ ((f_EP_works n mo ef t).1 = 0 → (f_EP_works n mo ef t).2 = (f_Mo_works_1 ti nm xa it vs se rs wk n j t).1) ∧ bz (f_Mo_works_1 ti nm xa it vs se rs wk n j t).2.2.2.2.2.2.2.2 := by
  have hz := run_bz_1 ti nm xa it vs se rs wk n j t hb
  have hr := fun p => rM_1 (t := t) (it := it) (vs := vs) (se := se) (rs := rs) (wk := wk) hn hL hO p
  unfold f_EP_works f_Mo_works_1 f_Mo_asked_1 f_Mo_isNotFor_1_63
  rw [if_pos ht, find_pat hL.mo hO.1]
  generalize f_Mo_run_1 ti nm xa it vs se rs wk n j t = R at hr hz ⊢
  by_cases hp : pat mo t n = -1
  · have hp : ¬ ¬ pat mo t n = -1 := fun h9 => h9 hp
    rw [if_neg hp, if_neg hp]
    simp only [if_neg hp]
    exact ⟨by decide, rfl, Or.inl (by first | rfl | trivial), fun h9 => absurd h9 (by decide), hz⟩
  · obtain ⟨u1, u2⟩ := pat_up hn hO.1 hp
    have h8 := (hr _ u1 u2).2
    generalize (pat mo t n).toNatClampNeg = p8 at h8 u1 u2 ⊢
    simp only [if_pos hp, h8]
    rcases hf p8 with e | e
    · rw [if_pos e, e]
      exact ⟨by decide, rfl, Or.inl rfl, fun _ => rfl, hz⟩
    · have e0 : ¬ ef p8 = 0 := by rw [e]; decide
      rw [if_neg e0]
      exact ⟨by decide, rfl, Or.inr e, fun _ => e, hz⟩
theorem pq_result_2 {mo na aa bb ti nm xa xb : Nat → Int32} {n j : Nat} {t : Int32} {it vs se : Nat → Int32} {rs : Nat → Int64} {wk : Nat → Int32} (hn : n ≤ 32) (hL : LEq n mo na aa bb ti nm xa xb (32 * j)) {re : Nat → Int64} {ef : Nat → Int32} (hO : LOK 2 n mo na aa bb re ef) (ht : okM t) (hb : bz wk) : (f_EP_result n mo re t).1 ≤ 3 ∧ (f_Mo_result_2 ti nm xa xb it vs se rs wk n j t).2.1 = nI (f_EP_result n mo re t).1 ∧ ((f_EP_result n mo re t).1 = 0 → (f_EP_result n mo re t).2 = (f_Mo_result_2 ti nm xa xb it vs se rs wk n j t).1) ∧ bz (f_Mo_result_2 ti nm xa xb it vs se rs wk n j t).2.2.2.2.2.2.2.2 := by
  have hz := run_bz_2 ti nm xa xb it vs se rs wk n j t hb
  have hr := fun p => rM_2 (t := t) (it := it) (vs := vs) (se := se) (rs := rs) (wk := wk) hn hL hO p
  unfold f_EP_result f_Mo_result_2 f_Mo_asked_2 f_Mo_isNotFor_2_63
  rw [if_pos ht, find_pat hL.mo hO.1]
  generalize f_Mo_run_2 ti nm xa xb it vs se rs wk n j t = R at hr hz ⊢
  by_cases hp : pat mo t n = -1
  · have hp : ¬ ¬ pat mo t n = -1 := fun h9 => h9 hp
    simp only [if_neg hp]
    exact ⟨by decide, rfl, fun h9 => absurd h9 (by decide), hz⟩
  · obtain ⟨u1, u2⟩ := pat_up hn hO.1 hp
    have := (hr _ u1 u2).1
    simp only [if_pos hp]
    exact ⟨by decide, rfl, fun _ => this.symm, hz⟩
theorem pq_works_2 {mo na aa bb ti nm xa xb : Nat → Int32} {n j : Nat} {t : Int32} {it vs se : Nat → Int32} {rs : Nat → Int64} {wk : Nat → Int32} (hn : n ≤ 32) (hL : LEq n mo na aa bb ti nm xa xb (32 * j)) {re : Nat → Int64} {ef : Nat → Int32} (hO : LOK 2 n mo na aa bb re ef) (ht : okM t) (hb : bz wk) (hf : bz ef) : (f_EP_works n mo ef t).1 ≤ 3 ∧ (f_Mo_works_2 ti nm xa xb it vs se rs wk n j t).2.1 = nI (f_EP_works n mo ef t).1 ∧ ((f_EP_works n mo ef t).2 = 0 ∨ (f_EP_works n mo ef t).2 = 1) ∧ ((f_EP_works n mo ef t).1 = 0 → (f_EP_works n mo ef t).2 = (f_Mo_works_2 ti nm xa xb it vs se rs wk n j t).1) ∧ bz (f_Mo_works_2 ti nm xa xb it vs se rs wk n j t).2.2.2.2.2.2.2.2 := by
  have hz := run_bz_2 ti nm xa xb it vs se rs wk n j t hb
  have hr := fun p => rM_2 (t := t) (it := it) (vs := vs) (se := se) (rs := rs) (wk := wk) hn hL hO p
  unfold f_EP_works f_Mo_works_2 f_Mo_asked_2 f_Mo_isNotFor_2_63
  rw [if_pos ht, find_pat hL.mo hO.1]
  generalize f_Mo_run_2 ti nm xa xb it vs se rs wk n j t = R at hr hz ⊢
  by_cases hp : pat mo t n = -1
  · have hp : ¬ ¬ pat mo t n = -1 := fun h9 => h9 hp
    rw [if_neg hp, if_neg hp]
    simp only [if_neg hp]
    exact ⟨by decide, rfl, Or.inl (by first | rfl | trivial), fun h9 => absurd h9 (by decide), hz⟩
  · obtain ⟨u1, u2⟩ := pat_up hn hO.1 hp
    have h8 := (hr _ u1 u2).2
    generalize (pat mo t n).toNatClampNeg = p8 at h8 u1 u2 ⊢
    simp only [if_pos hp, h8]
    rcases hf p8 with e | e
    · rw [if_pos e, e]
      exact ⟨by decide, rfl, Or.inl rfl, fun _ => rfl, hz⟩
    · have e0 : ¬ ef p8 = 0 := by rw [e]; decide
      rw [if_neg e0]
      exact ⟨by decide, rfl, Or.inr e, fun _ => e, hz⟩
theorem pq_result_3 {mo na aa bb ti nm xa xb : Nat → Int32} {n j : Nat} {t : Int32} {it vs se : Nat → Int32} {rs : Nat → Int64} {wk : Nat → Int32} (hn : n ≤ 32) (hL : LEq n mo na aa bb ti nm xa xb (32 * j)) {re : Nat → Int64} {ef : Nat → Int32} (hO : LOK 3 n mo na aa bb re ef) (ht : okM t) (hb : bz wk) : (f_EP_result n mo re t).1 ≤ 3 ∧ (f_Mo_result_3 ti nm xa it vs se rs wk n j t).2.1 = nI (f_EP_result n mo re t).1 ∧ ((f_EP_result n mo re t).1 = 0 → (f_EP_result n mo re t).2 = (f_Mo_result_3 ti nm xa it vs se rs wk n j t).1) ∧ bz (f_Mo_result_3 ti nm xa it vs se rs wk n j t).2.2.2.2.2.2.2.2 := by
  have hz := run_bz_3 ti nm xa it vs se rs wk n j t hb
  have hr := fun p => rM_3 (t := t) (it := it) (vs := vs) (se := se) (rs := rs) (wk := wk) hn hL hO p
  unfold f_EP_result f_Mo_result_3 f_Mo_asked_3 f_Mo_isNotFor_3_63
  rw [if_pos ht, find_pat hL.mo hO.1]
  generalize f_Mo_run_3 ti nm xa it vs se rs wk n j t = R at hr hz ⊢
  by_cases hp : pat mo t n = -1
  · have hp : ¬ ¬ pat mo t n = -1 := fun h9 => h9 hp
    simp only [if_neg hp]
    exact ⟨by decide, rfl, fun h9 => absurd h9 (by decide), hz⟩
  · obtain ⟨u1, u2⟩ := pat_up hn hO.1 hp
    have := (hr _ u1 u2).1
    simp only [if_pos hp]
    exact ⟨by decide, rfl, fun _ => this.symm, hz⟩
theorem pq_works_3 {mo na aa bb ti nm xa xb : Nat → Int32} {n j : Nat} {t : Int32} {it vs se : Nat → Int32} {rs : Nat → Int64} {wk : Nat → Int32} (hn : n ≤ 32) (hL : LEq n mo na aa bb ti nm xa xb (32 * j)) {re : Nat → Int64} {ef : Nat → Int32} (hO : LOK 3 n mo na aa bb re ef) (ht : okM t) (hb : bz wk) (hf : bz ef) : (f_EP_works n mo ef t).1 ≤ 3 ∧ (f_Mo_works_3 ti nm xa it vs se rs wk n j t).2.1 = nI (f_EP_works n mo ef t).1 ∧ ((f_EP_works n mo ef t).2 = 0 ∨ (f_EP_works n mo ef t).2 = 1) ∧ ((f_EP_works n mo ef t).1 = 0 → (f_EP_works n mo ef t).2 = (f_Mo_works_3 ti nm xa it vs se rs wk n j t).1) ∧ bz (f_Mo_works_3 ti nm xa it vs se rs wk n j t).2.2.2.2.2.2.2.2 := by
  have hz := run_bz_3 ti nm xa it vs se rs wk n j t hb
  have hr := fun p => rM_3 (t := t) (it := it) (vs := vs) (se := se) (rs := rs) (wk := wk) hn hL hO p
  unfold f_EP_works f_Mo_works_3 f_Mo_asked_3 f_Mo_isNotFor_3_63
  rw [if_pos ht, find_pat hL.mo hO.1]
  generalize f_Mo_run_3 ti nm xa it vs se rs wk n j t = R at hr hz ⊢
  by_cases hp : pat mo t n = -1
  · have hp : ¬ ¬ pat mo t n = -1 := fun h9 => h9 hp
    rw [if_neg hp, if_neg hp]
    simp only [if_neg hp]
    exact ⟨by decide, rfl, Or.inl (by first | rfl | trivial), fun h9 => absurd h9 (by decide), hz⟩
  · obtain ⟨u1, u2⟩ := pat_up hn hO.1 hp
    have h8 := (hr _ u1 u2).2
    generalize (pat mo t n).toNatClampNeg = p8 at h8 u1 u2 ⊢
    simp only [if_pos hp, h8]
    rcases hf p8 with e | e
    · rw [if_pos e, e]
      exact ⟨by decide, rfl, Or.inl rfl, fun _ => rfl, hz⟩
    · have e0 : ¬ ef p8 = 0 := by rw [e]; decide
      rw [if_neg e0]
      exact ⟨by decide, rfl, Or.inr e, fun _ => e, hz⟩
theorem pq_result_4 {mo na aa bb ti nm xa xb : Nat → Int32} {n j : Nat} {t : Int32} {it vs se : Nat → Int32} {rs : Nat → Int64} {wk : Nat → Int32} (hn : n ≤ 32) (hL : LEq n mo na aa bb ti nm xa xb (32 * j)) {re : Nat → Int64} {ef : Nat → Int32} (hO : LOK 4 n mo na aa bb re ef) (ht : okM t) (hb : bz wk) : (f_EP_result n mo re t).1 ≤ 3 ∧ (f_Mo_result_4 ti xa it vs se rs wk n j t).2.1 = nI (f_EP_result n mo re t).1 ∧ ((f_EP_result n mo re t).1 = 0 → (f_EP_result n mo re t).2 = (f_Mo_result_4 ti xa it vs se rs wk n j t).1) ∧ bz (f_Mo_result_4 ti xa it vs se rs wk n j t).2.2.2.2.2.2.2.2 := by
  have hz := run_bz_4 ti xa it vs se rs wk n j t hb
  have hr := fun p => rM_4 (t := t) (it := it) (vs := vs) (se := se) (rs := rs) (wk := wk) hn hL hO p
  unfold f_EP_result f_Mo_result_4 f_Mo_asked_4 f_Mo_isNotFor_4_63
  rw [if_pos ht, find_pat hL.mo hO.1]
  generalize f_Mo_run_4 ti xa it vs se rs wk n j t = R at hr hz ⊢
  by_cases hp : pat mo t n = -1
  · have hp : ¬ ¬ pat mo t n = -1 := fun h9 => h9 hp
    simp only [if_neg hp]
    exact ⟨by decide, rfl, fun h9 => absurd h9 (by decide), hz⟩
  · obtain ⟨u1, u2⟩ := pat_up hn hO.1 hp
    have := (hr _ u1 u2).1
    simp only [if_pos hp]
    exact ⟨by decide, rfl, fun _ => this.symm, hz⟩
theorem pq_works_4 {mo na aa bb ti nm xa xb : Nat → Int32} {n j : Nat} {t : Int32} {it vs se : Nat → Int32} {rs : Nat → Int64} {wk : Nat → Int32} (hn : n ≤ 32) (hL : LEq n mo na aa bb ti nm xa xb (32 * j)) {re : Nat → Int64} {ef : Nat → Int32} (hO : LOK 4 n mo na aa bb re ef) (ht : okM t) (hb : bz wk) (hf : bz ef) : (f_EP_works n mo ef t).1 ≤ 3 ∧ (f_Mo_works_4 ti xa it vs se rs wk n j t).2.1 = nI (f_EP_works n mo ef t).1 ∧ ((f_EP_works n mo ef t).2 = 0 ∨ (f_EP_works n mo ef t).2 = 1) ∧ ((f_EP_works n mo ef t).1 = 0 → (f_EP_works n mo ef t).2 = (f_Mo_works_4 ti xa it vs se rs wk n j t).1) ∧ bz (f_Mo_works_4 ti xa it vs se rs wk n j t).2.2.2.2.2.2.2.2 := by
  have hz := run_bz_4 ti xa it vs se rs wk n j t hb
  have hr := fun p => rM_4 (t := t) (it := it) (vs := vs) (se := se) (rs := rs) (wk := wk) hn hL hO p
  unfold f_EP_works f_Mo_works_4 f_Mo_asked_4 f_Mo_isNotFor_4_63
  rw [if_pos ht, find_pat hL.mo hO.1]
  generalize f_Mo_run_4 ti xa it vs se rs wk n j t = R at hr hz ⊢
  by_cases hp : pat mo t n = -1
  · have hp : ¬ ¬ pat mo t n = -1 := fun h9 => h9 hp
    rw [if_neg hp, if_neg hp]
    simp only [if_neg hp]
    exact ⟨by decide, rfl, Or.inl (by first | rfl | trivial), fun h9 => absurd h9 (by decide), hz⟩
  · obtain ⟨u1, u2⟩ := pat_up hn hO.1 hp
    have h8 := (hr _ u1 u2).2
    generalize (pat mo t n).toNatClampNeg = p8 at h8 u1 u2 ⊢
    simp only [if_pos hp, h8]
    rcases hf p8 with e | e
    · rw [if_pos e, e]
      exact ⟨by decide, rfl, Or.inl rfl, fun _ => rfl, hz⟩
    · have e0 : ¬ ef p8 = 0 := by rw [e]; decide
      rw [if_neg e0]
      exact ⟨by decide, rfl, Or.inr e, fun _ => e, hz⟩
theorem pq_result_5 {mo na aa bb ti nm xa xb : Nat → Int32} {n j : Nat} {t : Int32} {it vs se : Nat → Int32} {rs : Nat → Int64} {wk : Nat → Int32} (hn : n ≤ 32) (hL : LEq n mo na aa bb ti nm xa xb (32 * j)) {re : Nat → Int64} {ef : Nat → Int32} (hO : LOK 5 n mo na aa bb re ef) (ht : okM t) (hb : bz wk) : (f_EP_result n mo re t).1 ≤ 3 ∧ (f_Mo_result_5 ti xa xb it vs se rs wk n j t).2.1 = nI (f_EP_result n mo re t).1 ∧ ((f_EP_result n mo re t).1 = 0 → (f_EP_result n mo re t).2 = (f_Mo_result_5 ti xa xb it vs se rs wk n j t).1) ∧ bz (f_Mo_result_5 ti xa xb it vs se rs wk n j t).2.2.2.2.2.2.2.2 := by
  have hz := run_bz_5 ti xa xb it vs se rs wk n j t hb
  have hr := fun p => rM_5 (t := t) (it := it) (vs := vs) (se := se) (rs := rs) (wk := wk) hn hL hO p
  unfold f_EP_result f_Mo_result_5 f_Mo_asked_5 f_Mo_isNotFor_5_63
  rw [if_pos ht, find_pat hL.mo hO.1]
  generalize f_Mo_run_5 ti xa xb it vs se rs wk n j t = R at hr hz ⊢
  by_cases hp : pat mo t n = -1
  · have hp : ¬ ¬ pat mo t n = -1 := fun h9 => h9 hp
    simp only [if_neg hp]
    exact ⟨by decide, rfl, fun h9 => absurd h9 (by decide), hz⟩
  · obtain ⟨u1, u2⟩ := pat_up hn hO.1 hp
    have := (hr _ u1 u2).1
    simp only [if_pos hp]
    exact ⟨by decide, rfl, fun _ => this.symm, hz⟩
theorem pq_works_5 {mo na aa bb ti nm xa xb : Nat → Int32} {n j : Nat} {t : Int32} {it vs se : Nat → Int32} {rs : Nat → Int64} {wk : Nat → Int32} (hn : n ≤ 32) (hL : LEq n mo na aa bb ti nm xa xb (32 * j)) {re : Nat → Int64} {ef : Nat → Int32} (hO : LOK 5 n mo na aa bb re ef) (ht : okM t) (hb : bz wk) (hf : bz ef) : (f_EP_works n mo ef t).1 ≤ 3 ∧ (f_Mo_works_5 ti xa xb it vs se rs wk n j t).2.1 = nI (f_EP_works n mo ef t).1 ∧ ((f_EP_works n mo ef t).2 = 0 ∨ (f_EP_works n mo ef t).2 = 1) ∧ ((f_EP_works n mo ef t).1 = 0 → (f_EP_works n mo ef t).2 = (f_Mo_works_5 ti xa xb it vs se rs wk n j t).1) ∧ bz (f_Mo_works_5 ti xa xb it vs se rs wk n j t).2.2.2.2.2.2.2.2 := by
  have hz := run_bz_5 ti xa xb it vs se rs wk n j t hb
  have hr := fun p => rM_5 (t := t) (it := it) (vs := vs) (se := se) (rs := rs) (wk := wk) hn hL hO p
  unfold f_EP_works f_Mo_works_5 f_Mo_asked_5 f_Mo_isNotFor_5_63
  rw [if_pos ht, find_pat hL.mo hO.1]
  generalize f_Mo_run_5 ti xa xb it vs se rs wk n j t = R at hr hz ⊢
  by_cases hp : pat mo t n = -1
  · have hp : ¬ ¬ pat mo t n = -1 := fun h9 => h9 hp
    rw [if_neg hp, if_neg hp]
    simp only [if_neg hp]
    exact ⟨by decide, rfl, Or.inl (by first | rfl | trivial), fun h9 => absurd h9 (by decide), hz⟩
  · obtain ⟨u1, u2⟩ := pat_up hn hO.1 hp
    have h8 := (hr _ u1 u2).2
    generalize (pat mo t n).toNatClampNeg = p8 at h8 u1 u2 ⊢
    simp only [if_pos hp, h8]
    rcases hf p8 with e | e
    · rw [if_pos e, e]
      exact ⟨by decide, rfl, Or.inl rfl, fun _ => rfl, hz⟩
    · have e0 : ¬ ef p8 = 0 := by rw [e]; decide
      rw [if_neg e0]
      exact ⟨by decide, rfl, Or.inr e, fun _ => e, hz⟩
