/-! lines: where an operation is, and what putting in, striking and copying do, on both sides -/
def Srt (n : Nat) (mo : Nat → Int32) : Prop := ∀ i k, i < k → k < n → mo i < mo k
def LE1 (n : Nat) (f g : Nat → Int32) (b : Nat) : Prop := ∀ p, p < n → g (b + p) = f p
theorem LEq.of {n : Nat} {mo na aa bb ti nm xa xb : Nat → Int32} {b : Nat} (h1 : LE1 n mo ti b) (h2 : LE1 n na nm b) (h3 : LE1 n aa xa b) (h4 : LE1 n bb xb b) : LEq n mo na aa bb ti nm xa xb b := fun p hp => ⟨h1 p hp, h2 p hp, h3 p hp, h4 p hp⟩
theorem LEq.mo {n : Nat} {mo na aa bb ti nm xa xb : Nat → Int32} {b : Nat} (h : LEq n mo na aa bb ti nm xa xb b) : LE1 n mo ti b := fun p hp => (h p hp).1
theorem LEq.na {n : Nat} {mo na aa bb ti nm xa xb : Nat → Int32} {b : Nat} (h : LEq n mo na aa bb ti nm xa xb b) : LE1 n na nm b := fun p hp => (h p hp).2.1
theorem LEq.aa {n : Nat} {mo na aa bb ti nm xa xb : Nat → Int32} {b : Nat} (h : LEq n mo na aa bb ti nm xa xb b) : LE1 n aa xa b := fun p hp => (h p hp).2.2.1
theorem LEq.bb {n : Nat} {mo na aa bb ti nm xa xb : Nat → Int32} {b : Nat} (h : LEq n mo na aa bb ti nm xa xb b) : LE1 n bb xb b := fun p hp => (h p hp).2.2.2
theorem i32_irr {a b : Int32} (h : a < b) (h2 : b < a) : False := Int32.lt_irrefl (Int32.lt_trans h h2)
theorem find_pat {n j : Nat} {mo ti : Nat → Int32} {t : Int32} (hL : LE1 n mo ti (32 * j)) (hS : Srt n mo) : f_Mo_find ti n j t = pat mo t n := by
  obtain ⟨p1, p2⟩ := pfr_spec mo t n 0
  have hle := pfr_le mo t n 0
  unfold pat
  generalize pfr mo t n 0 = r at p1 p2 hle
  rcases fi_go ti j t n 0 (-1) with ⟨h, h2⟩ | ⟨p, -, q1, q2, q3⟩
  · have h : f_Mo_find ti n j t = -1 := h
    rw [h]
    by_cases hr : r < n
    · rw [if_pos hr, if_neg (fun h9 => h2 r (by omega) (by omega) ((hL r hr).trans h9))]
    · rw [if_neg hr]
  · have q2 : f_Mo_find ti n j t = nI p := q2
    have hp : p < n := by omega
    have hmp : mo p = t := (hL p hp).symm.trans q3
    have : r = p := by
      rcases Nat.lt_trichotomy p r with h | h | h
      · exact absurd (p1 p (by omega) h) (by rw [hmp]; exact Int32.lt_irrefl)
      · exact h.symm
      · exact absurd (by rw [← hmp]; exact hS r p h hp) (p2 (by omega))
    subst this
    rw [q2, if_pos hp, if_pos hmp]
theorem cut_eq (j : Nat) : ∀ (k i : Nat) (ct ti nm xa xb : Nat → Int32), g_Mo_cut_12 j k i ct ti nm xa xb = (ct, shd ti k (32 * j + i), shd nm k (32 * j + i), shd xa k (32 * j + i), shd xb k (32 * j + i)) := by
  intro k
  induction k with
  | zero => intro i ct ti nm xa xb; rfl
  | succ k ih => intro i ct ti nm xa xb; exact ih _ _ _ _ _ _
theorem f_cut_eq (ct ti nm xa xb : Nat → Int32) (n j p : Nat) : f_Mo_cut ct ti nm xa xb n j p = (upd ct j (nI (n - 1)), shd ti (n - 1 - p) (32 * j + p), shd nm (n - 1 - p) (32 * j + p), shd xa (n - 1 - p) (32 * j + p), shd xb (n - 1 - p) (32 * j + p)) := cut_eq j _ _ _ _ _ _ _
theorem ins_go {ct mo : Nat → Int32} {n j : Nat} {t u x y : Int32} (hS : Srt n mo) (hno : ∀ q, q < n → ¬ mo q = t) : ∀ (k : Nat) (ti nm xa xb : Nat → Int32), k ≤ n → (∀ q, q < k → ti (32 * j + q) = mo q) → pfr mo t n 0 ≤ k →
    g_Mo_insert_8 ct n j t u x y k k ti nm xa xb = (upd ct j (nI (n + 1)), upd (shu ti (k - pfr mo t n 0) (32 * j + k)) (32 * j + pfr mo t n 0) t, upd (shu nm (k - pfr mo t n 0) (32 * j + k)) (32 * j + pfr mo t n 0) u, upd (shu xa (k - pfr mo t n 0) (32 * j + k)) (32 * j + pfr mo t n 0) x, upd (shu xb (k - pfr mo t n 0) (32 * j + k)) (32 * j + pfr mo t n 0) y) := by
  obtain ⟨p1, p2⟩ := pfr_spec mo t n 0
  generalize pfr mo t n 0 = r at p1 p2 ⊢
  intro k
  induction k with
  | zero =>
    intro ti nm xa xb hk hq hr
    have : r = 0 := by omega
    subst this
    rfl
  | succ k ih =>
    intro ti nm xa xb hk hq hr
    unfold g_Mo_insert_8
    rw [show 32 * j + (k + 1) - 1 = 32 * j + k by omega, hq k (by omega)]
    by_cases hc : mo k ≤ t
    · rw [if_pos hc]
      have hlt : mo k < t := by
        rcases Int32.lt_or_eq_of_le hc with h | h
        · exact h
        · exact absurd h (hno k (by omega))
      have : r = k + 1 := by
        rcases Nat.lt_or_ge r (k + 1) with h | h
        · exfalso
          have h1 := p2 (by omega)
          by_cases hrk : r = k
          · rw [hrk] at h1; exact h1 hlt
          · exact h1 (Int32.lt_trans (hS r k (by omega) (by omega)) hlt)
        · omega
      rw [this, Nat.sub_self]
      rfl
    · rw [if_neg hc]
      have hrk : r ≤ k := by
        rcases Nat.lt_or_ge k r with h | h
        · exact absurd (Int32.le_of_lt (p1 k (by omega) h)) hc
        · exact h
      show g_Mo_insert_8 ct n j t u x y k (k + 1 - 1) (upd ti (32 * j + (k + 1)) (ti (32 * j + k))) (upd nm (32 * j + (k + 1)) (nm (32 * j + k))) (upd xa (32 * j + (k + 1)) (xa (32 * j + k))) (upd xb (32 * j + (k + 1)) (xb (32 * j + k))) = _
      rw [Nat.add_sub_cancel, ih _ _ _ _ (by omega) (fun q hq2 => by rw [upd_ne _ _ (by omega)]; exact hq q (by omega)) hrk]
      obtain ⟨d, hd⟩ : ∃ d, k + 1 - r = d + 1 := ⟨k - r, by omega⟩
      have hd2 : k - r = d := by omega
      rw [hd, hd2]
      rfl
theorem f_ins_eq {ct mo ti nm xa xb : Nat → Int32} {n j : Nat} {t u x y : Int32} (hS : Srt n mo) (hno : ∀ q, q < n → ¬ mo q = t) (hL : LE1 n mo ti (32 * j)) :
    f_Mo_insert ct ti nm xa xb n j t u x y = (upd ct j (nI (n + 1)), upd (shu ti (n - pfr mo t n 0) (32 * j + n)) (32 * j + pfr mo t n 0) t, upd (shu nm (n - pfr mo t n 0) (32 * j + n)) (32 * j + pfr mo t n 0) u, upd (shu xa (n - pfr mo t n 0) (32 * j + n)) (32 * j + pfr mo t n 0) x, upd (shu xb (n - pfr mo t n 0) (32 * j + n)) (32 * j + pfr mo t n 0) y) :=
  ins_go hS hno n ti nm xa xb (Nat.le_refl _) hL (by have := pfr_le mo t n 0; omega)
theorem ins_LE {n r b : Nat} {f g : Nat → Int32} (x : Int32) (h : LE1 n f g b) (hr : r ≤ n) : LE1 (n + 1) (upd (shu f (n - r) n) r x) (upd (shu g (n - r) (b + n)) (b + r) x) b := by
  intro p hp
  by_cases e : p = r
  · rw [e, upd_at, upd_at]
  · rw [upd_ne _ _ e, upd_ne _ _ (by omega), shu_at _ _ _ _ (by omega), shu_at _ _ _ _ (by omega)]
    by_cases c : r < p
    · rw [if_pos (by omega), if_pos (by omega), show b + p - 1 = b + (p - 1) by omega]
      exact h (p - 1) (by omega)
    · rw [if_neg (by omega), if_neg (by omega)]
      exact h p (by omega)
theorem ins_off {n r b q : Nat} {g : Nat → Int32} (x : Int32) (hr : r ≤ n) (hq : q < b ∨ b + n < q) : upd (shu g (n - r) (b + n)) (b + r) x q = g q := by
  rw [upd_ne _ _ (by omega), shu_at _ _ _ _ (by omega), if_neg (by omega)]
theorem rem_LE {n p b : Nat} {f g : Nat → Int32} (h : LE1 n f g b) (hp : p < n) : LE1 (n - 1) (shd f (n - 1 - p) p) (shd g (n - 1 - p) (b + p)) b := by
  intro q hq
  rw [shd_at, shd_at]
  by_cases c : p ≤ q
  · rw [if_pos (by omega), if_pos (by omega)]
    exact h (q + 1) (by omega)
  · rw [if_neg (by omega), if_neg (by omega)]
    exact h q (by omega)
theorem rem_off {n p b q : Nat} {g : Nat → Int32} (hp : p < n) (hq : q < b ∨ b + n ≤ q) : shd g (n - 1 - p) (b + p) q = g q := by
  rw [shd_at, if_neg (by omega)]
theorem cpf_at (f g : Nat → Int32) : ∀ (k i q : Nat), cpf f g k i q = if i ≤ q ∧ q < i + k then g q else f q := by
  intro k
  induction k generalizing f with
  | zero => intro i q; rw [if_neg (by omega)]; rfl
  | succ k ih =>
    intro i q
    show cpf (upd f i (g i)) g k (i + 1) q = _
    rw [ih]
    by_cases h : i + 1 ≤ q ∧ q < i + 1 + k
    · rw [if_pos h, if_pos (by omega)]
    · rw [if_neg h]
      by_cases hq : q = i
      · rw [hq, upd_at, if_pos (by omega)]
      · rw [upd_ne _ _ hq, if_neg (by omega)]
theorem cpfL_at (f g : Nat → Int64) : ∀ (k i q : Nat), cpfL f g k i q = if i ≤ q ∧ q < i + k then g q else f q := by
  intro k
  induction k generalizing f with
  | zero => intro i q; rw [if_neg (by omega)]; rfl
  | succ k ih =>
    intro i q
    show cpfL (vp_updL f i (g i)) g k (i + 1) q = _
    rw [ih]
    by_cases h : i + 1 ≤ q ∧ q < i + 1 + k
    · rw [if_pos h, if_pos (by omega)]
    · rw [if_neg h]
      by_cases hq : q = i
      · rw [hq, updL_at, if_pos (by omega)]
      · rw [updL_ne _ _ hq, if_neg (by omega)]
/-! order -/
theorem Srt_ins {n : Nat} {mo : Nat → Int32} {t : Int32} (hS : Srt n mo) (hno : ∀ q, q < n → ¬ mo q = t) : Srt (n + 1) (upd (shu mo (n - pfr mo t n 0) n) (pfr mo t n 0) t) := by
  obtain ⟨p1, p2⟩ := pfr_spec mo t n 0
  have hle := pfr_le mo t n 0
  generalize pfr mo t n 0 = r at p1 p2 hle
  have hsh : ∀ q, q ≠ r → upd (shu mo (n - r) n) r t q = if r < q ∧ q ≤ n then mo (q - 1) else mo q := fun q hq => by
    rw [upd_ne _ _ hq, shu_at _ _ _ _ (by omega)]
    by_cases h9 : r < q ∧ q ≤ n
    · rw [if_pos h9, if_pos (by omega)]
    · rw [if_neg h9, if_neg (by omega)]
  intro i k hik hk
  by_cases hi : i = r
  · rw [hi, upd_at, hsh k (by omega), if_pos (by omega)]
    have hx : t < mo r := by
      rcases Int32.lt_or_eq_of_le (Int32.not_lt.mp (p2 (by omega))) with h | h
      · exact h
      · exact absurd h.symm (hno r (by omega))
    by_cases hkr : k - 1 = r
    · rw [hkr]; exact hx
    · exact Int32.lt_trans hx (hS r (k - 1) (by omega) (by omega))
  · by_cases hkr : k = r
    · rw [hkr, upd_at, hsh i hi, if_neg (by omega)]
      exact p1 i (by omega) (by omega)
    · rw [hsh i hi, hsh k hkr]
      by_cases a : r < i ∧ i ≤ n
      · rw [if_pos a, if_pos (by omega)]; exact hS (i - 1) (k - 1) (by omega) (by omega)
      · rw [if_neg a]
        by_cases b : r < k ∧ k ≤ n
        · rw [if_pos b]
          by_cases e : i = k - 1
          · exact absurd e (by omega)
          · exact hS i (k - 1) (by omega) (by omega)
        · rw [if_neg b]; exact hS i k hik (by omega)
theorem Srt_rem {n p : Nat} {mo : Nat → Int32} (hS : Srt n mo) (hp : p < n) : Srt (n - 1) (shd mo (n - 1 - p) p) := by
  intro i k hik hk
  rw [shd_at, shd_at]
  by_cases a : p ≤ i
  · rw [if_pos (by omega), if_pos (by omega)]; exact hS _ _ (by omega) (by omega)
  · rw [if_neg (by omega)]
    by_cases b : p ≤ k
    · rw [if_pos (by omega)]; exact hS _ _ (by omega) (by omega)
    · rw [if_neg (by omega)]; exact hS _ _ hik (by omega)
/-- what holds of each operation and of the one put in -/
theorem all_ins {n r : Nat} {P : Int32 → Int32 → Int32 → Int32 → Prop} {a b c d : Nat → Int32} {x y z w : Int32} (h : ∀ p, p < n → P (a p) (b p) (c p) (d p)) (hr : r ≤ n) (h0 : P x y z w) : ∀ p, p < n + 1 → P (upd (shu a (n - r) n) r x p) (upd (shu b (n - r) n) r y p) (upd (shu c (n - r) n) r z p) (upd (shu d (n - r) n) r w p) := by
  intro p hp
  by_cases e : p = r
  · rw [e, upd_at, upd_at, upd_at, upd_at]; exact h0
  · rw [upd_ne _ _ e, upd_ne _ _ e, upd_ne _ _ e, upd_ne _ _ e, shu_at _ _ _ _ (by omega), shu_at _ _ _ _ (by omega), shu_at _ _ _ _ (by omega), shu_at _ _ _ _ (by omega)]
    by_cases c9 : r < p
    · have hc : n - (n - r) < p ∧ p ≤ n := by omega
      simp only [if_pos hc]; exact h (p - 1) (by omega)
    · have hc : ¬ (n - (n - r) < p ∧ p ≤ n) := by omega
      simp only [if_neg hc]; exact h p (by omega)
theorem all_rem {n q : Nat} {P : Int32 → Int32 → Int32 → Int32 → Prop} {a b c d : Nat → Int32} (h : ∀ p, p < n → P (a p) (b p) (c p) (d p)) (hq : q < n) : ∀ p, p < n - 1 → P (shd a (n - 1 - q) q p) (shd b (n - 1 - q) q p) (shd c (n - 1 - q) q p) (shd d (n - 1 - q) q p) := by
  intro p hp
  rw [shd_at, shd_at, shd_at, shd_at]
  by_cases c9 : q ≤ p
  · have hc : q ≤ p ∧ p < q + (n - 1 - q) := by omega
    simp only [if_pos hc]; exact h (p + 1) (by omega)
  · have hc : ¬ (q ≤ p ∧ p < q + (n - 1 - q)) := by omega
    simp only [if_neg hc]; exact h p (by omega)
theorem rdo_congr {S : Type} {stC : Int32 → Int32 → Int32 → S → S × Int64 × Int32} {na aa bb na2 aa2 bb2 : Nat → Int32} : ∀ (k i : Nat) (st : S × Int64 × Int32) (re : Nat → Int64) (ef : Nat → Int32), (∀ p, i ≤ p → p < i + k → na p = na2 p ∧ aa p = aa2 p ∧ bb p = bb2 p) → rdo stC na aa bb k i st re ef = rdo stC na2 aa2 bb2 k i st re ef := by
  intro k
  induction k with
  | zero => intro i st re ef h; rfl
  | succ k ih =>
    intro i st re ef h
    unfold rdo
    obtain ⟨e1, e2, e3⟩ := h i (Nat.le_refl _) (by omega)
    rw [e1, e2, e3]
    exact ih _ _ _ _ (fun p h1 h2 => h p (by omega) (by omega))
