/-! counting effects and finding the first change, on both sides -/
/-- the reference's count -/
def cem (ti wk : Nat → Int32) (b : Nat) (t u : Int32) : Nat → Nat → Nat → Nat
  | 0, _, c => c
  | k + 1, i, c => if ti (b + i) < t then cem ti wk b t u k (i + 1) c else if u < ti (b + i) then cem ti wk b t u k (i + 1) c else if wk i = 0 then cem ti wk b t u k (i + 1) c else cem ti wk b t u k (i + 1) (c + 1)
theorem cem_lo {ti wk : Nat → Int32} {b : Nat} {t u : Int32} : ∀ (d k i c : Nat), (∀ q, i ≤ q → q < i + d → ti (b + q) < t) → cem ti wk b t u (d + k) i c = cem ti wk b t u k (i + d) c := by
  intro d
  induction d with
  | zero => intro k i c h; rw [Nat.zero_add, Nat.add_zero]
  | succ d ih =>
    intro k i c h
    rw [show d + 1 + k = (d + k) + 1 by omega]
    have e : cem ti wk b t u (d + k + 1) i c = cem ti wk b t u (d + k) (i + 1) c := if_pos (h i (Nat.le_refl _) (by omega))
    rw [e, ih k (i + 1) c (fun q h1 h2 => h q (by omega) (by omega)), show i + 1 + d = i + (d + 1) by omega]
theorem cem_hi {ti wk : Nat → Int32} {b : Nat} {t u : Int32} : ∀ (k i c : Nat), (∀ q, i ≤ q → q < i + k → u < ti (b + q)) → cem ti wk b t u k i c = c := by
  intro k
  induction k with
  | zero => intro i c h; rfl
  | succ k ih =>
    intro i c h
    unfold cem
    rw [if_pos (h i (Nat.le_refl _) (by omega)), ih (i + 1) c (fun q h1 h2 => h q (by omega) (by omega))]
    split <;> rfl
theorem cem_eq {ti wk mo ef : Nat → Int32} {b n : Nat} {t u : Int32} (hS : Srt n mo) (hL : LE1 n mo ti b) (hw : ∀ p, p < n → (∀ z, z ≤ p → mo z ≤ u) → wk p = ef p) : ∀ (k i c : Nat), i + k = n → (∀ q, i ≤ q → q < n → ¬ mo q < t) → cem ti wk b t u k i c = c + cef mo ef u k i := by
  intro k
  induction k with
  | zero => intro i c h h1; rfl
  | succ k ih =>
    intro i c h h1
    have hi : i < n := by omega
    by_cases hu : mo i ≤ u
    · unfold cem cef
      rw [hL i hi, if_neg (h1 i (Nat.le_refl _) hi), if_neg (Int32.not_lt.mpr hu), if_pos hu, hw i hi (fun z hz => by
        rcases Nat.lt_or_ge z i with h9 | h9
        · exact Int32.le_trans (Int32.le_of_lt (hS z i h9 hi)) hu
        · rw [show z = i by omega]; exact hu)]
      by_cases he : ef i = 0
      · rw [if_pos he, if_pos he, ih (i + 1) c (by omega) (fun q h2 h3 => h1 q (by omega) h3)]; omega
      · rw [if_neg he, if_neg he, ih (i + 1) (c + 1) (by omega) (fun q h2 h3 => h1 q (by omega) h3)]; omega
    · rw [cem_hi (k + 1) i c (fun q h2 h3 => by
        rw [hL q (by omega)]
        rcases Nat.lt_or_ge i q with h9 | h9
        · exact Int32.lt_trans (Int32.not_le.mp hu) (hS i q h9 (by omega))
        · rw [show q = i by omega]; exact Int32.not_le.mp hu)]
      unfold cef
      rw [if_neg hu]
      rfl
theorem cem_ok {ti wk mo ef : Nat → Int32} {b n : Nat} {t u : Int32} (hS : Srt n mo) (hL : LE1 n mo ti b) (hw : ∀ p, p < n → (∀ z, z ≤ p → mo z ≤ u) → wk p = ef p) : cem ti wk b t u n 0 0 = cef mo ef u (n - pfr mo t n 0) (pfr mo t n 0) := by
  obtain ⟨p1, p2⟩ := pfr_spec mo t n 0
  have hle := pfr_le mo t n 0
  generalize pfr mo t n 0 = r at p1 p2 hle
  have h1 := cem_lo (ti := ti) (wk := wk) (b := b) (t := t) (u := u) r (n - r) 0 0 (fun q h1 h2 => by rw [hL q (by omega)]; exact p1 q (by omega) (by omega))
  rw [show r + (n - r) = n by omega, Nat.zero_add] at h1
  rw [h1, cem_eq hS hL hw (n - r) r 0 (by omega) (fun q h2 h3 h4 => by
    have h5 := p2 (by omega)
    rcases Nat.lt_or_ge r q with h9 | h9
    · exact h5 (Int32.lt_trans (hS r q h9 h3) h4)
    · rw [show q = r by omega] at h4; exact h5 h4), Nat.zero_add]
/-! the first change -/
def Dif (n : Nat) (mo : Nat → Int32) (re : Nat → Int64) (ef : Nat → Int32) (n2 : Nat) (mo2 : Nat → Int32) (re2 : Nat → Int64) (ef2 : Nat → Int32) (x : Int32) : Prop :=
  (∃ i, i < n ∧ mo i = x ∧ ∀ p, p < n2 → mo2 p = x → ¬ (re i = re2 p ∧ ef i = ef2 p)) ∨ (∃ p, p < n2 ∧ mo2 p = x ∧ ∀ i, i < n → ¬ mo i = x)
def IsL (F : Int32 → Prop) (t m : Int32) : Prop := (m = 1000000001 ∧ ∀ x, F x → ¬ t ≤ x) ∨ (F m ∧ t ≤ m ∧ ∀ x, F x → t ≤ x → m ≤ x)
theorem Srt_le {n : Nat} {mo : Nat → Int32} (hS : Srt n mo) {i q : Nat} (h : i ≤ q) (hq : q < n) : mo i ≤ mo q := by
  rcases Nat.lt_or_ge i q with h9 | h9
  · exact Int32.le_of_lt (hS i q h9 hq)
  · rw [show q = i by omega]; exact Int32.le_refl _
theorem Srt_inj {n : Nat} {mo : Nat → Int32} (hS : Srt n mo) {i q : Nat} (hi : i < n) (hq : q < n) (h : mo i = mo q) : i = q := by
  rcases Nat.lt_trichotomy i q with h9 | h9 | h9
  · exact absurd (hS i q h9 hq) (by rw [h]; exact Int32.lt_irrefl)
  · exact h9
  · exact absurd (hS q i h9 hi) (by rw [h]; exact Int32.lt_irrefl)
theorem i32_lc {a b : Int32} (h : a ≤ b) (h2 : b < a) : False := Int32.not_lt.mpr h h2
theorem never_gt {x : Int32} (h : okM x) : x < 1000000001 := by
  have h2 := Int32.not_lt.mp h.2
  exact Int32.lt_of_le_of_lt h2 (by decide)
section FD
variable {n n2 : Nat} {mo mo2 ef ef2 : Nat → Int32} {re re2 : Nat → Int64} {t : Int32}
theorem fd_end {i i2 : Nat} (hS : Srt n mo) (hS2 : Srt n2 mo2) (hm : ∀ p, p < n → okM (mo p)) (hm2 : ∀ p, p < n2 → okM (mo2 p)) (hle : i ≤ n) (hle2 : i2 ≤ n2) (hA : ∀ q, q < i → mo q < t ∨ ∃ p, p < i2 ∧ mo2 p = mo q ∧ re q = re2 p ∧ ef q = ef2 p) (hB : ∀ p, p < i2 → mo2 p < t ∨ ∃ q, q < i ∧ mo q = mo2 p) (hC : ∀ q, i ≤ q → q < n → t ≤ mo q) (hD : ∀ p, i2 ≤ p → p < n2 → t ≤ mo2 p) (hx : i < n → i2 < n2 → ¬ (mo i = mo2 i2 ∧ re i = re2 i2 ∧ ef i = ef2 i2)) :
    IsL (Dif n mo re ef n2 mo2 re2 ef2) t (if (if i2 < n2 then mo2 i2 else 1000000001) < (if i < n then mo i else 1000000001) then (if i2 < n2 then mo2 i2 else 1000000001) else (if i < n then mo i else 1000000001)) := by
  have hmin : ∀ x, Dif n mo re ef n2 mo2 re2 ef2 x → t ≤ x → (i < n ∧ mo i ≤ x) ∨ (i2 < n2 ∧ mo2 i2 ≤ x) := by
    intro x hx ht
    rcases hx with ⟨q, hq, e, h⟩ | ⟨p, hp, e, h⟩
    · rcases Nat.lt_or_ge q i with h9 | h9
      · rcases hA q h9 with h8 | ⟨p, g1, g2, g3, g4⟩
        · exact (i32_lc ht (by rw [← e]; exact h8)).elim
        · exact (h p (by omega) (g2.trans e) ⟨g3, g4⟩).elim
      · exact Or.inl ⟨by omega, by rw [← e]; exact Srt_le hS h9 hq⟩
    · rcases Nat.lt_or_ge p i2 with h9 | h9
      · rcases hB p h9 with h8 | ⟨q, g1, g2⟩
        · exact (i32_lc ht (by rw [← e]; exact h8)).elim
        · exact (h q (by omega) (g2.trans e)).elim
      · exact Or.inr ⟨by omega, by rw [← e]; exact Srt_le hS2 h9 hp⟩
  have hL : i < n → (i2 < n2 → mo i ≤ mo2 i2) → Dif n mo re ef n2 mo2 re2 ef2 (mo i) := by
    intro a c
    refine Or.inl ⟨i, a, rfl, fun p hp e => ?_⟩
    rcases Nat.lt_trichotomy p i2 with h9 | h9 | h9
    · rcases hB p h9 with h8 | ⟨q, g1, g2⟩
      · exact (i32_lc (hC i (Nat.le_refl _) a) (by rw [← e]; exact h8)).elim
      · have := hS q i g1 a
        rw [g2, e] at this
        exact absurd this Int32.lt_irrefl
    · subst h9
      exact fun h => hx a hp ⟨e.symm, h.1, h.2⟩
    · have h7 := hS2 i2 p h9 hp
      rw [e] at h7
      exact (i32_lc (c (by omega)) h7).elim
  have hR : i2 < n2 → (i < n → mo2 i2 < mo i) → Dif n mo re ef n2 mo2 re2 ef2 (mo2 i2) := by
    intro b c
    refine Or.inr ⟨i2, b, rfl, fun q hq e => ?_⟩
    rcases Nat.lt_or_ge q i with h9 | h9
    · rcases hA q h9 with h8 | ⟨p, g1, g2, -, -⟩
      · exact i32_lc (hD i2 (Nat.le_refl _) b) (by rw [← e]; exact h8)
      · have := hS2 p i2 g1 b
        rw [g2, e] at this
        exact absurd this Int32.lt_irrefl
    · have h7 := Srt_le hS h9 hq
      rw [e] at h7
      exact i32_lc h7 (c (by omega))
  by_cases a : i < n
  · rw [if_pos a]
    by_cases b : i2 < n2
    · rw [if_pos b]
      by_cases c : mo2 i2 < mo i
      · rw [if_pos c]
        refine Or.inr ⟨hR b (fun _ => c), hD i2 (Nat.le_refl _) b, fun x h1 h2 => ?_⟩
        rcases hmin x h1 h2 with ⟨-, h⟩ | ⟨-, h⟩
        · exact Int32.le_trans (Int32.le_of_lt c) h
        · exact h
      · rw [if_neg c]
        have c := Int32.not_lt.mp c
        refine Or.inr ⟨hL a (fun _ => c), hC i (Nat.le_refl _) a, fun x h1 h2 => ?_⟩
        rcases hmin x h1 h2 with ⟨-, h⟩ | ⟨-, h⟩
        · exact h
        · exact Int32.le_trans c h
    · rw [if_neg b, if_neg (fun h => i32_lc (Int32.le_of_lt h) (never_gt (hm i a)))]
      refine Or.inr ⟨hL a (fun h => absurd h b), hC i (Nat.le_refl _) a, fun x h1 h2 => ?_⟩
      rcases hmin x h1 h2 with ⟨-, h⟩ | ⟨h, -⟩
      · exact h
      · exact absurd h b
  · rw [if_neg a]
    by_cases b : i2 < n2
    · rw [if_pos b, if_pos (never_gt (hm2 i2 b))]
      refine Or.inr ⟨hR b (fun h => absurd h a), hD i2 (Nat.le_refl _) b, fun x h1 h2 => ?_⟩
      rcases hmin x h1 h2 with ⟨h, -⟩ | ⟨-, h⟩
      · exact absurd h a
      · exact h
    · rw [if_neg b, if_neg Int32.lt_irrefl]
      refine Or.inl ⟨rfl, fun x h1 h2 => ?_⟩
      rcases hmin x h1 h2 with ⟨h, -⟩ | ⟨h, -⟩
      · exact a h
      · exact b h
theorem fd_go (hS : Srt n mo) (hS2 : Srt n2 mo2) (hm : ∀ p, p < n → okM (mo p)) (hm2 : ∀ p, p < n2 → okM (mo2 p)) : ∀ (k i i2 : Nat), i + k = n → i2 ≤ n2 → (∀ q, q < i → mo q < t ∨ ∃ p, p < i2 ∧ mo2 p = mo q ∧ re q = re2 p ∧ ef q = ef2 p) → (∀ p, p < i2 → mo2 p < t ∨ ∃ q, q < i ∧ mo q = mo2 p) → (∀ q, i ≤ q → q < n → t ≤ mo q) → (∀ p, i2 ≤ p → p < n2 → t ≤ mo2 p) →
    IsL (Dif n mo re ef n2 mo2 re2 ef2) t (g_Li_firstDifference_13 n mo re ef n2 mo2 re2 ef2 k i i2) := by
  intro k
  induction k with
  | zero =>
    intro i i2 h1 h2 hA hB hC hD
    exact fd_end hS hS2 hm hm2 (by omega) h2 hA hB hC hD (fun h => absurd h (by omega))
  | succ k ih =>
    intro i i2 h1 h2 hA hB hC hD
    unfold g_Li_firstDifference_13
    by_cases a : n2 ≤ i2
    · rw [if_pos a]
      exact fd_end hS hS2 hm hm2 (by omega) h2 hA hB hC hD (fun _ h => absurd h (by omega))
    · rw [if_neg a]
      by_cases b : mo i = mo2 i2 ∧ re i = re2 i2 ∧ ef i = ef2 i2
      · rw [if_pos b]
        refine ih (i + 1) (i2 + 1) (by omega) (by omega) (fun q hq => ?_) (fun p hp => ?_) (fun q h3 h4 => hC q (by omega) h4) (fun p h3 h4 => hD p (by omega) h4)
        · rcases Nat.lt_or_ge q i with h9 | h9
          · rcases hA q h9 with h8 | ⟨p, g1, g2⟩
            · exact Or.inl h8
            · exact Or.inr ⟨p, by omega, g2⟩
          · have : q = i := by omega
            subst this
            exact Or.inr ⟨i2, by omega, b.1.symm, b.2⟩
        · rcases Nat.lt_or_ge p i2 with h9 | h9
          · rcases hB p h9 with h8 | ⟨q, g1, g2⟩
            · exact Or.inl h8
            · exact Or.inr ⟨q, by omega, g2⟩
          · have : p = i2 := by omega
            subst this
            exact Or.inr ⟨i, by omega, b.1⟩
      · rw [if_neg b]
        exact fd_end hS hS2 hm hm2 (by omega) h2 hA hB hC hD (fun _ _ => b)
theorem pfr_hi (hS : Srt n mo) (q : Nat) (h : pfr mo t n 0 ≤ q) (hq : q < n) : t ≤ mo q := by
  obtain ⟨-, p2⟩ := pfr_spec mo t n 0
  exact Int32.le_trans (Int32.not_lt.mp (p2 (by omega))) (Srt_le hS h hq)
theorem fd_ok (hS : Srt n mo) (hS2 : Srt n2 mo2) (hm : ∀ p, p < n → okM (mo p)) (hm2 : ∀ p, p < n2 → okM (mo2 p)) : IsL (Dif n mo re ef n2 mo2 re2 ef2) t (f_Li_firstDifference n mo re ef n2 mo2 re2 ef2 t) := by
  have p1 := (pfr_spec mo t n 0).1
  have p2 := (pfr_spec mo2 t n2 0).1
  have l1 := pfr_le mo t n 0
  have l2 := pfr_le mo2 t n2 0
  exact fd_go hS hS2 hm hm2 _ _ _ (by omega) (by omega) (fun q hq => Or.inl (p1 q (by omega) hq)) (fun p hp => Or.inl (p2 p (by omega) hp)) (fun q => pfr_hi hS q) (fun p => pfr_hi hS2 p)
end FD
/-! the reference's two loops -/
def fcw (x t u be : Int32) : Int32 := if x < t then be else if u < x then be else if be = 0 then x else if be ≤ x then be else x
def fc2 (ti : Nat → Int32) (n j : Nat) (t u : Int32) : Nat → Nat → Int32 → Int32
  | 0, _, be => be
  | k + 1, i, be => fc2 ti n j t u k (i + 1) (if ¬ (f_Mo_find ti n j (ti (32 * (j + 4) + i))) = -1 then be else fcw (ti (32 * (j + 4) + i)) t u be)
def fc1 (ti : Nat → Int32) (n2 j : Nat) (t u : Int32) (rs : Nat → Int64) (wk : Nat → Int32) (ors : Nat → Int64) (owk : Nat → Int32) : Nat → Nat → Int32 → Int32
  | 0, _, be => be
  | k + 1, i, be => fc1 ti n2 j t u rs wk ors owk k (i + 1) (if ¬ (f_Mo_find ti n2 (j + 4) (ti (32 * j + i))) = -1 then (if (lg_cmp (ors ((f_Mo_find ti n2 (j + 4) (ti (32 * j + i))).toNatClampNeg)) (rs i)) = 0 then (if (owk ((f_Mo_find ti n2 (j + 4) (ti (32 * j + i))).toNatClampNeg)) = (wk i) then be else fcw (ti (32 * j + i)) t u be) else fcw (ti (32 * j + i)) t u be) else fcw (ti (32 * j + i)) t u be)
def Bst (S : Int32 → Prop) (b : Int32) : Prop := (b = 0 ∧ ∀ x, ¬ S x) ∨ (S b ∧ ∀ x, S x → b ≤ x)
theorem ok_ne0 {x : Int32} (h : okM x) : ¬ x = 0 := fun e => h.1 (by rw [e]; decide)
theorem bst_same {S S1 : Int32 → Prop} {b : Int32} (h : Bst S b) (hS : ∀ y, S1 y ↔ S y) : Bst S1 b := by
  rcases h with ⟨h1, h2⟩ | ⟨h1, h2⟩
  · exact Or.inl ⟨h1, fun x hx => h2 x ((hS x).mp hx)⟩
  · exact Or.inr ⟨(hS b).mpr h1, fun x hx => h2 x ((hS x).mp hx)⟩
theorem fcw_ok {S S1 : Int32 → Prop} {x t u b : Int32} (hp : ∀ y, S y → okM y) (h : Bst S b) (hS : ∀ y, S1 y ↔ S y ∨ (y = x ∧ t ≤ x ∧ x ≤ u)) : Bst S1 (fcw x t u b) := by
  unfold fcw
  by_cases c1 : x < t
  · rw [if_pos c1]
    refine bst_same h (fun y => (hS y).trans ⟨fun h9 => h9.elim id (fun h8 => (i32_lc h8.2.1 c1).elim), Or.inl⟩)
  · rw [if_neg c1]
    by_cases c2 : u < x
    · rw [if_pos c2]
      refine bst_same h (fun y => (hS y).trans ⟨fun h9 => h9.elim id (fun h8 => (i32_lc h8.2.2 c2).elim), Or.inl⟩)
    · rw [if_neg c2]
      have hx : S1 x := (hS x).mpr (Or.inr ⟨rfl, Int32.not_lt.mp c1, Int32.not_lt.mp c2⟩)
      rcases h with ⟨h1, h2⟩ | ⟨h1, h2⟩
      · rw [if_pos h1]
        refine Or.inr ⟨hx, fun y hy => ?_⟩
        rcases (hS y).mp hy with h9 | h9
        · exact absurd h9 (h2 y)
        · rw [h9.1]; exact Int32.le_refl _
      · rw [if_neg (ok_ne0 (hp b h1))]
        by_cases c3 : b ≤ x
        · rw [if_pos c3]
          refine Or.inr ⟨(hS b).mpr (Or.inl h1), fun y hy => ?_⟩
          rcases (hS y).mp hy with h9 | h9
          · exact h2 y h9
          · rw [h9.1]; exact c3
        · rw [if_neg c3]
          refine Or.inr ⟨hx, fun y hy => ?_⟩
          rcases (hS y).mp hy with h9 | h9
          · exact Int32.le_trans (Int32.le_of_lt (Int32.not_le.mp c3)) (h2 y h9)
          · rw [h9.1]; exact Int32.le_refl _
section FC
variable {n n2 j : Nat} {mo mo2 ef ef2 ti wk owk : Nat → Int32} {re re2 rs ors : Nat → Int64} {t u : Int32}
theorem fc1_go (hS2 : Srt n2 mo2) (hn2 : n2 ≤ 32) (hm : ∀ p, p < n → okM (mo p)) (hL : LE1 n mo ti (32 * j)) (hL2 : LE1 n2 mo2 ti (32 * (j + 4))) (hr : ∀ p, p < n → rs p = re p ∧ wk p = ef p) (hr2 : ∀ p, p < n2 → ors p = re2 p ∧ owk p = ef2 p) : ∀ (k i : Nat) (be : Int32), i + k = n → Bst (fun x => ∃ q, q < i ∧ mo q = x ∧ (∀ p, p < n2 → mo2 p = x → ¬ (re q = re2 p ∧ ef q = ef2 p)) ∧ t ≤ x ∧ x ≤ u) be →
    Bst (fun x => ∃ q, q < n ∧ mo q = x ∧ (∀ p, p < n2 → mo2 p = x → ¬ (re q = re2 p ∧ ef q = ef2 p)) ∧ t ≤ x ∧ x ≤ u) (fc1 ti n2 j t u rs wk ors owk k i be) := by
  intro k
  induction k with
  | zero =>
    intro i be h1 h
    have : i = n := by omega
    subst this
    exact h
  | succ k ih =>
    intro i be h1 h
    have hi : i < n := by omega
    refine ih (i + 1) _ (by omega) ?_
    rw [find_pat hL2 hS2, hL i hi]
    have hpos : ∀ y, (∃ q, q < i ∧ mo q = y ∧ (∀ p, p < n2 → mo2 p = y → ¬ (re q = re2 p ∧ ef q = ef2 p)) ∧ t ≤ y ∧ y ≤ u) → okM y := fun y ⟨q, h2, h3, _⟩ => by rw [← h3]; exact hm q (by omega)
    have hadd : (∀ p, p < n2 → mo2 p = mo i → ¬ (re i = re2 p ∧ ef i = ef2 p)) → Bst (fun x => ∃ q, q < i + 1 ∧ mo q = x ∧ (∀ p, p < n2 → mo2 p = x → ¬ (re q = re2 p ∧ ef q = ef2 p)) ∧ t ≤ x ∧ x ≤ u) (fcw (mo i) t u be) := by
      intro hd
      refine fcw_ok hpos h (fun y => ⟨fun ⟨q, h2, h3, h4, h5⟩ => ?_, fun h9 => ?_⟩)
      · rcases Nat.lt_or_ge q i with h8 | h8
        · exact Or.inl ⟨q, h8, h3, h4, h5⟩
        · have : q = i := by omega
          subst this
          rw [← h3] at h5
          exact Or.inr ⟨h3.symm, h5⟩
      · rcases h9 with ⟨q, h2, h3⟩ | ⟨h2, h3⟩
        · exact ⟨q, by omega, h3⟩
        · refine ⟨i, by omega, h2.symm, ?_, ?_⟩
          · rw [h2]; exact hd
          · rw [h2]; exact h3
    have hno : (∃ p, p < n2 ∧ mo2 p = mo i ∧ re i = re2 p ∧ ef i = ef2 p) → Bst (fun x => ∃ q, q < i + 1 ∧ mo q = x ∧ (∀ p, p < n2 → mo2 p = x → ¬ (re q = re2 p ∧ ef q = ef2 p)) ∧ t ≤ x ∧ x ≤ u) be := by
      rintro ⟨p, g1, g2, g3⟩
      refine bst_same h (fun y => ⟨fun ⟨q, h2, h3, h4, h5⟩ => ?_, fun ⟨q, h2, h3⟩ => ⟨q, by omega, h3⟩⟩)
      rcases Nat.lt_or_ge q i with h8 | h8
      · exact ⟨q, h8, h3, h4, h5⟩
      · have : q = i := by omega
        subst this
        exact absurd g3 (h4 p g1 (g2.trans h3))
    by_cases hp : pat mo2 (mo i) n2 = -1
    · rw [if_neg (fun h9 => h9 hp)]
      refine hadd (fun p hp2 e => ?_)
      exfalso
      -- no place of the other line has the moment
      have hq := fi_go ti (j + 4) (mo i) n2 0 (-1)
      have e0 : g_Mo_find_5 ti (j + 4) (mo i) n2 0 (-1) = -1 := (find_pat hL2 hS2).trans hp
      rcases hq with ⟨-, h9⟩ | ⟨z, h7, h8, h9, -⟩
      · exact h9 p (by omega) (by omega) ((hL2 p hp2).trans e)
      · rw [e0] at h9
        exact nI_ne_m1 (show z < 2 ^ 31 by omega) h9.symm
    · rw [if_pos hp]
      obtain ⟨g1, g2, g3⟩ := pat_pf hp
      rw [g1, nI_clamp (by omega)]
      generalize pfr mo2 (mo i) n2 0 = z at g2 g3
      obtain ⟨r1, r2⟩ := hr i hi
      obtain ⟨s1, s2⟩ := hr2 z g2
      rw [r1, r2, s1, s2]
      by_cases c1 : lg_cmp (re2 z) (re i) = 0
      · rw [if_pos c1]
        have c1 := (lg_cmp_eq _ _).mp c1
        by_cases c2 : ef2 z = ef i
        · rw [if_pos c2]
          exact hno ⟨z, g2, g3, c1.symm, c2.symm⟩
        · rw [if_neg c2]
          refine hadd (fun p hp2 e h9 => ?_)
          have := Srt_inj hS2 hp2 g2 (e.trans g3.symm)
          subst this
          exact c2 h9.2.symm
      · rw [if_neg c1]
        refine hadd (fun p hp2 e h9 => ?_)
        have := Srt_inj hS2 hp2 g2 (e.trans g3.symm)
        subst this
        exact c1 ((lg_cmp_eq _ _).mpr h9.1.symm)
theorem fc2_go (hS : Srt n mo) (hn : n ≤ 32) (hm2 : ∀ p, p < n2 → okM (mo2 p)) (hL : LE1 n mo ti (32 * j)) (hL2 : LE1 n2 mo2 ti (32 * (j + 4))) (S : Int32 → Prop) (hp : ∀ y, S y → okM y) : ∀ (k i : Nat) (be : Int32), i + k = n2 → Bst (fun x => S x ∨ ∃ q, q < i ∧ mo2 q = x ∧ (∀ p, p < n → ¬ mo p = x) ∧ t ≤ x ∧ x ≤ u) be →
    Bst (fun x => S x ∨ ∃ q, q < n2 ∧ mo2 q = x ∧ (∀ p, p < n → ¬ mo p = x) ∧ t ≤ x ∧ x ≤ u) (fc2 ti n j t u k i be) := by
  intro k
  induction k with
  | zero =>
    intro i be h1 h
    have : i = n2 := by omega
    subst this
    exact h
  | succ k ih =>
    intro i be h1 h
    have hi : i < n2 := by omega
    refine ih (i + 1) _ (by omega) ?_
    rw [find_pat hL hS, hL2 i hi]
    by_cases hq : pat mo (mo2 i) n = -1
    · rw [if_neg (fun h9 => h9 hq)]
      have hd : ∀ p, p < n → ¬ mo p = mo2 i := by
        intro p hp2 e
        have hq2 := fi_go ti j (mo2 i) n 0 (-1)
        have e0 : g_Mo_find_5 ti j (mo2 i) n 0 (-1) = -1 := (find_pat hL hS).trans hq
        rcases hq2 with ⟨-, h9⟩ | ⟨z, h7, h8, h9, -⟩
        · exact h9 p (by omega) (by omega) ((hL p hp2).trans e)
        · rw [e0] at h9
          exact nI_ne_m1 (show z < 2 ^ 31 by omega) h9.symm
      refine fcw_ok (fun y hy => ?_) h (fun y => ⟨fun h9 => ?_, fun h9 => ?_⟩)
      · rcases hy with h9 | ⟨q, h2, h3, -⟩
        · exact hp y h9
        · rw [← h3]; exact hm2 q (by omega)
      · rcases h9 with h9 | ⟨q, h2, h3, h4, h5⟩
        · exact Or.inl (Or.inl h9)
        · rcases Nat.lt_or_ge q i with h8 | h8
          · exact Or.inl (Or.inr ⟨q, h8, h3, h4, h5⟩)
          · have : q = i := by omega
            subst this
            rw [← h3] at h5
            exact Or.inr ⟨h3.symm, h5⟩
      · rcases h9 with (h9 | ⟨q, h2, h3⟩) | ⟨h2, h3⟩
        · exact Or.inl h9
        · exact Or.inr ⟨q, by omega, h3⟩
        · refine Or.inr ⟨i, by omega, h2.symm, ?_, ?_⟩
          · rw [h2]; exact hd
          · rw [h2]; exact h3
    · rw [if_pos hq]
      obtain ⟨-, g2, g3⟩ := pat_pf hq
      refine bst_same h (fun y => ⟨fun h9 => ?_, fun h9 => ?_⟩)
      · rcases h9 with h9 | ⟨q, h2, h3, h4, h5⟩
        · exact Or.inl h9
        · rcases Nat.lt_or_ge q i with h8 | h8
          · exact Or.inr ⟨q, h8, h3, h4, h5⟩
          · have : q = i := by omega
            subst this
            exact absurd (g3.trans h3) (h4 _ g2)
      · rcases h9 with h9 | ⟨q, h2, h3⟩
        · exact Or.inl h9
        · exact Or.inr ⟨q, by omega, h3⟩
theorem fc_ok (hS : Srt n mo) (hS2 : Srt n2 mo2) (hn : n ≤ 32) (hn2 : n2 ≤ 32) (hm : ∀ p, p < n → okM (mo p)) (hm2 : ∀ p, p < n2 → okM (mo2 p)) (hL : LE1 n mo ti (32 * j)) (hL2 : LE1 n2 mo2 ti (32 * (j + 4))) (hr : ∀ p, p < n → rs p = re p ∧ wk p = ef p) (hr2 : ∀ p, p < n2 → ors p = re2 p ∧ owk p = ef2 p) (hu : okM u) :
    fc2 ti n j t u n2 0 (fc1 ti n2 j t u rs wk ors owk n 0 0) = if u < f_Li_firstDifference n mo re ef n2 mo2 re2 ef2 t then 0 else f_Li_firstDifference n mo re ef n2 mo2 re2 ef2 t := by
  have h1 := fc1_go (t := t) (u := u) (re := re) (ef := ef) (re2 := re2) (ef2 := ef2) hS2 hn2 hm hL hL2 hr hr2 n 0 0 (by omega) (Or.inl ⟨rfl, fun x ⟨q, h, _⟩ => absurd h (Nat.not_lt_zero _)⟩)
  have h2 := fc2_go (t := t) (u := u) hS hn hm2 hL hL2 _ (fun y ⟨q, g1, g2, _⟩ => by rw [← g2]; exact hm q g1) n2 0 _ (by omega) (bst_same h1 (fun y => ⟨fun h9 => h9.elim id (fun ⟨q, h, _⟩ => absurd h (Nat.not_lt_zero _)), Or.inl⟩))
  have hL' := fd_ok (t := t) (re := re) (ef := ef) (re2 := re2) (ef2 := ef2) hS hS2 hm hm2
  generalize fc2 ti n j t u n2 0 (fc1 ti n2 j t u rs wk ors owk n 0 0) = b at h2
  generalize f_Li_firstDifference n mo re ef n2 mo2 re2 ef2 t = m at hL'
  have hi : ∀ x, ((∃ q, q < n ∧ mo q = x ∧ (∀ p, p < n2 → mo2 p = x → ¬ (re q = re2 p ∧ ef q = ef2 p)) ∧ t ≤ x ∧ x ≤ u) ∨ ∃ q, q < n2 ∧ mo2 q = x ∧ (∀ p, p < n → ¬ mo p = x) ∧ t ≤ x ∧ x ≤ u) ↔ (Dif n mo re ef n2 mo2 re2 ef2 x ∧ t ≤ x ∧ x ≤ u) := fun x => by
    constructor
    · rintro (⟨q, g1, g2, g3, g4⟩ | ⟨q, g1, g2, g3, g4⟩)
      · exact ⟨Or.inl ⟨q, g1, g2, g3⟩, g4⟩
      · exact ⟨Or.inr ⟨q, g1, g2, g3⟩, g4⟩
    · rintro ⟨⟨q, g1, g2, g3⟩ | ⟨q, g1, g2, g3⟩, g4⟩
      · exact Or.inl ⟨q, g1, g2, g3, g4⟩
      · exact Or.inr ⟨q, g1, g2, g3, g4⟩
  have h2 : Bst (fun x => Dif n mo re ef n2 mo2 re2 ef2 x ∧ t ≤ x ∧ x ≤ u) b := bst_same h2 (fun y => (hi y).symm)
  rcases hL' with ⟨e, h3⟩ | ⟨h3, h4, h5⟩
  · rw [if_pos (by rw [e]; exact never_gt hu)]
    rcases h2 with ⟨g1, -⟩ | ⟨g1, -⟩
    · exact g1
    · exact absurd g1.2.1 (h3 b g1.1)
  · by_cases c : u < m
    · rw [if_pos c]
      rcases h2 with ⟨g1, -⟩ | ⟨g1, -⟩
      · exact g1
      · exact (i32_lc (Int32.le_trans (h5 b g1.1 g1.2.1) g1.2.2) c).elim
    · rw [if_neg c]
      have c := Int32.not_lt.mp c
      rcases h2 with ⟨-, g2⟩ | ⟨g1, g2⟩
      · exact absurd ⟨h3, h4, c⟩ (g2 m)
      · exact Int32.le_antisymm (g2 m ⟨h3, h4, c⟩) (h5 b g1.1 g1.2.1)
end FC
