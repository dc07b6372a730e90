/-! heap: the class keeps its values in order, the reference as they came; both hold each value equally often -/
def cnt (f : Nat → Int32) (c : Int32) : Nat → Nat
  | 0 => 0
  | n + 1 => cnt f c n + (if f n = c then 1 else 0)
theorem cnt_congr {f g : Nat → Int32} (c : Int32) : ∀ n, (∀ i, i < n → f i = g i) → cnt f c n = cnt g c n := by
  intro n
  induction n with
  | zero => intro h; rfl
  | succ n ih =>
    intro h
    show cnt f c n + (if f n = c then 1 else 0) = cnt g c n + (if g n = c then 1 else 0)
    rw [ih (fun i hi => h i (by omega)), h n (by omega)]
theorem cnt_pos {f : Nat → Int32} {c : Int32} : ∀ n, 0 < cnt f c n → ∃ i, i < n ∧ f i = c := by
  intro n
  induction n with
  | zero => intro h; exact absurd h (by show ¬ 0 < 0; omega)
  | succ n ih =>
    intro h
    by_cases hn : f n = c
    · exact ⟨n, by omega, hn⟩
    · have h : 0 < cnt f c n + (if f n = c then 1 else 0) := h
      rw [if_neg hn] at h
      obtain ⟨i, h1, h2⟩ := ih h
      exact ⟨i, by omega, h2⟩
theorem cnt_mem {f : Nat → Int32} {i : Nat} : ∀ n, i < n → 0 < cnt f (f i) n := by
  intro n
  induction n with
  | zero => intro h; omega
  | succ n ih =>
    intro h
    show 0 < cnt f (f i) n + (if f n = f i then 1 else 0)
    by_cases hi : i = n
    · rw [hi, if_pos rfl]; omega
    · have := ih (by omega); omega
/-- one taken out at p -/
theorem cnt_rem (f : Nat → Int32) (c : Int32) (p : Nat) : ∀ n, p < n → cnt (shd f (n - 1 - p) p) c (n - 1) + (if f p = c then 1 else 0) = cnt f c n := by
  intro n
  induction n with
  | zero => intro h; omega
  | succ n ih =>
    intro h
    show cnt (shd f (n - p) p) c n + _ = cnt f c n + (if f n = c then 1 else 0)
    by_cases hp : p = n
    · subst hp
      rw [Nat.sub_self]
      rfl
    · have h1 := ih (by omega)
      obtain ⟨k, rfl⟩ : ∃ k, n = k + 1 := ⟨n - 1, by omega⟩
      have h2 : cnt (shd f (k + 1 - p) p) c (k + 1) = cnt (shd f (k + 1 - 1 - p) p) c k + (if f (k + 1) = c then 1 else 0) := by
        have hk1 : shd f (k + 1 - p) p k = f (k + 1) := by rw [shd_at, if_pos (by omega)]
        show cnt (shd f (k + 1 - p) p) c k + (if shd f (k + 1 - p) p k = c then 1 else 0) = _
        rw [hk1, cnt_congr (f := shd f (k + 1 - p) p) (g := shd f (k + 1 - 1 - p) p) c k (fun i hi => by
          rw [shd_at, shd_at]
          by_cases h9 : p ≤ i
          · rw [if_pos (by omega), if_pos (by omega)]
          · rw [if_neg (by omega), if_neg (by omega)])]
      rw [h2, ← h1]
      show _ = cnt (shd f (k + 1 - 1 - p) p) c k + (if f p = c then 1 else 0) + _
      omega
/-- one put in at p -/
theorem cnt_ins (f : Nat → Int32) (c x : Int32) (p : Nat) : ∀ n, p ≤ n → cnt (upd (shu f (n - p) n) p x) c (n + 1) = cnt f c n + (if x = c then 1 else 0) := by
  intro n
  induction n with
  | zero =>
    intro h
    have : p = 0 := by omega
    subst this
    show cnt _ c 0 + (if upd (shu f (0 - 0) 0) 0 x 0 = c then 1 else 0) = _
    rw [upd_at]
    rfl
  | succ n ih =>
    intro h
    by_cases hp : p = n + 1
    · subst hp
      rw [Nat.sub_self]
      show cnt (upd f (n + 1) x) c (n + 1) + (if upd f (n + 1) x (n + 1) = c then 1 else 0) = _
      rw [upd_at, cnt_congr (f := upd f (n + 1) x) (g := f) c (n + 1) (fun i hi => upd_ne _ _ (by omega))]
    · have hk2 : upd (shu f (n + 1 - p) (n + 1)) p x (n + 1) = f n := by
        rw [upd_ne _ _ (by omega), shu_at _ _ _ _ (by omega), if_pos (by omega)]
        rfl
      show cnt (upd (shu f (n + 1 - p) (n + 1)) p x) c (n + 1) + (if upd (shu f (n + 1 - p) (n + 1)) p x (n + 1) = c then 1 else 0) = cnt f c n + (if f n = c then 1 else 0) + (if x = c then 1 else 0)
      rw [hk2, cnt_congr (f := upd (shu f (n + 1 - p) (n + 1)) p x) (g := upd (shu f (n - p) n) p x) c (n + 1) (fun i hi => by
        by_cases h9 : i = p
        · rw [h9, upd_at, upd_at]
        · rw [upd_ne _ _ h9, upd_ne _ _ h9, shu_at _ _ _ _ (by omega), shu_at _ _ _ _ (by omega)]
          by_cases h8 : p < i
          · rw [if_pos (by omega), if_pos (by omega)]
          · rw [if_neg (by omega), if_neg (by omega)]), ih (by omega)]
      omega
def RH (s : Nat × (Nat → Int32)) (m : BgM) : Prop := s.1 = m.1 ∧ (∀ i k, i < k → k < s.1 → s.2 i ≤ s.2 k) ∧ ∀ c, cnt s.2 c s.1 = cnt m.2.1 c s.1
/-- where the least value lies: nothing is less -/
theorem nx3_min (it : Nat → Int32) : ∀ (k i a : Nat), a < i + k → (∀ q, q < i → it a ≤ it q) → (∀ q, q < i + k → it (g_Mo_nextOf_3_18 it k i a) ≤ it q) := by
  intro k
  induction k with
  | zero => intro i a h1 h2 q hq; exact h2 q (by omega)
  | succ k ih =>
    intro i a h1 h2 q hq
    unfold g_Mo_nextOf_3_18
    by_cases hc : it a ≤ it i
    · rw [if_pos hc]
      refine ih (i + 1) a (by omega) (fun z hz => ?_) q (by omega)
      by_cases hz2 : z = i
      · rw [hz2]; exact hc
      · exact h2 z (by omega)
    · rw [if_neg hc]
      refine ih (i + 1) i (by omega) (fun z hz => ?_) q (by omega)
      by_cases hz2 : z = i
      · rw [hz2]; exact Int32.le_refl _
      · exact Int32.le_trans (Int32.le_of_lt (Int32.not_le.mp hc)) (h2 z (by omega))
theorem nx3_le (n : Nat) (it : Nat → Int32) (h : 0 < n) (q : Nat) (hq : q < n) : it (f_Mo_nextOf_3 n it) ≤ it q := nx3_min it n 0 0 (by omega) (fun z hz => by omega) q (by omega)
theorem RH_min {n : Nat} {v it vs : Nat → Int32} (hR : RH (n, v) (n, it, vs)) (h : 0 < n) : v 0 = it (f_Mo_nextOf_3 n it) := by
  obtain ⟨-, h1, h2⟩ := hR
  have h1 : ∀ i k, i < k → k < n → v i ≤ v k := h1
  have h2 : ∀ c, cnt v c n = cnt it c n := h2
  have hp := nx3_lt n it h
  apply Int32.le_antisymm
  · have a1 : 0 < cnt v (it (f_Mo_nextOf_3 n it)) n := by rw [h2]; exact cnt_mem n hp
    obtain ⟨i, i1, i2⟩ := cnt_pos n a1
    rw [← i2]
    by_cases h0 : i = 0
    · rw [h0]; exact Int32.le_refl _
    · exact h1 0 i (by omega) i1
  · have a1 : 0 < cnt it (v 0) n := by rw [← h2]; exact cnt_mem n h
    obtain ⟨i, i1, i2⟩ := cnt_pos n a1
    rw [← i2]
    exact nx3_le n it h i i1
theorem pfr_spec (v : Nat → Int32) (x : Int32) : ∀ (k i : Nat), (∀ q, i ≤ q → q < pfr v x k i → v q < x) ∧ (pfr v x k i < i + k → ¬ v (pfr v x k i) < x) := by
  intro k
  induction k with
  | zero => intro i; exact ⟨fun q h1 h2 => by have h2 : q < i := h2; omega, fun h => by have h : i < i + 0 := h; omega⟩
  | succ k ih =>
    intro i
    unfold pfr
    by_cases hc : v i < x
    · rw [if_pos hc]
      obtain ⟨h1, h2⟩ := ih (i + 1)
      refine ⟨fun q q1 q2 => ?_, fun h => h2 (by omega)⟩
      by_cases hq : q = i
      · rw [hq]; exact hc
      · exact h1 q (by omega) q2
    · rw [if_neg hc]
      exact ⟨fun q h1 h2 => by omega, fun _ => hc⟩
/-- removing the first keeps order and counts -/
theorem RH_take {n : Nat} {v it vs : Nat → Int32} (hR : RH (n, v) (n, it, vs)) (h : 0 < n) (vs1 : Nat → Int32) : RH (n - 1, shd v (n - 1) 0) (n - 1, shd it (n - 1 - f_Mo_nextOf_3 n it) (f_Mo_nextOf_3 n it), vs1) := by
  have hm := RH_min hR h
  obtain ⟨-, h1, h2⟩ := hR
  have h1 : ∀ i k, i < k → k < n → v i ≤ v k := h1
  have h2 : ∀ c, cnt v c n = cnt it c n := h2
  refine ⟨rfl, fun i k hik hk => ?_, fun c => ?_⟩
  · have hk : k < n - 1 := hk
    show shd v (n - 1) 0 i ≤ shd v (n - 1) 0 k
    rw [shd_at, shd_at, if_pos (by omega), if_pos (by omega)]
    exact h1 (i + 1) (k + 1) (by omega) (by omega)
  · have a1 := cnt_rem v c 0 n h
    have a2 := cnt_rem it c (f_Mo_nextOf_3 n it) n (nx3_lt n it h)
    show cnt (shd v (n - 1) 0) c (n - 1) = cnt (shd it (n - 1 - f_Mo_nextOf_3 n it) (f_Mo_nextOf_3 n it)) c (n - 1)
    rw [Nat.sub_zero] at a1
    rw [hm] at a1
    have a3 := h2 c
    omega
theorem simH (u x y : Int32) (s : Nat × (Nat → Int32)) (m : BgM) (hR : RH s m) : RH (bgS 4 u x s).1 (bgM (fun n it => f_Mo_nextOf_3 n it) u x y m).1 ∧ (bgS 4 u x s).2 = (bgM (fun n it => f_Mo_nextOf_3 n it) u x y m).2 := by
  obtain ⟨n, v⟩ := s
  obtain ⟨n1, it, vs⟩ := m
  have h0 : n = n1 := hR.1
  subst h0
  unfold bgS bgM
  by_cases hu : u = 1
  · simp only [if_pos hu]
    have hb : bgP 4 n v x = pfr v x n 0 := by unfold bgP; rw [if_neg (by decide), if_neg (by decide)]
    have hle := pfr_le v x n 0
    obtain ⟨p1, p2⟩ := pfr_spec v x n 0
    obtain ⟨-, h1, h2⟩ := hR
    have h1 : ∀ i k, i < k → k < n → v i ≤ v k := h1
    have h2 : ∀ c, cnt v c n = cnt it c n := h2
    refine ⟨⟨rfl, fun i k hik hk => ?_, fun c => ?_⟩, trivial⟩
    · have hk : k < n + 1 := hk
      show upd (shu v (n - bgP 4 n v x) n) (bgP 4 n v x) x i ≤ upd (shu v (n - bgP 4 n v x) n) (bgP 4 n v x) x k
      rw [hb]
      generalize hr : pfr v x n 0 = r at hle p1 p2
      have hsh : ∀ q, q ≠ r → upd (shu v (n - r) n) r x q = if r < q ∧ q ≤ n then v (q - 1) else v q := fun q hq => by
        rw [upd_ne _ _ hq, shu_at _ _ _ _ (by omega)]
        by_cases h9 : r < q ∧ q ≤ n
        · rw [if_pos h9, if_pos (by omega)]
        · rw [if_neg h9, if_neg (by omega)]
      by_cases hi : i = r
      · rw [hi, upd_at, hsh k (by omega), if_pos (by omega)]
        have hx : x ≤ v r := Int32.not_lt.mp (p2 (by omega))
        by_cases hkr : k - 1 = r
        · rw [hkr]; exact hx
        · exact Int32.le_trans hx (h1 r (k - 1) (by omega) (by omega))
      · by_cases hkr : k = r
        · rw [hkr, upd_at, hsh i hi, if_neg (by omega)]
          exact Int32.le_of_lt (p1 i (by omega) (by omega))
        · rw [hsh i hi, hsh k hkr]
          by_cases a : r < i ∧ i ≤ n
          · rw [if_pos a, if_pos (by omega)]; exact h1 (i - 1) (k - 1) (by omega) (by omega)
          · rw [if_neg a]
            by_cases b : r < k ∧ k ≤ n
            · rw [if_pos b]
              by_cases e : i = k - 1
              · rw [e]; exact Int32.le_refl _
              · exact h1 i (k - 1) (by omega) (by omega)
            · rw [if_neg b]; exact h1 i k hik (by omega)
    · show cnt (upd (shu v (n - bgP 4 n v x) n) (bgP 4 n v x) x) c (n + 1) = cnt (upd it n x) c (n + 1)
      rw [hb, cnt_ins v c x (pfr v x n 0) n (by omega)]
      have := cnt_ins it c x n n (Nat.le_refl _)
      rw [Nat.sub_self] at this
      have this : cnt (upd it n x) c (n + 1) = cnt it c n + (if x = c then 1 else 0) := this
      rw [this, h2 c]
  · simp only [if_neg hu]
    by_cases h0 : n = 0
    · simp only [if_pos h0, if_neg (show ¬ 0 < n by omega)]
      exact ⟨hR, trivial⟩
    · simp only [if_neg h0, if_pos (show 0 < n by omega)]
      refine ⟨RH_take hR (by omega) _, ?_⟩
      rw [RH_min hR (by omega)]
