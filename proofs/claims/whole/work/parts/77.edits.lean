/-! edits: what they leave on both sides -/
theorem updC_self {C : Nat → CoT} {j : Nat} {x : CoT} (h : C j = x) : updC C j x = C := by
  funext i
  unfold updC
  by_cases e : i = j
  · rw [if_pos e, e, h]
  · rw [if_neg e]
theorem shu_bz {ef : Nat → Int32} (h : bz ef) {k i : Nat} (hk : k ≤ i) : bz (shu ef k i) := fun q => by
  rw [shu_at _ _ _ _ hk]
  split
  · exact h _
  · exact h _
theorem rdo_bz {S : Type} {stC : Int32 → Int32 → Int32 → S → S × Int64 × Int32} (hs : ∀ u x y s, (stC u x y s).2.2 = 0 ∨ (stC u x y s).2.2 = 1) {na aa bb : Nat → Int32} : ∀ (k i : Nat) (st : S × Int64 × Int32) (re : Nat → Int64) (ef : Nat → Int32), bz ef → bz (rdo stC na aa bb k i st re ef).2.2 := by
  intro k
  induction k with
  | zero => intro i st re ef h; exact h
  | succ k ih => intro i st re ef h; exact ih _ _ _ _ (bz_upd h _ (hs _ _ _ _))
theorem RES_congr {K n : Nat} {na aa bb na' aa' bb' : Nat → Int32} {re re' : Nat → Int64} {ef ef' : Nat → Int32} (h : RES K n na aa bb re ef) (e1 : ∀ p, p < n → na p = na' p ∧ aa p = aa' p ∧ bb p = bb' p) (e2 : ∀ p, p < n → re' p = re p ∧ ef' p = ef p) : RES K n na' aa' bb' re' ef' := by
  obtain ⟨h0, h1, h2, h3, h4, h5⟩ := h
  have ec : ∀ p, 0 ≤ p → p < 0 + n → na p = na' p ∧ aa p = aa' p ∧ bb p = bb' p := fun p _ hp => e1 p (by omega)
  refine ⟨fun e => ?_, fun e => ?_, fun e => ?_, fun e => ?_, fun e => ?_, fun e => ?_⟩
  · obtain ⟨qv, qr, qf, re0, ef0, h⟩ := h0 e
    refine ⟨qv, qr, qf, re0, ef0, fun p hp => ?_⟩
    rw [(e2 p hp).1, (e2 p hp).2, ← rdo_congr n 0 _ _ _ ec]; exact h p hp
  · obtain ⟨qv, qr, qf, re0, ef0, h⟩ := h1 e
    refine ⟨qv, qr, qf, re0, ef0, fun p hp => ?_⟩
    rw [(e2 p hp).1, (e2 p hp).2, ← rdo_congr n 0 _ _ _ ec]; exact h p hp
  · obtain ⟨qk, qv, qr, qf, re0, ef0, h⟩ := h2 e
    refine ⟨qk, qv, qr, qf, re0, ef0, fun p hp => ?_⟩
    rw [(e2 p hp).1, (e2 p hp).2, ← rdo_congr n 0 _ _ _ ec]; exact h p hp
  · obtain ⟨qv, qr, qf, re0, ef0, h⟩ := h3 e
    refine ⟨qv, qr, qf, re0, ef0, fun p hp => ?_⟩
    rw [(e2 p hp).1, (e2 p hp).2, ← rdo_congr n 0 _ _ _ ec]; exact h p hp
  · obtain ⟨qn, qr, qf, re0, ef0, h⟩ := h4 e
    refine ⟨qn, qr, qf, re0, ef0, fun p hp => ?_⟩
    rw [(e2 p hp).1, (e2 p hp).2, ← rdo_congr n 0 _ _ _ ec]; exact h p hp
  · obtain ⟨ql, qr, qf, re0, ef0, h⟩ := h5 e
    refine ⟨ql, qr, qf, re0, ef0, fun p hp => ?_⟩
    rw [(e2 p hp).1, (e2 p hp).2, ← rdo_congr n 0 _ _ _ ec]; exact h p hp
theorem LOK_copy {K n : Nat} {mo na aa bb mo2 na2 aa2 bb2 : Nat → Int32} {re re2 : Nat → Int64} {ef ef2 : Nat → Int32} (h : LOK K n mo na aa bb re ef) : LOK K n (cpf mo2 mo n 0) (cpf na2 na n 0) (cpf aa2 aa n 0) (cpf bb2 bb n 0) (cpfL re2 re n 0) (cpf ef2 ef n 0) := by
  have e : ∀ (f g : Nat → Int32) (p : Nat), p < n → cpf f g n 0 p = g p := fun f g p hp => by rw [cpf_at, if_pos (by omega)]
  have eL : ∀ (f g : Nat → Int64) (p : Nat), p < n → cpfL f g n 0 p = g p := fun f g p hp => by rw [cpfL_at, if_pos (by omega)]
  obtain ⟨h1, h2, h3, h4⟩ := h
  refine ⟨fun i k hik hk => ?_, fun p hp => ?_, fun p hp => ?_, RES_congr h4 (fun p hp => ?_) (fun p hp => ?_)⟩
  · rw [e _ _ i (by omega), e _ _ k hk]; exact h1 i k hik hk
  · rw [e _ _ p hp]; exact h2 p hp
  · rw [e _ _ p hp, e _ _ p hp, e _ _ p hp]; exact h3 p hp
  · rw [e _ _ p hp, e _ _ p hp, e _ _ p hp]; exact ⟨rfl, rfl, rfl⟩
  · rw [eL _ _ p hp, e _ _ p hp]; exact ⟨rfl, rfl⟩
/-- the reference's arrays behind an edit of collection j: the line's earlier state is kept four blocks on, the rest is as it was -/
def EDT (j n1 n : Nat) (ed ct ti nm xa xb ed1 ct1 ti1 nm1 xa1 xb1 mo1 na1 aa1 bb1 : Nat → Int32) : Prop :=
  ed1 = upd ed j 1 ∧ ct1 j = nI n1 ∧ ct1 (j + 4) = nI n ∧ (∀ i, i ≠ j → i ≠ j + 4 → ct1 i = ct i) ∧ LEq n1 mo1 na1 aa1 bb1 ti1 nm1 xa1 xb1 (32 * j) ∧
  (∀ p, p < 32 → ti1 (32 * (j + 4) + p) = ti (32 * j + p) ∧ nm1 (32 * (j + 4) + p) = nm (32 * j + p) ∧ xa1 (32 * (j + 4) + p) = xa (32 * j + p) ∧ xb1 (32 * (j + 4) + p) = xb (32 * j + p)) ∧
  ∀ q, q < 32 * j ∨ (32 * j + 32 ≤ q ∧ q < 32 * (j + 4)) ∨ 32 * (j + 4) + 32 ≤ q → ti1 q = ti q ∧ nm1 q = nm q ∧ xa1 q = xa q ∧ xb1 q = xb q
section ED
variable {j n n1 : Nat} {ed ct ti nm xa xb mo na aa bb : Nat → Int32}
theorem rem_ed : (f_Mo_remember ed ct ti nm xa xb j).1 = upd ed j 1 := (rem_go j 32 0 (upd ed j 1) (upd ct (j + 4) (ct j)) ti nm xa xb (by omega)).1
theorem rem_cts : (f_Mo_remember ed ct ti nm xa xb j).2.1 = upd ct (j + 4) (ct j) := (rem_go j 32 0 (upd ed j 1) (upd ct (j + 4) (ct j)) ti nm xa xb (by omega)).2.1
theorem rem_in (p : Nat) (hp : p < 32) : (f_Mo_remember ed ct ti nm xa xb j).2.2.1 (32 * (j + 4) + p) = ti (32 * j + p) ∧ (f_Mo_remember ed ct ti nm xa xb j).2.2.2.1 (32 * (j + 4) + p) = nm (32 * j + p) ∧ (f_Mo_remember ed ct ti nm xa xb j).2.2.2.2.1 (32 * (j + 4) + p) = xa (32 * j + p) ∧ (f_Mo_remember ed ct ti nm xa xb j).2.2.2.2.2 (32 * (j + 4) + p) = xb (32 * j + p) := by
  have h := (rem_go j 32 0 (upd ed j 1) (upd ct (j + 4) (ct j)) ti nm xa xb (by omega)).2.2 (32 * (j + 4) + p)
  rw [if_pos (by omega), if_pos (by omega), if_pos (by omega), if_pos (by omega), show 32 * (j + 4) + p - 128 = 32 * j + p by omega] at h
  exact h
theorem rem_LEq (hn : n ≤ 32) (hL : LEq n mo na aa bb ti nm xa xb (32 * j)) : LEq n mo na aa bb (f_Mo_remember ed ct ti nm xa xb j).2.2.1 (f_Mo_remember ed ct ti nm xa xb j).2.2.2.1 (f_Mo_remember ed ct ti nm xa xb j).2.2.2.2.1 (f_Mo_remember ed ct ti nm xa xb j).2.2.2.2.2 (32 * j) := fun p hp => by
  obtain ⟨e1, e2, e3, e4⟩ := rem_ti ed ct ti nm xa xb j (32 * j + p) (Or.inl (by omega))
  rw [e1, e2, e3, e4]
  exact hL p hp
theorem put_edt {t u x y : Int32} (hn : n < 32) (hL : LEq n mo na aa bb ti nm xa xb (32 * j)) (hS : Srt n mo) (hno : ∀ q, q < n → ¬ mo q = t) (hct : ct j = nI n) : EDT j (n + 1) n ed ct ti nm xa xb (f_Mo_remember ed ct ti nm xa xb j).1
    (f_Mo_insert (f_Mo_remember ed ct ti nm xa xb j).2.1 (f_Mo_remember ed ct ti nm xa xb j).2.2.1 (f_Mo_remember ed ct ti nm xa xb j).2.2.2.1 (f_Mo_remember ed ct ti nm xa xb j).2.2.2.2.1 (f_Mo_remember ed ct ti nm xa xb j).2.2.2.2.2 n j t u x y).1
    (f_Mo_insert (f_Mo_remember ed ct ti nm xa xb j).2.1 (f_Mo_remember ed ct ti nm xa xb j).2.2.1 (f_Mo_remember ed ct ti nm xa xb j).2.2.2.1 (f_Mo_remember ed ct ti nm xa xb j).2.2.2.2.1 (f_Mo_remember ed ct ti nm xa xb j).2.2.2.2.2 n j t u x y).2.1
    (f_Mo_insert (f_Mo_remember ed ct ti nm xa xb j).2.1 (f_Mo_remember ed ct ti nm xa xb j).2.2.1 (f_Mo_remember ed ct ti nm xa xb j).2.2.2.1 (f_Mo_remember ed ct ti nm xa xb j).2.2.2.2.1 (f_Mo_remember ed ct ti nm xa xb j).2.2.2.2.2 n j t u x y).2.2.1
    (f_Mo_insert (f_Mo_remember ed ct ti nm xa xb j).2.1 (f_Mo_remember ed ct ti nm xa xb j).2.2.1 (f_Mo_remember ed ct ti nm xa xb j).2.2.2.1 (f_Mo_remember ed ct ti nm xa xb j).2.2.2.2.1 (f_Mo_remember ed ct ti nm xa xb j).2.2.2.2.2 n j t u x y).2.2.2.1
    (f_Mo_insert (f_Mo_remember ed ct ti nm xa xb j).2.1 (f_Mo_remember ed ct ti nm xa xb j).2.2.1 (f_Mo_remember ed ct ti nm xa xb j).2.2.2.1 (f_Mo_remember ed ct ti nm xa xb j).2.2.2.2.1 (f_Mo_remember ed ct ti nm xa xb j).2.2.2.2.2 n j t u x y).2.2.2.2
    (upd (shu mo (n - pfr mo t n 0) n) (pfr mo t n 0) t) (upd (shu na (n - pfr mo t n 0) n) (pfr mo t n 0) u) (upd (shu aa (n - pfr mo t n 0) n) (pfr mo t n 0) x) (upd (shu bb (n - pfr mo t n 0) n) (pfr mo t n 0) y) := by
  have hR := rem_LEq (ed := ed) (ct := ct) (Nat.le_of_lt hn) hL
  have hle := pfr_le mo t n 0
  rw [f_ins_eq hS hno hR.mo, rem_ed, rem_cts]
  have ri := fun p => rem_in (ed := ed) (ct := ct) (ti := ti) (nm := nm) (xa := xa) (xb := xb) (j := j) p
  have ro := fun q => rem_ti ed ct ti nm xa xb j q
  generalize f_Mo_remember ed ct ti nm xa xb j = E at hR ri ro ⊢
  generalize pfr mo t n 0 = r at hle ⊢
  refine ⟨rfl, ?_, ?_, fun i h1 h2 => ?_, LEq.of (ins_LE t hR.mo (by omega)) (ins_LE u hR.na (by omega)) (ins_LE x hR.aa (by omega)) (ins_LE y hR.bb (by omega)), fun p hp => ?_, fun q hq => ?_⟩
  · exact upd_at _ _ _
  · show upd (upd ct (j + 4) (ct j)) j (nI (n + 1)) (j + 4) = nI n
    rw [upd_ne _ _ (by omega), upd_at]; exact hct
  · show upd (upd ct (j + 4) (ct j)) j (nI (n + 1)) i = ct i
    rw [upd_ne _ _ h1, upd_ne _ _ h2]
  · show upd (shu E.2.2.1 (n - r) (32 * j + n)) (32 * j + r) t _ = _ ∧ upd (shu E.2.2.2.1 (n - r) (32 * j + n)) (32 * j + r) u _ = _ ∧ upd (shu E.2.2.2.2.1 (n - r) (32 * j + n)) (32 * j + r) x _ = _ ∧ upd (shu E.2.2.2.2.2 (n - r) (32 * j + n)) (32 * j + r) y _ = _
    rw [ins_off t (by omega) (by omega), ins_off u (by omega) (by omega), ins_off x (by omega) (by omega), ins_off y (by omega) (by omega)]
    exact ri p hp
  · show upd (shu E.2.2.1 (n - r) (32 * j + n)) (32 * j + r) t _ = _ ∧ upd (shu E.2.2.2.1 (n - r) (32 * j + n)) (32 * j + r) u _ = _ ∧ upd (shu E.2.2.2.2.1 (n - r) (32 * j + n)) (32 * j + r) x _ = _ ∧ upd (shu E.2.2.2.2.2 (n - r) (32 * j + n)) (32 * j + r) y _ = _
    rw [ins_off t (by omega) (by omega), ins_off u (by omega) (by omega), ins_off x (by omega) (by omega), ins_off y (by omega) (by omega)]
    exact ro q (by omega)
theorem strike_edt {p0 : Nat} (hn : n ≤ 32) (hp0 : p0 < n) (hL : LEq n mo na aa bb ti nm xa xb (32 * j)) (hct : ct j = nI n) : EDT j (n - 1) n ed ct ti nm xa xb (f_Mo_remember ed ct ti nm xa xb j).1
    (f_Mo_cut (f_Mo_remember ed ct ti nm xa xb j).2.1 (f_Mo_remember ed ct ti nm xa xb j).2.2.1 (f_Mo_remember ed ct ti nm xa xb j).2.2.2.1 (f_Mo_remember ed ct ti nm xa xb j).2.2.2.2.1 (f_Mo_remember ed ct ti nm xa xb j).2.2.2.2.2 n j p0).1
    (f_Mo_cut (f_Mo_remember ed ct ti nm xa xb j).2.1 (f_Mo_remember ed ct ti nm xa xb j).2.2.1 (f_Mo_remember ed ct ti nm xa xb j).2.2.2.1 (f_Mo_remember ed ct ti nm xa xb j).2.2.2.2.1 (f_Mo_remember ed ct ti nm xa xb j).2.2.2.2.2 n j p0).2.1
    (f_Mo_cut (f_Mo_remember ed ct ti nm xa xb j).2.1 (f_Mo_remember ed ct ti nm xa xb j).2.2.1 (f_Mo_remember ed ct ti nm xa xb j).2.2.2.1 (f_Mo_remember ed ct ti nm xa xb j).2.2.2.2.1 (f_Mo_remember ed ct ti nm xa xb j).2.2.2.2.2 n j p0).2.2.1
    (f_Mo_cut (f_Mo_remember ed ct ti nm xa xb j).2.1 (f_Mo_remember ed ct ti nm xa xb j).2.2.1 (f_Mo_remember ed ct ti nm xa xb j).2.2.2.1 (f_Mo_remember ed ct ti nm xa xb j).2.2.2.2.1 (f_Mo_remember ed ct ti nm xa xb j).2.2.2.2.2 n j p0).2.2.2.1
    (f_Mo_cut (f_Mo_remember ed ct ti nm xa xb j).2.1 (f_Mo_remember ed ct ti nm xa xb j).2.2.1 (f_Mo_remember ed ct ti nm xa xb j).2.2.2.1 (f_Mo_remember ed ct ti nm xa xb j).2.2.2.2.1 (f_Mo_remember ed ct ti nm xa xb j).2.2.2.2.2 n j p0).2.2.2.2
    (shd mo (n - 1 - p0) p0) (shd na (n - 1 - p0) p0) (shd aa (n - 1 - p0) p0) (shd bb (n - 1 - p0) p0) := by
  have hR := rem_LEq (ed := ed) (ct := ct) hn hL
  rw [f_cut_eq, rem_ed, rem_cts]
  have ri := fun p => rem_in (ed := ed) (ct := ct) (ti := ti) (nm := nm) (xa := xa) (xb := xb) (j := j) p
  have ro := fun q => rem_ti ed ct ti nm xa xb j q
  generalize f_Mo_remember ed ct ti nm xa xb j = E at hR ri ro ⊢
  refine ⟨rfl, ?_, ?_, fun i h1 h2 => ?_, LEq.of (rem_LE hR.mo hp0) (rem_LE hR.na hp0) (rem_LE hR.aa hp0) (rem_LE hR.bb hp0), fun p hp => ?_, fun q hq => ?_⟩
  · exact upd_at _ _ _
  · show upd (upd ct (j + 4) (ct j)) j (nI (n - 1)) (j + 4) = nI n
    rw [upd_ne _ _ (by omega), upd_at]; exact hct
  · show upd (upd ct (j + 4) (ct j)) j (nI (n - 1)) i = ct i
    rw [upd_ne _ _ h1, upd_ne _ _ h2]
  · show shd E.2.2.1 (n - 1 - p0) (32 * j + p0) _ = _ ∧ shd E.2.2.2.1 (n - 1 - p0) (32 * j + p0) _ = _ ∧ shd E.2.2.2.2.1 (n - 1 - p0) (32 * j + p0) _ = _ ∧ shd E.2.2.2.2.2 (n - 1 - p0) (32 * j + p0) _ = _
    rw [rem_off hp0 (by omega), rem_off hp0 (by omega), rem_off hp0 (by omega), rem_off hp0 (by omega)]
    exact ri p hp
  · show shd E.2.2.1 (n - 1 - p0) (32 * j + p0) _ = _ ∧ shd E.2.2.2.1 (n - 1 - p0) (32 * j + p0) _ = _ ∧ shd E.2.2.2.2.1 (n - 1 - p0) (32 * j + p0) _ = _ ∧ shd E.2.2.2.2.2 (n - 1 - p0) (32 * j + p0) _ = _
    rw [rem_off hp0 (by omega), rem_off hp0 (by omega), rem_off hp0 (by omega), rem_off hp0 (by omega)]
    exact ro q (by omega)
/-- an insertion behind an edit of the same line -/
theorem edt_ins {t u x y : Int32} {ed1 ct1 ti1 nm1 xa1 xb1 : Nat → Int32} {n0 : Nat} (hn : n < 32) (hS : Srt n mo) (hno : ∀ q, q < n → ¬ mo q = t) (h : EDT j n n0 ed ct ti nm xa xb ed1 ct1 ti1 nm1 xa1 xb1 mo na aa bb) : EDT j (n + 1) n0 ed ct ti nm xa xb ed1 (f_Mo_insert ct1 ti1 nm1 xa1 xb1 n j t u x y).1 (f_Mo_insert ct1 ti1 nm1 xa1 xb1 n j t u x y).2.1 (f_Mo_insert ct1 ti1 nm1 xa1 xb1 n j t u x y).2.2.1 (f_Mo_insert ct1 ti1 nm1 xa1 xb1 n j t u x y).2.2.2.1 (f_Mo_insert ct1 ti1 nm1 xa1 xb1 n j t u x y).2.2.2.2
    (upd (shu mo (n - pfr mo t n 0) n) (pfr mo t n 0) t) (upd (shu na (n - pfr mo t n 0) n) (pfr mo t n 0) u) (upd (shu aa (n - pfr mo t n 0) n) (pfr mo t n 0) x) (upd (shu bb (n - pfr mo t n 0) n) (pfr mo t n 0) y) := by
  obtain ⟨g1, g2, g3, g4, hR, g6, g7⟩ := h
  have hle := pfr_le mo t n 0
  rw [f_ins_eq hS hno hR.mo]
  generalize pfr mo t n 0 = r at hle ⊢
  refine ⟨g1, ?_, ?_, fun i h1 h2 => ?_, LEq.of (ins_LE t hR.mo (by omega)) (ins_LE u hR.na (by omega)) (ins_LE x hR.aa (by omega)) (ins_LE y hR.bb (by omega)), fun p hp => ?_, fun q hq => ?_⟩
  · exact upd_at _ _ _
  · show upd ct1 j (nI (n + 1)) (j + 4) = nI n0
    rw [upd_ne _ _ (by omega)]; exact g3
  · show upd ct1 j (nI (n + 1)) i = ct i
    rw [upd_ne _ _ h1]; exact g4 i h1 h2
  · show upd (shu ti1 (n - r) (32 * j + n)) (32 * j + r) t _ = _ ∧ upd (shu nm1 (n - r) (32 * j + n)) (32 * j + r) u _ = _ ∧ upd (shu xa1 (n - r) (32 * j + n)) (32 * j + r) x _ = _ ∧ upd (shu xb1 (n - r) (32 * j + n)) (32 * j + r) y _ = _
    rw [ins_off t (by omega) (by omega), ins_off u (by omega) (by omega), ins_off x (by omega) (by omega), ins_off y (by omega) (by omega)]
    exact g6 p hp
  · show upd (shu ti1 (n - r) (32 * j + n)) (32 * j + r) t _ = _ ∧ upd (shu nm1 (n - r) (32 * j + n)) (32 * j + r) u _ = _ ∧ upd (shu xa1 (n - r) (32 * j + n)) (32 * j + r) x _ = _ ∧ upd (shu xb1 (n - r) (32 * j + n)) (32 * j + r) y _ = _
    rw [ins_off t (by omega) (by omega), ins_off u (by omega) (by omega), ins_off x (by omega) (by omega), ins_off y (by omega) (by omega)]
    exact g7 q hq
end ED
theorem Inv_up {C : Nat → CoT} {M M1 : MT} {j : Nat} {x1 : CoT} (hI : Inv C M) (hb : bz (M_wk M1)) (hJ : IJ j x1 (M_kn M1) (M_ed M1) (M_ct M1) (M_ti M1) (M_nm M1) (M_xa M1) (M_xb M1)) (ho : ∀ i, i < 4 → i ≠ j → M_kn M1 i = M_kn M i ∧ M_ed M1 i = M_ed M i ∧ M_ct M1 i = M_ct M i ∧ M_ct M1 (i + 4) = M_ct M (i + 4) ∧ ∀ q, (32 * i ≤ q ∧ q < 32 * i + 32) ∨ (32 * (i + 4) ≤ q ∧ q < 32 * (i + 4) + 32) → M_ti M1 q = M_ti M q ∧ M_nm M1 q = M_nm M q ∧ M_xa M1 q = M_xa M q ∧ M_xb M1 q = M_xb M q) : Inv (updC C j x1) M1 := by
  refine ⟨hb, fun i hi => ?_⟩
  by_cases e : i = j
  · subst e
    rw [updC_at]
    exact hJ
  · rw [updC_ne _ _ e]
    obtain ⟨h1, h2, h3, h4, h5⟩ := ho i hi e
    exact IJ_off (hI.2 i hi) h1 h2 h3 h4 h5
theorem Inv_edit {C : Nat → CoT} {code c1 : Int32} {kn ed ct ti nm xa xb ed1 ct1 ti1 nm1 xa1 xb1 : Nat → Int32} {ma : Int32} {it vs se : Nat → Int32} {sm : Int64} {rs : Nat → Int64} {wk : Nat → Int32} {ors : Nat → Int64} {owk : Nat → Int32} {j K n n1 : Nat} {mo na aa bb mo1 na1 aa1 bb1 mo2 na2 aa2 bb2 : Nat → Int32} {re re1 re2 : Nat → Int64} {ef ef1 ef2 : Nat → Int32} {kd : Int32}
    (hI : Inv C (code, kn, ed, ct, ti, nm, xa, xb, ma, it, vs, se, sm, rs, wk, ors, owk)) (hj : j < 4) (hK : K < 6) (hkd : kd = nI K) (hkn : kn j = nI (K + 1)) (hn : n ≤ 32) (hL : LEq n mo na aa bb ti nm xa xb (32 * j)) (hO : LOK K n mo na aa bb re ef) (hE : EDT j n1 n ed ct ti nm xa xb ed1 ct1 ti1 nm1 xa1 xb1 mo1 na1 aa1 bb1) (hn1 : n1 ≤ 32) (hz1 : bz ef1) (hO1 : LOK K n1 mo1 na1 aa1 bb1 re1 ef1) :
    Inv (updC C j (kd, (n1, mo1, na1, aa1, bb1, re1, ef1), (n, cpf mo2 mo n 0, cpf na2 na n 0, cpf aa2 aa n 0, cpf bb2 bb n 0, cpfL re2 re n 0, cpf ef2 ef n 0))) (c1, kn, ed1, ct1, ti1, nm1, xa1, xb1, ma, it, vs, se, sm, rs, wk, ors, owk) := by
  obtain ⟨g1, g2, g3, g4, g5, g6, g7⟩ := hE
  refine Inv_up hI hI.1 (IJ_mk ⟨hn1, hn, hz1, g2, g3, Or.inr ⟨K, hK, hkd, hkn, g5, fun p hp => ?_, hO1, LOK_copy hO, fun e => ?_⟩⟩) (fun i hi e => ⟨rfl, ?_, ?_, ?_, fun q hq => ?_⟩)
  · obtain ⟨a1, a2, a3, a4⟩ := g6 p (by omega)
    show ti1 _ = _ ∧ nm1 _ = _ ∧ xa1 _ = _ ∧ xb1 _ = _
    rw [a1, a2, a3, a4, cpf_at, cpf_at, cpf_at, cpf_at, if_pos (by omega), if_pos (by omega), if_pos (by omega), if_pos (by omega)]
    exact hL p hp
  · have e : ed1 j = 0 := e
    rw [g1, upd_at] at e
    exact absurd e (by decide)
  · show ed1 i = ed i
    rw [g1, upd_ne _ _ e]
  · exact g4 i e (by omega)
  · exact g4 (i + 4) (by omega) (by omega)
  · exact g7 q (by omega)
/-! the new lines -/
theorem all_or {n : Nat} {K : Nat} {mo na aa bb : Nat → Int32} (h1 : ∀ p, p < n → okM (mo p)) (h2 : ∀ p, p < n → VK K (na p) (aa p) (bb p)) : ∀ p, p < n → (fun m u x y => okM m ∧ VK K u x y) (mo p) (na p) (aa p) (bb p) := fun p hp => ⟨h1 p hp, h2 p hp⟩
theorem LOK_ins {K n : Nat} {mo na aa bb : Nat → Int32} {re re1 : Nat → Int64} {ef ef1 : Nat → Int32} {t u x y : Int32} (h : LOK K n mo na aa bb re ef) (hno : ∀ q, q < n → ¬ mo q = t) (ht : okM t) (hv : VK K u x y) (hr : RES K (n + 1) (upd (shu na (n - pfr mo t n 0) n) (pfr mo t n 0) u) (upd (shu aa (n - pfr mo t n 0) n) (pfr mo t n 0) x) (upd (shu bb (n - pfr mo t n 0) n) (pfr mo t n 0) y) re1 ef1) : LOK K (n + 1) (upd (shu mo (n - pfr mo t n 0) n) (pfr mo t n 0) t) (upd (shu na (n - pfr mo t n 0) n) (pfr mo t n 0) u) (upd (shu aa (n - pfr mo t n 0) n) (pfr mo t n 0) x) (upd (shu bb (n - pfr mo t n 0) n) (pfr mo t n 0) y) re1 ef1 := by
  have hle := pfr_le mo t n 0
  have ha := all_ins (n := n) (r := pfr mo t n 0) (P := fun m u x y => okM m ∧ VK K u x y) (a := mo) (b := na) (c := aa) (d := bb) (x := t) (y := u) (z := x) (w := y) (all_or h.2.1 h.2.2.1) (by omega) ⟨ht, hv⟩
  exact ⟨Srt_ins h.1 hno, fun p hp => (ha p hp).1, fun p hp => (ha p hp).2, hr⟩
theorem LOK_rem {K n p0 : Nat} {mo na aa bb : Nat → Int32} {re re1 : Nat → Int64} {ef ef1 : Nat → Int32} (h : LOK K n mo na aa bb re ef) (hp0 : p0 < n) (hr : RES K (n - 1) (shd na (n - 1 - p0) p0) (shd aa (n - 1 - p0) p0) (shd bb (n - 1 - p0) p0) re1 ef1) : LOK K (n - 1) (shd mo (n - 1 - p0) p0) (shd na (n - 1 - p0) p0) (shd aa (n - 1 - p0) p0) (shd bb (n - 1 - p0) p0) re1 ef1 := by
  have ha := all_rem (n := n) (P := fun m u x y => okM m ∧ VK K u x y) (a := mo) (b := na) (c := aa) (d := bb) (all_or h.2.1 h.2.2.1) hp0
  exact ⟨Srt_rem h.1 hp0, fun p hp => (ha p hp).1, fun p hp => (ha p hp).2, hr⟩
/-- no operation at a moment -/
theorem pat_no {n : Nat} {mo : Nat → Int32} {t : Int32} (hn : n ≤ 32) (hS : Srt n mo) (h : pat mo t n = -1) : ∀ q, q < n → ¬ mo q = t := by
  intro p hp2 e
  have hL : LE1 n mo mo (32 * 0) := fun p hp => by rw [show 32 * 0 + p = p by omega]
  have hq2 := fi_go mo 0 t n 0 (-1)
  have e0 : g_Mo_find_5 mo 0 t n 0 (-1) = -1 := (find_pat hL hS).trans h
  rcases hq2 with ⟨-, h9⟩ | ⟨z, h7, h8, h9, -⟩
  · exact h9 p (by omega) (by omega) ((hL p hp2).trans e)
  · rw [e0] at h9
    exact nI_ne_m1 (show z < 2 ^ 31 by omega) h9.symm
