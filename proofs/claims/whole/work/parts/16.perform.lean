/-! by wip/whole/gen/redo.py -/
set_option maxHeartbeats 4000000 in
theorem m_Ba_perform_Qu (l : Launch) (D : va_G) (cI cJ cZ cO : ClassId) (b n : Nat) (v : Nat → Int32) (r : Int64) (f : Int32) (nm x y : Int32) (hn : n < 32) : Met l y_Ba_perform (k_Ba_perform :: gt) rm_Ba_perform (Pc0 D cI cJ cZ cO [.ref b, .int nm, .int x, .int y] (fun H => va_P D cls (wBa cI 2 b n v r f) H)) (Qd (blk b 2) none (fun H => va_P D cls (wBa cI 2 b ((bgS 2 nm x (n, v)).1.1) ((bgS 2 nm x (n, v)).1.2) ((bgS 2 nm x (n, v)).2.1) ((bgS 2 nm x (n, v)).2.2)) H)) 0 0 (blk b 2) := by
  by_cases h1 : nm = 1
  · subst h1
    have e : bgS 2 1 x (n, v) = ((n + 1, upd (shu v (n - bgP 2 n v x) n) (bgP 2 n v x) x), 0, 1) := by unfold bgS; rw [if_pos rfl]
    rw [e]
    exact m_Ba_perform_Qu_1 l D cI cJ cZ cO b n v r f x y hn
  · by_cases h0 : 0 < n
    · have e : bgS 2 nm x (n, v) = ((n - 1, shd v (n - 1) 0), (v 0).toInt64, 1) := by unfold bgS; rw [if_neg h1, if_pos h0]
      rw [e]
      exact m_Ba_perform_Qu_2 l D cI cJ cZ cO b n v r f nm x y h1 (by omega) h0
    · have e : bgS 2 nm x (n, v) = ((n, v), 0, 0) := by unfold bgS; rw [if_neg h1, if_neg h0]
      rw [e]
      exact m_Ba_perform_Qu_0 l D cI cJ cZ cO b n v r f nm x y h1 (by omega)

set_option maxHeartbeats 4000000 in
theorem m_Ba_perform_St (l : Launch) (D : va_G) (cI cJ cZ cO : ClassId) (b n : Nat) (v : Nat → Int32) (r : Int64) (f : Int32) (nm x y : Int32) (hn : n < 32) : Met l y_Ba_perform (k_Ba_perform :: gt) rm_Ba_perform (Pc0 D cI cJ cZ cO [.ref b, .int nm, .int x, .int y] (fun H => va_P D cls (wBa cI 3 b n v r f) H)) (Qd (blk b 2) none (fun H => va_P D cls (wBa cI 3 b ((bgS 3 nm x (n, v)).1.1) ((bgS 3 nm x (n, v)).1.2) ((bgS 3 nm x (n, v)).2.1) ((bgS 3 nm x (n, v)).2.2)) H)) 0 0 (blk b 2) := by
  by_cases h1 : nm = 1
  · subst h1
    have e : bgS 3 1 x (n, v) = ((n + 1, upd (shu v (n - bgP 3 n v x) n) (bgP 3 n v x) x), 0, 1) := by unfold bgS; rw [if_pos rfl]
    rw [e]
    exact m_Ba_perform_St_1 l D cI cJ cZ cO b n v r f x y hn
  · by_cases h0 : 0 < n
    · have e : bgS 3 nm x (n, v) = ((n - 1, shd v (n - 1) 0), (v 0).toInt64, 1) := by unfold bgS; rw [if_neg h1, if_pos h0]
      rw [e]
      exact m_Ba_perform_St_2 l D cI cJ cZ cO b n v r f nm x y h1 (by omega) h0
    · have e : bgS 3 nm x (n, v) = ((n, v), 0, 0) := by unfold bgS; rw [if_neg h1, if_neg h0]
      rw [e]
      exact m_Ba_perform_St_0 l D cI cJ cZ cO b n v r f nm x y h1 (by omega)

set_option maxHeartbeats 4000000 in
theorem m_Ba_perform_He (l : Launch) (D : va_G) (cI cJ cZ cO : ClassId) (b n : Nat) (v : Nat → Int32) (r : Int64) (f : Int32) (nm x y : Int32) (hn : n < 32) : Met l y_Ba_perform (k_Ba_perform :: gt) rm_Ba_perform (Pc0 D cI cJ cZ cO [.ref b, .int nm, .int x, .int y] (fun H => va_P D cls (wBa cI 4 b n v r f) H)) (Qd (blk b 2) none (fun H => va_P D cls (wBa cI 4 b ((bgS 4 nm x (n, v)).1.1) ((bgS 4 nm x (n, v)).1.2) ((bgS 4 nm x (n, v)).2.1) ((bgS 4 nm x (n, v)).2.2)) H)) 0 0 (blk b 2) := by
  by_cases h1 : nm = 1
  · subst h1
    have e : bgS 4 1 x (n, v) = ((n + 1, upd (shu v (n - bgP 4 n v x) n) (bgP 4 n v x) x), 0, 1) := by unfold bgS; rw [if_pos rfl]
    rw [e]
    exact m_Ba_perform_He_1 l D cI cJ cZ cO b n v r f x y hn
  · by_cases h0 : 0 < n
    · have e : bgS 4 nm x (n, v) = ((n - 1, shd v (n - 1) 0), (v 0).toInt64, 1) := by unfold bgS; rw [if_neg h1, if_pos h0]
      rw [e]
      exact m_Ba_perform_He_2 l D cI cJ cZ cO b n v r f nm x y h1 (by omega) h0
    · have e : bgS 4 nm x (n, v) = ((n, v), 0, 0) := by unfold bgS; rw [if_neg h1, if_neg h0]
      rw [e]
      exact m_Ba_perform_He_0 l D cI cJ cZ cO b n v r f nm x y h1 (by omega)

set_option maxHeartbeats 4000000 in
theorem m_Ta_perform (l : Launch) (D : va_G) (cI cJ cZ cO : ClassId) (b n : Nat) (ks vs : Nat → Int32) (r : Int64) (f : Int32) (nm x y : Int32) (hn : n < 32) : Met l y_Ta_perform (k_Ta_perform :: gt) rm_Ta_perform (Pc0 D cI cJ cZ cO [.ref b, .int nm, .int x, .int y] (fun H => va_P D cls (wTa cI b n ks vs r f) H)) (Qd (blk b 3) none (fun H => va_P D cls (wTa cI b ((taS nm x y (n, ks, vs)).1.1) ((taS nm x y (n, ks, vs)).1.2.1) ((taS nm x y (n, ks, vs)).1.2.2) ((taS nm x y (n, ks, vs)).2.1) ((taS nm x y (n, ks, vs)).2.2)) H)) 0 0 (blk b 3) := by
  by_cases h1 : nm = 1 ∧ tpo ks x n 0 = -1
  · have e : taS nm x y (n, ks, vs) = ((n + 1, upd ks n x, upd vs n y), 0, 1) := by unfold taS; rw [if_pos h1]
    rw [e]
    obtain ⟨rfl, h2⟩ := h1
    exact m_Ta_perform_1 l D cI cJ cZ cO b n ks vs r f x y hn h2
  · by_cases h0 : nm = 2 ∧ ¬ tpo ks x n 0 = -1
    · have e : taS nm x y (n, ks, vs) = ((n - 1, upd ks (tpo ks x n 0).toNatClampNeg (ks (n - 1)), upd vs (tpo ks x n 0).toNatClampNeg (vs (n - 1))), (vs (tpo ks x n 0).toNatClampNeg).toInt64, 1) := by unfold taS; rw [if_neg h1, if_pos h0]
      rw [e]
      obtain ⟨rfl, h2⟩ := h0
      rcases tpo_at ks x n 0 with h | ⟨j, h3, h4, h5⟩
      · exact absurd h h2
      · rw [h5, nI_clamp (by omega)]
        exact m_Ta_perform_2 l D cI cJ cZ cO b n ks vs r f x y j (by omega) (by omega) h5
    · have e : taS nm x y (n, ks, vs) = ((n, ks, vs), 0, 0) := by unfold taS; rw [if_neg h1, if_neg h0]
      rw [e]
      exact m_Ta_perform_0 l D cI cJ cZ cO b n ks vs r f nm x y (by omega) (fun h2 h3 => h1 ⟨h2, h3⟩) (fun h2 => Classical.not_not.mp (fun h3 => h0 ⟨h2, h3⟩))


set_option maxHeartbeats 4000000 in
theorem m_Se_perform (l : Launch) (D : va_G) (cI cJ cZ cO : ClassId) (b : Nat) (cn : Int32) (ld : Nat → Int32) (r : Int64) (f : Int32) (nm x y : Int32) (hxy : ∃ i j : Nat, i < 16 ∧ j < 16 ∧ x = nI i ∧ y = nI j) : Met l y_Se_perform (k_Se_perform :: gt) rm_Se_perform (Pc0 D cI cJ cZ cO [.ref b, .int nm, .int x, .int y] (fun H => va_P D cls (wSe cI b cn ld r f) H)) (Qd (blk b 2) none (fun H => va_P D cls (wSe cI b ((seS x y (cn, ld)).1.1) ((seS x y (cn, ld)).1.2) ((seS x y (cn, ld)).2.1) ((seS x y (cn, ld)).2.2)) H)) 0 0 (blk b 2) := by
  obtain ⟨i, j, hi, hj, rfl, rfl⟩ := hxy
  by_cases h0 : ld i = ld j
  · have e : seS (nI i) (nI j) (cn, ld) = ((cn, ld), 0, 0) := by unfold seS; rw [nI_clamp (by omega), nI_clamp (by omega), if_pos h0]
    rw [e]
    exact m_Se_perform_0 l D cI cJ cZ cO b cn ld r f nm i j hi hj h0
  · have e : seS (nI i) (nI j) (cn, ld) = ((cn - 1, sld (ld i) (ld j) 16 0 ld), 0, 1) := by unfold seS; rw [nI_clamp (by omega), nI_clamp (by omega), if_neg h0]
    have h9 := m_Se_perform_1 l D cI cJ cZ cO b cn ld r f nm i j hi hj h0
    rw [e]
    generalize sld (ld i) (ld j) 16 0 ld = S9 at h9 ⊢
    exact h9
