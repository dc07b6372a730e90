/-! the law's cases (by wip/whole/gen/lawloop.py) -/
set_option maxHeartbeats 4000000 in
set_option maxRecDepth 100000 in
theorem lc_open {p : Program} {l : Launch} {e : Env} {s : State} {m : MethodId} {below : List Frame} {meth : Method} {c : Code} {b L : Nat} {xs : Nat → Int32} {D : va_G} {cI cJ cZ cO : ClassId} {o : Nat} {Iv : (Nat → CoT) → MT → Prop} {H : Heap} {locs : List Loc} {cells slots : Nat} {Q : State → Prop} {C : Nat → CoT} {M : MT} {fo : Nat → Int64} {i : Nat} {ls : Array Slot} (hx : p.tables.exec = Jvm.exec) (hb : c.code = code) (hml : c.maxLocals = 8) (hown : s.vm.findClass R_Lw = some m.cls) (hg : ∀ w ∈ gt, w.before #[Value.ref b] s = true) (hKn : Kn D cI cJ cZ cO s) (hNx : Nx s) (hZ : Zs (fun q => s.heap.size ≤ q) s s.heap) (hX : va_X b L xs s s.heap) (hbl : b < s.heap.size) (ho : o = s.heap.size) (hL : L ≤ 3072) (hi : 6 * i + 6 ≤ L)
    (hl : lv_has ls 8 [(4, .int (nI (6 * i))), (0, .ref b), (1, .ref o), (2, .ref (o + 74)), (3, .ref (o + 89))]) (hLI : LI D cI cJ cZ cO o C M fo H) (hS : va_S (fun q => s.heap.size ≤ q) s.heap H locs) (hc9 : cells + 1 ≤ 601024) (hs9 : slots + 6 ≤ 7293034)
    (hop : OP_open l D cI cJ cZ cO o Iv M H (xs (6 * i + 1)) (xs (6 * i + 2)))
    (kk : ∀ (H1 : Heap) (locs1 : List Loc) (ls1 : Array Slot) (C1 : Nat → CoT) (M1 : MT) (fo1 : Nat → Int64), lv_has ls1 8 [(4, .int (nI (6 * i))), (0, .ref b), (1, .ref o), (2, .ref (o + 74)), (3, .ref (o + 89))] → LI D cI cJ cZ cO o C1 M1 fo1 H1 → va_S (fun q => s.heap.size ≤ q) s.heap H1 locs1 → Iv C1 M1 → W p l e room_1 s m #[Value.ref b] below meth c H1 locs1 (cells + 1) (slots + 6) Q (F0 m 1347 ls1 [])) : W p l e room_1 s m #[Value.ref b] below meth c H locs cells slots Q (F0 m 124 ls []) := by
  obtain ⟨kap, C1, M1, hkap, hCS, hMS, hcode, hIv⟩ := hop
  obtain ⟨Pic, hPic, hpE, hM⟩ := hCS
  obtain ⟨hPC, hMw, hOw⟩ := hLI
  have hK := hKn.1
  refine lv_aload_n hx hb d_Lw_law_124 rfl (lv_at hl 2 rfl) ?_
  refine lv_aload_n hx hb d_Lw_law_125 rfl (lv_at hl 1 rfl) ?_
  refine lv_iload hx hb d_Lw_law_126 (lv_at hl 0 rfl) ?_
  refine lv_iconst (v := 1) hx hb d_Lw_law_128 (by decide) ?_
  refine lv_iadd hx hb d_Lw_law_129 ?_
  refine lv_topi (fun z9 e_z9 => ?_)
  obtain rfl : z9 = nI (6 * i + 1) := by rw [e_z9]; exact (nI_add (6 * i) 1)
  refine ep_sld hx hb hX hbl (show ¬ s.heap.size ≤ b by omega) hS (i := (6 * i + 1)) (by omega) (by omega) d_Lw_law_130 ?_
  refine lv_aload_n hx hb d_Lw_law_131 rfl (lv_at hl 1 rfl) ?_
  refine lv_iload hx hb d_Lw_law_132 (lv_at hl 0 rfl) ?_
  refine lv_iconst (v := 2) hx hb d_Lw_law_134 (by decide) ?_
  refine lv_iadd hx hb d_Lw_law_135 ?_
  refine lv_topi (fun z9 e_z9 => ?_)
  obtain rfl : z9 = nI (6 * i + 2) := by rw [e_z9]; exact (nI_add (6 * i) 2)
  refine ep_sld hx hb hX hbl (show ¬ s.heap.size ≤ b by omega) hS (i := (6 * i + 2)) (by omega) (by omega) d_Lw_law_136 ?_
  refine ep_callC (ep_toC (vx_runSW (As := [.ref o, .int (xs (6 * i + 1)), .int (xs (6 * i + 2))]) (rest := []) ⟨hx, hb, hml, hown, hg⟩ (lw_open l D cI cJ cZ cO o (xs (6 * i + 1)) (xs (6 * i + 2)) kap (blk o 74) Pic (PC D cI cJ cZ cO o C1) hpE hkap hM) (ep_cwX (hh := [(0, 6, 9, 13), (0, 6, 12, 15)]) 3 hg tw_220 tw_221 tw_0 tk_Lw_open rfl rfl (by decide +kernel) ⟨(Nat.le_of_ble_eq_true rfl), (Nat.le_of_ble_eq_true rfl)⟩) ⟨ep_blindL, ep_preL hKn (Zs.kept hZ hS (fun q h9 => by show s.heap.size ≤ q; simp only [blk] at h9; omega)) hNx hPic⟩ rfl rfl hl.1 rfl (lv_room (Nat.le_of_ble_eq_true rfl)) d_Lw_law_137 ⟨hc9, hs9⟩)) hS (fun q h9 => by show s.heap.size ≤ q; simp only [blk] at h9; omega) (fun H locs hsz9 hk1 hP1 hS => ?_)
  refine W.eq (g2 := F0 m 140 ls [.int (nI kap)]) rfl ?_
  have hMw := wo_kc hMw hk1 (off_in (A := (blk o 74)) (rng_of wMo_in) (by intro q h1 h2 h3; simp only [blk] at h3; omega))
  have hPC := hP1
  have hOw := wo_kc hOw hk1 (off_in (A := (blk o 74)) (rng_of wOut_in) (by intro q h1 h2 h3; simp only [blk] at h3; omega))
  obtain ⟨fo1, hfo1⟩ : ∃ f, f = fo := ⟨fo, rfl⟩
  rw [← hfo1] at hOw
  clear hsz9 hk1 hP1
  refine lv_istore (lv' := [(5, .int (nI kap)), (4, .int (nI (6 * i))), (0, .ref b), (1, .ref o), (2, .ref (o + 74)), (3, .ref (o + 89))]) hx hb d_Lw_law_140 hl (by decide) rfl (fun ls hl => ?_)
  refine lv_aload_n hx hb d_Lw_law_142 rfl (lv_at hl 4 rfl) ?_
  refine lv_aload_n hx hb d_Lw_law_143 rfl (lv_at hl 2 rfl) ?_
  refine lv_iload hx hb d_Lw_law_144 (lv_at hl 1 rfl) ?_
  refine lv_iconst (v := 1) hx hb d_Lw_law_146 (by decide) ?_
  refine lv_iadd hx hb d_Lw_law_147 ?_
  refine lv_topi (fun z9 e_z9 => ?_)
  obtain rfl : z9 = nI (6 * i + 1) := by rw [e_z9]; exact (nI_add (6 * i) 1)
  refine ep_sld hx hb hX hbl (show ¬ s.heap.size ≤ b by omega) hS (i := (6 * i + 1)) (by omega) (by omega) d_Lw_law_148 ?_
  refine lv_aload_n hx hb d_Lw_law_149 rfl (lv_at hl 2 rfl) ?_
  refine lv_iload hx hb d_Lw_law_150 (lv_at hl 1 rfl) ?_
  refine lv_iconst (v := 2) hx hb d_Lw_law_152 (by decide) ?_
  refine lv_iadd hx hb d_Lw_law_153 ?_
  refine lv_topi (fun z9 e_z9 => ?_)
  obtain rfl : z9 = nI (6 * i + 2) := by rw [e_z9]; exact (nI_add (6 * i) 2)
  refine ep_sld hx hb hX hbl (show ¬ s.heap.size ≤ b by omega) hS (i := (6 * i + 2)) (by omega) (by omega) d_Lw_law_154 ?_
  refine ep_callH (W.runV (As := [.int (xs (6 * i + 1)), .int (xs (6 * i + 2))]) (rest := []) ⟨hx, hb, hml, hown, hg⟩ hMS (ep_cwV 2 hg tw_762 tw_763 tw_764 tw_12 tk_Md_open rfl rfl (by decide +kernel) ⟨(Nat.le_of_ble_eq_true rfl), (Nat.le_of_ble_eq_true rfl)⟩) ⟨ep_blind, va_recv (q0 := 0) (ci := 9) hK hMw rfl rfl, ep_pre hKn hMw⟩ rfl rfl hl.1 rfl (lv_room (Nat.le_of_ble_eq_true rfl)) d_Lw_law_155 ⟨by show cells + 1 + 0 ≤ 601024; omega, by show slots + 6 + 0 ≤ 7293034; omega⟩) hS (fun q h9 => by show s.heap.size ≤ q; simp only [blk] at h9; omega) (fun H locs hsz9 hk1 hMw hS => ?_)
  refine W.eq (g2 := F0 m 158 ls []) rfl ?_
  have hPC := hPC.kept hk1 (fun z h9 => by simp only [blk] at h9; omega)
  have hOw := wo_kc hOw hk1 (off_in (rng_of wOut_in) (by intro q h1 h2 h3; simp only [blk] at h3; omega))
  clear hsz9 hk1
  refine lv_aload_n hx hb d_Lw_law_158 rfl (lv_at hl 4 rfl) ?_
  refine ep_callP (W.runV (As := []) (rest := []) ⟨hx, hb, hml, hown, hg⟩ (m_Mo_thrown l D cI cJ cZ cO (o + 74) (M1.1) (M1.2.1) (M1.2.2.1) (M1.2.2.2.1) (M1.2.2.2.2.1) (M1.2.2.2.2.2.1) (M1.2.2.2.2.2.2.1) (M1.2.2.2.2.2.2.2.1) (M1.2.2.2.2.2.2.2.2.1) (M1.2.2.2.2.2.2.2.2.2.1) (M1.2.2.2.2.2.2.2.2.2.2.1) (M1.2.2.2.2.2.2.2.2.2.2.2.1) (M1.2.2.2.2.2.2.2.2.2.2.2.2.1) (M1.2.2.2.2.2.2.2.2.2.2.2.2.2.1) (M1.2.2.2.2.2.2.2.2.2.2.2.2.2.2.1) (M1.2.2.2.2.2.2.2.2.2.2.2.2.2.2.2.1) (M1.2.2.2.2.2.2.2.2.2.2.2.2.2.2.2.2) _ rfl) (ep_cwV 0 hg tw_758 tw_759 tw_760 tw_12 tk_Md_thrown rfl rfl (by decide +kernel) ⟨(Nat.le_of_ble_eq_true rfl), (Nat.le_of_ble_eq_true rfl)⟩) ⟨ep_blind, va_recv (q0 := 0) (ci := 9) hK hMw rfl rfl, ep_pre hKn hMw⟩ rfl rfl hl.1 rfl (lv_room (Nat.le_of_ble_eq_true rfl)) d_Lw_law_159 ⟨by show cells + 1 + 0 ≤ 601024; omega, by show slots + 6 + 0 ≤ 7293034; omega⟩) ?_
  refine W.eq (g2 := F0 m 162 ls [.int (M_code M1)]) rfl ?_
  rw [hcode]
  refine lv_iload hx hb d_Lw_law_162 (lv_at hl 0 rfl) ?_
  refine lv_icmp_eq (tgt := 169) hx hb d_Lw_law_164 (by decide) (fun hc => ?_) (fun hc => absurd rfl hc)
  refine lv_goto (tgt := 1347) hx hb d_Lw_law_169 (by decide) ?_
  exact kk H locs ls C1 M1 fo1 (lv_sub hl [1, 2, 3, 4, 5] rfl) ⟨hPC, hMw, hOw⟩ hS hIv

set_option maxHeartbeats 4000000 in
set_option maxRecDepth 100000 in
theorem lc_close {p : Program} {l : Launch} {e : Env} {s : State} {m : MethodId} {below : List Frame} {meth : Method} {c : Code} {b L : Nat} {xs : Nat → Int32} {D : va_G} {cI cJ cZ cO : ClassId} {o : Nat} {Iv : (Nat → CoT) → MT → Prop} {H : Heap} {locs : List Loc} {cells slots : Nat} {Q : State → Prop} {C : Nat → CoT} {M : MT} {fo : Nat → Int64} {i : Nat} {ls : Array Slot} (hx : p.tables.exec = Jvm.exec) (hb : c.code = code) (hml : c.maxLocals = 8) (hown : s.vm.findClass R_Lw = some m.cls) (hg : ∀ w ∈ gt, w.before #[Value.ref b] s = true) (hKn : Kn D cI cJ cZ cO s) (hNx : Nx s) (hZ : Zs (fun q => s.heap.size ≤ q) s s.heap) (hX : va_X b L xs s s.heap) (hbl : b < s.heap.size) (ho : o = s.heap.size) (hL : L ≤ 3072) (hi : 6 * i + 6 ≤ L)
    (hl : lv_has ls 8 [(4, .int (nI (6 * i))), (0, .ref b), (1, .ref o), (2, .ref (o + 74)), (3, .ref (o + 89))]) (hLI : LI D cI cJ cZ cO o C M fo H) (hS : va_S (fun q => s.heap.size ≤ q) s.heap H locs) (hc9 : cells + 1 ≤ 601024) (hs9 : slots + 6 ≤ 7293034)
    (hop : OP_close l D cI cJ cZ cO o Iv M H (xs (6 * i + 1)))
    (kk : ∀ (H1 : Heap) (locs1 : List Loc) (ls1 : Array Slot) (C1 : Nat → CoT) (M1 : MT) (fo1 : Nat → Int64), lv_has ls1 8 [(4, .int (nI (6 * i))), (0, .ref b), (1, .ref o), (2, .ref (o + 74)), (3, .ref (o + 89))] → LI D cI cJ cZ cO o C1 M1 fo1 H1 → va_S (fun q => s.heap.size ≤ q) s.heap H1 locs1 → Iv C1 M1 → W p l e room_1 s m #[Value.ref b] below meth c H1 locs1 (cells + 1) (slots + 6) Q (F0 m 1347 ls1 [])) : W p l e room_1 s m #[Value.ref b] below meth c H locs cells slots Q (F0 m 172 ls []) := by
  obtain ⟨kap, r, r1, C1, M1, hkap, hCS, hMS, hcode, hans, hIv⟩ := hop
  obtain ⟨Pic, hPic, hpE, hM⟩ := hCS
  obtain ⟨hPC, hMw, hOw⟩ := hLI
  have hK := hKn.1
  refine lv_aload_n hx hb d_Lw_law_172 rfl (lv_at hl 2 rfl) ?_
  refine lv_aload_n hx hb d_Lw_law_173 rfl (lv_at hl 1 rfl) ?_
  refine lv_iload hx hb d_Lw_law_174 (lv_at hl 0 rfl) ?_
  refine lv_iconst (v := 1) hx hb d_Lw_law_176 (by decide) ?_
  refine lv_iadd hx hb d_Lw_law_177 ?_
  refine lv_topi (fun z9 e_z9 => ?_)
  obtain rfl : z9 = nI (6 * i + 1) := by rw [e_z9]; exact (nI_add (6 * i) 1)
  refine ep_sld hx hb hX hbl (show ¬ s.heap.size ≤ b by omega) hS (i := (6 * i + 1)) (by omega) (by omega) d_Lw_law_178 ?_
  refine lv_aload_n hx hb d_Lw_law_179 rfl (lv_at hl 4 rfl) ?_
  refine ep_callC (ep_toC (vx_runSW (As := [.ref o, .int (xs (6 * i + 1)), .ref (o + 89)]) (rest := []) ⟨hx, hb, hml, hown, hg⟩ (lw_close l D cI cJ cZ cO o (o + 89) fo (xs (6 * i + 1)) r kap (blk o 74) Pic (PC D cI cJ cZ cO o C1) hpE (by simp only [blk]; omega) (fun H9 H8 h9 hP9 => hP9.kept (A := fun q => q = o + 89) h9 (fun z hz => Or.inr (by omega))) hkap hM) (ep_cwX (hh := [(0, 9, 12, 13), (0, 9, 15, 15)]) 3 hg tw_320 tw_321 tw_0 tk_Lw_close rfl rfl (by decide +kernel) ⟨(Nat.le_of_ble_eq_true rfl), (Nat.le_of_ble_eq_true rfl)⟩) ⟨ep_blindL, ep_preL hKn (Zs.kept hZ hS (fun q h9 => by show s.heap.size ≤ q; rcases h9 with h9 | h9; (simp only [blk] at h9; omega); omega)) hNx ⟨hPic, hOw⟩⟩ rfl rfl hl.1 rfl (lv_room (Nat.le_of_ble_eq_true rfl)) d_Lw_law_180 ⟨hc9, hs9⟩)) hS (fun q h9 => by show s.heap.size ≤ q; rcases h9 with h9 | h9; (simp only [blk] at h9; omega); omega) (fun H locs hsz9 hk1 hP1 hS => ?_)
  refine W.eq (g2 := F0 m 183 ls [.int (nI kap)]) rfl ?_
  have hMw := wo_kc hMw hk1 (off_in (A := (fun q => blk o 74 q ∨ q = o + 89)) (rng_of wMo_in) (by intro q h1 h2 h3; rcases h3 with h3 | h3; (simp only [blk] at h3; omega); omega))
  obtain ⟨hPC, fo1, hOw, hfo⟩ := hP1
  clear hsz9 hk1
  refine lv_istore (lv' := [(5, .int (nI kap)), (4, .int (nI (6 * i))), (0, .ref b), (1, .ref o), (2, .ref (o + 74)), (3, .ref (o + 89))]) hx hb d_Lw_law_183 hl (by decide) rfl (fun ls hl => ?_)
  refine lv_aload_n hx hb d_Lw_law_185 rfl (lv_at hl 4 rfl) ?_
  refine lv_aload_n hx hb d_Lw_law_186 rfl (lv_at hl 2 rfl) ?_
  refine lv_iload hx hb d_Lw_law_187 (lv_at hl 1 rfl) ?_
  refine lv_iconst (v := 1) hx hb d_Lw_law_189 (by decide) ?_
  refine lv_iadd hx hb d_Lw_law_190 ?_
  refine lv_topi (fun z9 e_z9 => ?_)
  obtain rfl : z9 = nI (6 * i + 1) := by rw [e_z9]; exact (nI_add (6 * i) 1)
  refine ep_sld hx hb hX hbl (show ¬ s.heap.size ≤ b by omega) hS (i := (6 * i + 1)) (by omega) (by omega) d_Lw_law_191 ?_
  refine ep_callH (W.runV (As := [.int (xs (6 * i + 1))]) (rest := []) ⟨hx, hb, hml, hown, hg⟩ hMS (ep_cwV 1 hg tw_769 tw_770 tw_771 tw_12 tk_Md_close rfl rfl (by decide +kernel) ⟨(Nat.le_of_ble_eq_true rfl), (Nat.le_of_ble_eq_true rfl)⟩) ⟨ep_blind, va_recv (q0 := 0) (ci := 9) hK hMw rfl rfl, ep_pre hKn hMw⟩ rfl rfl hl.1 rfl (lv_room (Nat.le_of_ble_eq_true rfl)) d_Lw_law_192 ⟨by show cells + 1 + 0 ≤ 601024; omega, by show slots + 6 + 0 ≤ 7293034; omega⟩) hS (fun q h9 => by show s.heap.size ≤ q; simp only [blk] at h9; omega) (fun H locs hsz9 hk1 hMw hS => ?_)
  refine W.eq (g2 := F0 m 195 ls [.int r1]) rfl ?_
  have hPC := hPC.kept hk1 (fun z h9 => by simp only [blk] at h9; omega)
  have hOw := wo_kc hOw hk1 (off_in (rng_of wOut_in) (by intro q h1 h2 h3; simp only [blk] at h3; omega))
  clear hsz9 hk1
  refine lv_istore (lv' := [(6, .int r1), (5, .int (nI kap)), (4, .int (nI (6 * i))), (0, .ref b), (1, .ref o), (2, .ref (o + 74)), (3, .ref (o + 89))]) hx hb d_Lw_law_195 hl (by decide) rfl (fun ls hl => ?_)
  refine lv_aload_n hx hb d_Lw_law_197 rfl (lv_at hl 5 rfl) ?_
  refine ep_callP (W.runV (As := []) (rest := []) ⟨hx, hb, hml, hown, hg⟩ (m_Mo_thrown l D cI cJ cZ cO (o + 74) (M1.1) (M1.2.1) (M1.2.2.1) (M1.2.2.2.1) (M1.2.2.2.2.1) (M1.2.2.2.2.2.1) (M1.2.2.2.2.2.2.1) (M1.2.2.2.2.2.2.2.1) (M1.2.2.2.2.2.2.2.2.1) (M1.2.2.2.2.2.2.2.2.2.1) (M1.2.2.2.2.2.2.2.2.2.2.1) (M1.2.2.2.2.2.2.2.2.2.2.2.1) (M1.2.2.2.2.2.2.2.2.2.2.2.2.1) (M1.2.2.2.2.2.2.2.2.2.2.2.2.2.1) (M1.2.2.2.2.2.2.2.2.2.2.2.2.2.2.1) (M1.2.2.2.2.2.2.2.2.2.2.2.2.2.2.2.1) (M1.2.2.2.2.2.2.2.2.2.2.2.2.2.2.2.2) _ rfl) (ep_cwV 0 hg tw_758 tw_759 tw_760 tw_12 tk_Md_thrown rfl rfl (by decide +kernel) ⟨(Nat.le_of_ble_eq_true rfl), (Nat.le_of_ble_eq_true rfl)⟩) ⟨ep_blind, va_recv (q0 := 0) (ci := 9) hK hMw rfl rfl, ep_pre hKn hMw⟩ rfl rfl hl.1 rfl (lv_room (Nat.le_of_ble_eq_true rfl)) d_Lw_law_198 ⟨by show cells + 1 + 0 ≤ 601024; omega, by show slots + 6 + 0 ≤ 7293034; omega⟩) ?_
  refine W.eq (g2 := F0 m 201 ls [.int (M_code M1)]) rfl ?_
  rw [hcode]
  refine lv_iload hx hb d_Lw_law_201 (lv_at hl 1 rfl) ?_
  refine lv_icmp_eq (tgt := 208) hx hb d_Lw_law_203 (by decide) (fun hc => ?_) (fun hc => absurd rfl hc)
  refine lv_iload hx hb d_Lw_law_208 (lv_at hl 1 rfl) ?_
  refine lv_if_ne (tgt := 225) hx hb d_Lw_law_210 (by decide) (fun hc => ?_) (fun hc => ?_)
  · refine lv_goto (tgt := 1347) hx hb d_Lw_law_225 (by decide) ?_
    exact kk H locs ls C1 M1 fo1 (lv_sub hl [2, 3, 4, 5, 6] rfl) ⟨hPC, hMw, hOw⟩ hS hIv
  · have hk0 : kap = 0 := by rcases (show kap = 0 ∨ kap = 1 ∨ kap = 2 ∨ kap = 3 by omega) with h9 | h9 | h9 | h9; exact h9; all_goals (rw [h9] at hc; exact absurd hc (by decide))
    have hv := hfo hk0
    have hrr := hans hk0
    refine lv_aload_n hx hb d_Lw_law_213 rfl (lv_at hl 6 rfl) ?_
    refine lv_iconst (v := 0) hx hb d_Lw_law_214 (by decide) ?_
    refine lv_topi (fun z8 e_z8 => ?_)
    obtain rfl : z8 = nI 0 := by rw [e_z8]; exact nI_0.symm
    refine ep_lald hx hb hK hOw 0 1 rfl rfl (i := 0) (by decide) (by decide) d_Lw_law_215 ?_
    rw [hv, hrr]
    refine lv_iload hx hb d_Lw_law_216 (lv_at hl 0 rfl) ?_
    refine lv_i2l hx hb d_Lw_law_218 rfl ?_
    refine W.lcmp hx hb d_Lw_law_219 ?_
    refine lv_if_eq (tgt := 225) hx hb d_Lw_law_220 (by decide) (fun hc9 => ?_) (fun hc9 => absurd ((lg_cmp_eq _ _).mpr rfl) hc9)
    refine lv_goto (tgt := 1347) hx hb d_Lw_law_225 (by decide) ?_
    exact kk H locs ls C1 M1 fo1 (lv_sub hl [2, 3, 4, 5, 6] rfl) ⟨hPC, hMw, hOw⟩ hS hIv

set_option maxHeartbeats 4000000 in
set_option maxRecDepth 100000 in
theorem lc_put {p : Program} {l : Launch} {e : Env} {s : State} {m : MethodId} {below : List Frame} {meth : Method} {c : Code} {b L : Nat} {xs : Nat → Int32} {D : va_G} {cI cJ cZ cO : ClassId} {o : Nat} {Iv : (Nat → CoT) → MT → Prop} {H : Heap} {locs : List Loc} {cells slots : Nat} {Q : State → Prop} {C : Nat → CoT} {M : MT} {fo : Nat → Int64} {i : Nat} {ls : Array Slot} (hx : p.tables.exec = Jvm.exec) (hb : c.code = code) (hml : c.maxLocals = 8) (hown : s.vm.findClass R_Lw = some m.cls) (hg : ∀ w ∈ gt, w.before #[Value.ref b] s = true) (hKn : Kn D cI cJ cZ cO s) (hNx : Nx s) (hZ : Zs (fun q => s.heap.size ≤ q) s s.heap) (hX : va_X b L xs s s.heap) (hbl : b < s.heap.size) (ho : o = s.heap.size) (hL : L ≤ 3072) (hi : 6 * i + 6 ≤ L)
    (hl : lv_has ls 8 [(4, .int (nI (6 * i))), (0, .ref b), (1, .ref o), (2, .ref (o + 74)), (3, .ref (o + 89))]) (hLI : LI D cI cJ cZ cO o C M fo H) (hS : va_S (fun q => s.heap.size ≤ q) s.heap H locs) (hc9 : cells + 1 ≤ 601024) (hs9 : slots + 6 ≤ 7293034)
    (hop : OP_put l D cI cJ cZ cO o Iv M H (xs (6 * i + 1)) (xs (6 * i + 2)) (xs (6 * i + 3)) (xs (6 * i + 4)) (xs (6 * i + 5)))
    (kk : ∀ (H1 : Heap) (locs1 : List Loc) (ls1 : Array Slot) (C1 : Nat → CoT) (M1 : MT) (fo1 : Nat → Int64), lv_has ls1 8 [(4, .int (nI (6 * i))), (0, .ref b), (1, .ref o), (2, .ref (o + 74)), (3, .ref (o + 89))] → LI D cI cJ cZ cO o C1 M1 fo1 H1 → va_S (fun q => s.heap.size ≤ q) s.heap H1 locs1 → Iv C1 M1 → W p l e room_1 s m #[Value.ref b] below meth c H1 locs1 (cells + 1) (slots + 6) Q (F0 m 1347 ls1 [])) : W p l e room_1 s m #[Value.ref b] below meth c H locs cells slots Q (F0 m 228 ls []) := by
  obtain ⟨kap, C1, M1, hkap, hCS, hMS, hcode, hIv⟩ := hop
  obtain ⟨Pic, hPic, hpE, hM⟩ := hCS
  obtain ⟨hPC, hMw, hOw⟩ := hLI
  have hK := hKn.1
  refine lv_aload_n hx hb d_Lw_law_228 rfl (lv_at hl 2 rfl) ?_
  refine lv_aload_n hx hb d_Lw_law_229 rfl (lv_at hl 1 rfl) ?_
  refine lv_iload hx hb d_Lw_law_230 (lv_at hl 0 rfl) ?_
  refine lv_iconst (v := 1) hx hb d_Lw_law_232 (by decide) ?_
  refine lv_iadd hx hb d_Lw_law_233 ?_
  refine lv_topi (fun z9 e_z9 => ?_)
  obtain rfl : z9 = nI (6 * i + 1) := by rw [e_z9]; exact (nI_add (6 * i) 1)
  refine ep_sld hx hb hX hbl (show ¬ s.heap.size ≤ b by omega) hS (i := (6 * i + 1)) (by omega) (by omega) d_Lw_law_234 ?_
  refine lv_aload_n hx hb d_Lw_law_235 rfl (lv_at hl 1 rfl) ?_
  refine lv_iload hx hb d_Lw_law_236 (lv_at hl 0 rfl) ?_
  refine lv_iconst (v := 2) hx hb d_Lw_law_238 (by decide) ?_
  refine lv_iadd hx hb d_Lw_law_239 ?_
  refine lv_topi (fun z9 e_z9 => ?_)
  obtain rfl : z9 = nI (6 * i + 2) := by rw [e_z9]; exact (nI_add (6 * i) 2)
  refine ep_sld hx hb hX hbl (show ¬ s.heap.size ≤ b by omega) hS (i := (6 * i + 2)) (by omega) (by omega) d_Lw_law_240 ?_
  refine lv_aload_n hx hb d_Lw_law_241 rfl (lv_at hl 1 rfl) ?_
  refine lv_iload hx hb d_Lw_law_242 (lv_at hl 0 rfl) ?_
  refine lv_iconst (v := 3) hx hb d_Lw_law_244 (by decide) ?_
  refine lv_iadd hx hb d_Lw_law_245 ?_
  refine lv_topi (fun z9 e_z9 => ?_)
  obtain rfl : z9 = nI (6 * i + 3) := by rw [e_z9]; exact (nI_add (6 * i) 3)
  refine ep_sld hx hb hX hbl (show ¬ s.heap.size ≤ b by omega) hS (i := (6 * i + 3)) (by omega) (by omega) d_Lw_law_246 ?_
  refine lv_aload_n hx hb d_Lw_law_247 rfl (lv_at hl 1 rfl) ?_
  refine lv_iload hx hb d_Lw_law_248 (lv_at hl 0 rfl) ?_
  refine lv_iconst (v := 4) hx hb d_Lw_law_250 (by decide) ?_
  refine lv_iadd hx hb d_Lw_law_251 ?_
  refine lv_topi (fun z9 e_z9 => ?_)
  obtain rfl : z9 = nI (6 * i + 4) := by rw [e_z9]; exact (nI_add (6 * i) 4)
  refine ep_sld hx hb hX hbl (show ¬ s.heap.size ≤ b by omega) hS (i := (6 * i + 4)) (by omega) (by omega) d_Lw_law_252 ?_
  refine lv_aload_n hx hb d_Lw_law_253 rfl (lv_at hl 1 rfl) ?_
  refine lv_iload hx hb d_Lw_law_254 (lv_at hl 0 rfl) ?_
  refine lv_iconst (v := 5) hx hb d_Lw_law_256 (by decide) ?_
  refine lv_iadd hx hb d_Lw_law_257 ?_
  refine lv_topi (fun z9 e_z9 => ?_)
  obtain rfl : z9 = nI (6 * i + 5) := by rw [e_z9]; exact (nI_add (6 * i) 5)
  refine ep_sld hx hb hX hbl (show ¬ s.heap.size ≤ b by omega) hS (i := (6 * i + 5)) (by omega) (by omega) d_Lw_law_258 ?_
  refine ep_callC (ep_toC (vx_runSW (As := [.ref o, .int (xs (6 * i + 1)), .int (xs (6 * i + 2)), .int (xs (6 * i + 3)), .int (xs (6 * i + 4)), .int (xs (6 * i + 5))]) (rest := []) ⟨hx, hb, hml, hown, hg⟩ (lw_put l D cI cJ cZ cO o (xs (6 * i + 1)) (xs (6 * i + 2)) (xs (6 * i + 3)) (xs (6 * i + 4)) (xs (6 * i + 5)) kap (blk o 74) Pic (PC D cI cJ cZ cO o C1) hpE hkap hM) (ep_cwX (hh := [(0, 11, 14, 13), (0, 11, 18, 15), (0, 11, 22, 25)]) 6 hg tw_332 tw_333 tw_0 tk_Lw_put rfl rfl (by decide +kernel) ⟨(Nat.le_of_ble_eq_true rfl), (Nat.le_of_ble_eq_true rfl)⟩) ⟨ep_blindL, ep_preL hKn (Zs.kept hZ hS (fun q h9 => by show s.heap.size ≤ q; simp only [blk] at h9; omega)) hNx hPic⟩ rfl rfl hl.1 rfl (lv_room (Nat.le_of_ble_eq_true rfl)) d_Lw_law_259 ⟨hc9, hs9⟩)) hS (fun q h9 => by show s.heap.size ≤ q; simp only [blk] at h9; omega) (fun H locs hsz9 hk1 hP1 hS => ?_)
  refine W.eq (g2 := F0 m 262 ls [.int (nI kap)]) rfl ?_
  have hMw := wo_kc hMw hk1 (off_in (A := (blk o 74)) (rng_of wMo_in) (by intro q h1 h2 h3; simp only [blk] at h3; omega))
  have hPC := hP1
  have hOw := wo_kc hOw hk1 (off_in (A := (blk o 74)) (rng_of wOut_in) (by intro q h1 h2 h3; simp only [blk] at h3; omega))
  obtain ⟨fo1, hfo1⟩ : ∃ f, f = fo := ⟨fo, rfl⟩
  rw [← hfo1] at hOw
  clear hsz9 hk1 hP1
  refine lv_istore (lv' := [(5, .int (nI kap)), (4, .int (nI (6 * i))), (0, .ref b), (1, .ref o), (2, .ref (o + 74)), (3, .ref (o + 89))]) hx hb d_Lw_law_262 hl (by decide) rfl (fun ls hl => ?_)
  refine lv_aload_n hx hb d_Lw_law_264 rfl (lv_at hl 4 rfl) ?_
  refine lv_aload_n hx hb d_Lw_law_265 rfl (lv_at hl 2 rfl) ?_
  refine lv_iload hx hb d_Lw_law_266 (lv_at hl 1 rfl) ?_
  refine lv_iconst (v := 1) hx hb d_Lw_law_268 (by decide) ?_
  refine lv_iadd hx hb d_Lw_law_269 ?_
  refine lv_topi (fun z9 e_z9 => ?_)
  obtain rfl : z9 = nI (6 * i + 1) := by rw [e_z9]; exact (nI_add (6 * i) 1)
  refine ep_sld hx hb hX hbl (show ¬ s.heap.size ≤ b by omega) hS (i := (6 * i + 1)) (by omega) (by omega) d_Lw_law_270 ?_
  refine lv_aload_n hx hb d_Lw_law_271 rfl (lv_at hl 2 rfl) ?_
  refine lv_iload hx hb d_Lw_law_272 (lv_at hl 1 rfl) ?_
  refine lv_iconst (v := 2) hx hb d_Lw_law_274 (by decide) ?_
  refine lv_iadd hx hb d_Lw_law_275 ?_
  refine lv_topi (fun z9 e_z9 => ?_)
  obtain rfl : z9 = nI (6 * i + 2) := by rw [e_z9]; exact (nI_add (6 * i) 2)
  refine ep_sld hx hb hX hbl (show ¬ s.heap.size ≤ b by omega) hS (i := (6 * i + 2)) (by omega) (by omega) d_Lw_law_276 ?_
  refine lv_aload_n hx hb d_Lw_law_277 rfl (lv_at hl 2 rfl) ?_
  refine lv_iload hx hb d_Lw_law_278 (lv_at hl 1 rfl) ?_
  refine lv_iconst (v := 3) hx hb d_Lw_law_280 (by decide) ?_
  refine lv_iadd hx hb d_Lw_law_281 ?_
  refine lv_topi (fun z9 e_z9 => ?_)
  obtain rfl : z9 = nI (6 * i + 3) := by rw [e_z9]; exact (nI_add (6 * i) 3)
  refine ep_sld hx hb hX hbl (show ¬ s.heap.size ≤ b by omega) hS (i := (6 * i + 3)) (by omega) (by omega) d_Lw_law_282 ?_
  refine lv_aload_n hx hb d_Lw_law_283 rfl (lv_at hl 2 rfl) ?_
  refine lv_iload hx hb d_Lw_law_284 (lv_at hl 1 rfl) ?_
  refine lv_iconst (v := 4) hx hb d_Lw_law_286 (by decide) ?_
  refine lv_iadd hx hb d_Lw_law_287 ?_
  refine lv_topi (fun z9 e_z9 => ?_)
  obtain rfl : z9 = nI (6 * i + 4) := by rw [e_z9]; exact (nI_add (6 * i) 4)
  refine ep_sld hx hb hX hbl (show ¬ s.heap.size ≤ b by omega) hS (i := (6 * i + 4)) (by omega) (by omega) d_Lw_law_288 ?_
  refine lv_aload_n hx hb d_Lw_law_289 rfl (lv_at hl 2 rfl) ?_
  refine lv_iload hx hb d_Lw_law_290 (lv_at hl 1 rfl) ?_
  refine lv_iconst (v := 5) hx hb d_Lw_law_292 (by decide) ?_
  refine lv_iadd hx hb d_Lw_law_293 ?_
  refine lv_topi (fun z9 e_z9 => ?_)
  obtain rfl : z9 = nI (6 * i + 5) := by rw [e_z9]; exact (nI_add (6 * i) 5)
  refine ep_sld hx hb hX hbl (show ¬ s.heap.size ≤ b by omega) hS (i := (6 * i + 5)) (by omega) (by omega) d_Lw_law_294 ?_
  refine ep_callH (W.runV (As := [.int (xs (6 * i + 1)), .int (xs (6 * i + 2)), .int (xs (6 * i + 3)), .int (xs (6 * i + 4)), .int (xs (6 * i + 5))]) (rest := []) ⟨hx, hb, hml, hown, hg⟩ hMS (ep_cwV 5 hg tw_781 tw_782 tw_783 tw_12 tk_Md_put rfl rfl (by decide +kernel) ⟨(Nat.le_of_ble_eq_true rfl), (Nat.le_of_ble_eq_true rfl)⟩) ⟨ep_blind, va_recv (q0 := 0) (ci := 9) hK hMw rfl rfl, ep_pre hKn hMw⟩ rfl rfl hl.1 rfl (lv_room (Nat.le_of_ble_eq_true rfl)) d_Lw_law_295 ⟨by show cells + 1 + 0 ≤ 601024; omega, by show slots + 6 + 0 ≤ 7293034; omega⟩) hS (fun q h9 => by show s.heap.size ≤ q; simp only [blk] at h9; omega) (fun H locs hsz9 hk1 hMw hS => ?_)
  refine W.eq (g2 := F0 m 298 ls []) rfl ?_
  have hPC := hPC.kept hk1 (fun z h9 => by simp only [blk] at h9; omega)
  have hOw := wo_kc hOw hk1 (off_in (rng_of wOut_in) (by intro q h1 h2 h3; simp only [blk] at h3; omega))
  clear hsz9 hk1
  refine lv_aload_n hx hb d_Lw_law_298 rfl (lv_at hl 4 rfl) ?_
  refine ep_callP (W.runV (As := []) (rest := []) ⟨hx, hb, hml, hown, hg⟩ (m_Mo_thrown l D cI cJ cZ cO (o + 74) (M1.1) (M1.2.1) (M1.2.2.1) (M1.2.2.2.1) (M1.2.2.2.2.1) (M1.2.2.2.2.2.1) (M1.2.2.2.2.2.2.1) (M1.2.2.2.2.2.2.2.1) (M1.2.2.2.2.2.2.2.2.1) (M1.2.2.2.2.2.2.2.2.2.1) (M1.2.2.2.2.2.2.2.2.2.2.1) (M1.2.2.2.2.2.2.2.2.2.2.2.1) (M1.2.2.2.2.2.2.2.2.2.2.2.2.1) (M1.2.2.2.2.2.2.2.2.2.2.2.2.2.1) (M1.2.2.2.2.2.2.2.2.2.2.2.2.2.2.1) (M1.2.2.2.2.2.2.2.2.2.2.2.2.2.2.2.1) (M1.2.2.2.2.2.2.2.2.2.2.2.2.2.2.2.2) _ rfl) (ep_cwV 0 hg tw_758 tw_759 tw_760 tw_12 tk_Md_thrown rfl rfl (by decide +kernel) ⟨(Nat.le_of_ble_eq_true rfl), (Nat.le_of_ble_eq_true rfl)⟩) ⟨ep_blind, va_recv (q0 := 0) (ci := 9) hK hMw rfl rfl, ep_pre hKn hMw⟩ rfl rfl hl.1 rfl (lv_room (Nat.le_of_ble_eq_true rfl)) d_Lw_law_299 ⟨by show cells + 1 + 0 ≤ 601024; omega, by show slots + 6 + 0 ≤ 7293034; omega⟩) ?_
  refine W.eq (g2 := F0 m 302 ls [.int (M_code M1)]) rfl ?_
  rw [hcode]
  refine lv_iload hx hb d_Lw_law_302 (lv_at hl 0 rfl) ?_
  refine lv_icmp_eq (tgt := 309) hx hb d_Lw_law_304 (by decide) (fun hc => ?_) (fun hc => absurd rfl hc)
  refine lv_goto (tgt := 1347) hx hb d_Lw_law_309 (by decide) ?_
  exact kk H locs ls C1 M1 fo1 (lv_sub hl [1, 2, 3, 4, 5] rfl) ⟨hPC, hMw, hOw⟩ hS hIv

set_option maxHeartbeats 4000000 in
set_option maxRecDepth 100000 in
theorem lc_strike {p : Program} {l : Launch} {e : Env} {s : State} {m : MethodId} {below : List Frame} {meth : Method} {c : Code} {b L : Nat} {xs : Nat → Int32} {D : va_G} {cI cJ cZ cO : ClassId} {o : Nat} {Iv : (Nat → CoT) → MT → Prop} {H : Heap} {locs : List Loc} {cells slots : Nat} {Q : State → Prop} {C : Nat → CoT} {M : MT} {fo : Nat → Int64} {i : Nat} {ls : Array Slot} (hx : p.tables.exec = Jvm.exec) (hb : c.code = code) (hml : c.maxLocals = 8) (hown : s.vm.findClass R_Lw = some m.cls) (hg : ∀ w ∈ gt, w.before #[Value.ref b] s = true) (hKn : Kn D cI cJ cZ cO s) (hNx : Nx s) (hZ : Zs (fun q => s.heap.size ≤ q) s s.heap) (hX : va_X b L xs s s.heap) (hbl : b < s.heap.size) (ho : o = s.heap.size) (hL : L ≤ 3072) (hi : 6 * i + 6 ≤ L)
    (hl : lv_has ls 8 [(4, .int (nI (6 * i))), (0, .ref b), (1, .ref o), (2, .ref (o + 74)), (3, .ref (o + 89))]) (hLI : LI D cI cJ cZ cO o C M fo H) (hS : va_S (fun q => s.heap.size ≤ q) s.heap H locs) (hc9 : cells + 1 ≤ 601024) (hs9 : slots + 6 ≤ 7293034)
    (hop : OP_strike l D cI cJ cZ cO o Iv M H (xs (6 * i + 1)) (xs (6 * i + 2)))
    (kk : ∀ (H1 : Heap) (locs1 : List Loc) (ls1 : Array Slot) (C1 : Nat → CoT) (M1 : MT) (fo1 : Nat → Int64), lv_has ls1 8 [(4, .int (nI (6 * i))), (0, .ref b), (1, .ref o), (2, .ref (o + 74)), (3, .ref (o + 89))] → LI D cI cJ cZ cO o C1 M1 fo1 H1 → va_S (fun q => s.heap.size ≤ q) s.heap H1 locs1 → Iv C1 M1 → W p l e room_1 s m #[Value.ref b] below meth c H1 locs1 (cells + 1) (slots + 6) Q (F0 m 1347 ls1 [])) : W p l e room_1 s m #[Value.ref b] below meth c H locs cells slots Q (F0 m 312 ls []) := by
  obtain ⟨kap, r, r1, C1, M1, hkap, hCS, hMS, hcode, hr01, hans, hIv⟩ := hop
  obtain ⟨Pic, hPic, hpE, hM⟩ := hCS
  obtain ⟨hPC, hMw, hOw⟩ := hLI
  have hK := hKn.1
  refine lv_aload_n hx hb d_Lw_law_312 rfl (lv_at hl 2 rfl) ?_
  refine lv_aload_n hx hb d_Lw_law_313 rfl (lv_at hl 1 rfl) ?_
  refine lv_iload hx hb d_Lw_law_314 (lv_at hl 0 rfl) ?_
  refine lv_iconst (v := 1) hx hb d_Lw_law_316 (by decide) ?_
  refine lv_iadd hx hb d_Lw_law_317 ?_
  refine lv_topi (fun z9 e_z9 => ?_)
  obtain rfl : z9 = nI (6 * i + 1) := by rw [e_z9]; exact (nI_add (6 * i) 1)
  refine ep_sld hx hb hX hbl (show ¬ s.heap.size ≤ b by omega) hS (i := (6 * i + 1)) (by omega) (by omega) d_Lw_law_318 ?_
  refine lv_aload_n hx hb d_Lw_law_319 rfl (lv_at hl 1 rfl) ?_
  refine lv_iload hx hb d_Lw_law_320 (lv_at hl 0 rfl) ?_
  refine lv_iconst (v := 2) hx hb d_Lw_law_322 (by decide) ?_
  refine lv_iadd hx hb d_Lw_law_323 ?_
  refine lv_topi (fun z9 e_z9 => ?_)
  obtain rfl : z9 = nI (6 * i + 2) := by rw [e_z9]; exact (nI_add (6 * i) 2)
  refine ep_sld hx hb hX hbl (show ¬ s.heap.size ≤ b by omega) hS (i := (6 * i + 2)) (by omega) (by omega) d_Lw_law_324 ?_
  refine lv_aload_n hx hb d_Lw_law_325 rfl (lv_at hl 4 rfl) ?_
  refine ep_callC (ep_toC (vx_runSW (As := [.ref o, .int (xs (6 * i + 1)), .int (xs (6 * i + 2)), .ref (o + 89)]) (rest := []) ⟨hx, hb, hml, hown, hg⟩ (lw_strike l D cI cJ cZ cO o (o + 89) fo (xs (6 * i + 1)) (xs (6 * i + 2)) r hr01 kap (blk o 74) Pic (PC D cI cJ cZ cO o C1) hpE (by simp only [blk]; omega) (fun H9 H8 h9 hP9 => hP9.kept (A := fun q => q = o + 89) h9 (fun z hz => Or.inr (by omega))) hkap hM) (ep_cwX (hh := [(0, 17, 20, 13), (0, 17, 24, 15)]) 4 hg tw_520 tw_521 tw_0 tk_Lw_strike rfl rfl (by decide +kernel) ⟨(Nat.le_of_ble_eq_true rfl), (Nat.le_of_ble_eq_true rfl)⟩) ⟨ep_blindL, ep_preL hKn (Zs.kept hZ hS (fun q h9 => by show s.heap.size ≤ q; rcases h9 with h9 | h9; (simp only [blk] at h9; omega); omega)) hNx ⟨hPic, hOw⟩⟩ rfl rfl hl.1 rfl (lv_room (Nat.le_of_ble_eq_true rfl)) d_Lw_law_326 ⟨hc9, hs9⟩)) hS (fun q h9 => by show s.heap.size ≤ q; rcases h9 with h9 | h9; (simp only [blk] at h9; omega); omega) (fun H locs hsz9 hk1 hP1 hS => ?_)
  refine W.eq (g2 := F0 m 329 ls [.int (nI kap)]) rfl ?_
  have hMw := wo_kc hMw hk1 (off_in (A := (fun q => blk o 74 q ∨ q = o + 89)) (rng_of wMo_in) (by intro q h1 h2 h3; rcases h3 with h3 | h3; (simp only [blk] at h3; omega); omega))
  obtain ⟨hPC, fo1, hOw, hfo⟩ := hP1
  clear hsz9 hk1
  refine lv_istore (lv' := [(5, .int (nI kap)), (4, .int (nI (6 * i))), (0, .ref b), (1, .ref o), (2, .ref (o + 74)), (3, .ref (o + 89))]) hx hb d_Lw_law_329 hl (by decide) rfl (fun ls hl => ?_)
  refine lv_aload_n hx hb d_Lw_law_331 rfl (lv_at hl 4 rfl) ?_
  refine lv_aload_n hx hb d_Lw_law_332 rfl (lv_at hl 2 rfl) ?_
  refine lv_iload hx hb d_Lw_law_333 (lv_at hl 1 rfl) ?_
  refine lv_iconst (v := 1) hx hb d_Lw_law_335 (by decide) ?_
  refine lv_iadd hx hb d_Lw_law_336 ?_
  refine lv_topi (fun z9 e_z9 => ?_)
  obtain rfl : z9 = nI (6 * i + 1) := by rw [e_z9]; exact (nI_add (6 * i) 1)
  refine ep_sld hx hb hX hbl (show ¬ s.heap.size ≤ b by omega) hS (i := (6 * i + 1)) (by omega) (by omega) d_Lw_law_337 ?_
  refine lv_aload_n hx hb d_Lw_law_338 rfl (lv_at hl 2 rfl) ?_
  refine lv_iload hx hb d_Lw_law_339 (lv_at hl 1 rfl) ?_
  refine lv_iconst (v := 2) hx hb d_Lw_law_341 (by decide) ?_
  refine lv_iadd hx hb d_Lw_law_342 ?_
  refine lv_topi (fun z9 e_z9 => ?_)
  obtain rfl : z9 = nI (6 * i + 2) := by rw [e_z9]; exact (nI_add (6 * i) 2)
  refine ep_sld hx hb hX hbl (show ¬ s.heap.size ≤ b by omega) hS (i := (6 * i + 2)) (by omega) (by omega) d_Lw_law_343 ?_
  refine ep_callH (W.runV (As := [.int (xs (6 * i + 1)), .int (xs (6 * i + 2))]) (rest := []) ⟨hx, hb, hml, hown, hg⟩ hMS (ep_cwV 2 hg tw_812 tw_813 tw_814 tw_12 tk_Md_strike rfl rfl (by decide +kernel) ⟨(Nat.le_of_ble_eq_true rfl), (Nat.le_of_ble_eq_true rfl)⟩) ⟨ep_blind, va_recv (q0 := 0) (ci := 9) hK hMw rfl rfl, ep_pre hKn hMw⟩ rfl rfl hl.1 rfl (lv_room (Nat.le_of_ble_eq_true rfl)) d_Lw_law_344 ⟨by show cells + 1 + 0 ≤ 601024; omega, by show slots + 6 + 0 ≤ 7293034; omega⟩) hS (fun q h9 => by show s.heap.size ≤ q; simp only [blk] at h9; omega) (fun H locs hsz9 hk1 hMw hS => ?_)
  refine W.eq (g2 := F0 m 347 ls [.int r1]) rfl ?_
  have hPC := hPC.kept hk1 (fun z h9 => by simp only [blk] at h9; omega)
  have hOw := wo_kc hOw hk1 (off_in (rng_of wOut_in) (by intro q h1 h2 h3; simp only [blk] at h3; omega))
  clear hsz9 hk1
  refine lv_istore (lv' := [(6, .int r1), (5, .int (nI kap)), (4, .int (nI (6 * i))), (0, .ref b), (1, .ref o), (2, .ref (o + 74)), (3, .ref (o + 89))]) hx hb d_Lw_law_347 hl (by decide) rfl (fun ls hl => ?_)
  refine lv_aload_n hx hb d_Lw_law_349 rfl (lv_at hl 5 rfl) ?_
  refine ep_callP (W.runV (As := []) (rest := []) ⟨hx, hb, hml, hown, hg⟩ (m_Mo_thrown l D cI cJ cZ cO (o + 74) (M1.1) (M1.2.1) (M1.2.2.1) (M1.2.2.2.1) (M1.2.2.2.2.1) (M1.2.2.2.2.2.1) (M1.2.2.2.2.2.2.1) (M1.2.2.2.2.2.2.2.1) (M1.2.2.2.2.2.2.2.2.1) (M1.2.2.2.2.2.2.2.2.2.1) (M1.2.2.2.2.2.2.2.2.2.2.1) (M1.2.2.2.2.2.2.2.2.2.2.2.1) (M1.2.2.2.2.2.2.2.2.2.2.2.2.1) (M1.2.2.2.2.2.2.2.2.2.2.2.2.2.1) (M1.2.2.2.2.2.2.2.2.2.2.2.2.2.2.1) (M1.2.2.2.2.2.2.2.2.2.2.2.2.2.2.2.1) (M1.2.2.2.2.2.2.2.2.2.2.2.2.2.2.2.2) _ rfl) (ep_cwV 0 hg tw_758 tw_759 tw_760 tw_12 tk_Md_thrown rfl rfl (by decide +kernel) ⟨(Nat.le_of_ble_eq_true rfl), (Nat.le_of_ble_eq_true rfl)⟩) ⟨ep_blind, va_recv (q0 := 0) (ci := 9) hK hMw rfl rfl, ep_pre hKn hMw⟩ rfl rfl hl.1 rfl (lv_room (Nat.le_of_ble_eq_true rfl)) d_Lw_law_350 ⟨by show cells + 1 + 0 ≤ 601024; omega, by show slots + 6 + 0 ≤ 7293034; omega⟩) ?_
  refine W.eq (g2 := F0 m 353 ls [.int (M_code M1)]) rfl ?_
  rw [hcode]
  refine lv_iload hx hb d_Lw_law_353 (lv_at hl 1 rfl) ?_
  refine lv_icmp_eq (tgt := 360) hx hb d_Lw_law_355 (by decide) (fun hc => ?_) (fun hc => absurd rfl hc)
  refine lv_iload hx hb d_Lw_law_360 (lv_at hl 1 rfl) ?_
  refine lv_if_ne (tgt := 384) hx hb d_Lw_law_362 (by decide) (fun hc => ?_) (fun hc => ?_)
  · refine lv_goto (tgt := 1347) hx hb d_Lw_law_384 (by decide) ?_
    exact kk H locs ls C1 M1 fo1 (lv_sub hl [2, 3, 4, 5, 6] rfl) ⟨hPC, hMw, hOw⟩ hS hIv
  · have hk0 : kap = 0 := by rcases (show kap = 0 ∨ kap = 1 ∨ kap = 2 ∨ kap = 3 by omega) with h9 | h9 | h9 | h9; exact h9; all_goals (rw [h9] at hc; exact absurd hc (by decide))
    have hv := hfo hk0
    have hrr := hans hk0
    refine lv_aload_n hx hb d_Lw_law_365 rfl (lv_at hl 6 rfl) ?_
    refine lv_iconst (v := 0) hx hb d_Lw_law_366 (by decide) ?_
    refine lv_topi (fun z8 e_z8 => ?_)
    obtain rfl : z8 = nI 0 := by rw [e_z8]; exact nI_0.symm
    refine ep_lald hx hb hK hOw 0 1 rfl rfl (i := 0) (by decide) (by decide) d_Lw_law_367 ?_
    rw [hv, hrr]
    refine lv_iload hx hb d_Lw_law_368 (lv_at hl 0 rfl) ?_
    refine lv_if_eq (tgt := 377) hx hb d_Lw_law_370 (by decide) (fun hc8 => ?_) (fun hc8 => ?_)
    · have hv8 : (if r1 = 0 then (0 : Int64) else 1) = 0 := if_pos hc8
      refine lv_lconst (v := 0) hx hb d_Lw_law_377 (by decide) ?_
      refine W.lcmp hx hb d_Lw_law_378 ?_
      refine lv_if_eq (tgt := 384) hx hb d_Lw_law_379 (by decide) (fun hc9 => ?_) (fun hc9 => absurd ((lg_cmp_eq _ _).mpr hv8) hc9)
      refine lv_goto (tgt := 1347) hx hb d_Lw_law_384 (by decide) ?_
      exact kk H locs ls C1 M1 fo1 (lv_sub hl [2, 3, 4, 5, 6] rfl) ⟨hPC, hMw, hOw⟩ hS hIv
    · have hv8 : (if r1 = 0 then (0 : Int64) else 1) = 1 := if_neg hc8
      refine lv_lconst (v := 1) hx hb d_Lw_law_373 (by decide) ?_
      refine lv_goto (tgt := 378) hx hb d_Lw_law_374 (by decide) ?_
      refine W.lcmp hx hb d_Lw_law_378 ?_
      refine lv_if_eq (tgt := 384) hx hb d_Lw_law_379 (by decide) (fun hc9 => ?_) (fun hc9 => absurd ((lg_cmp_eq _ _).mpr hv8) hc9)
      refine lv_goto (tgt := 1347) hx hb d_Lw_law_384 (by decide) ?_
      exact kk H locs ls C1 M1 fo1 (lv_sub hl [2, 3, 4, 5, 6] rfl) ⟨hPC, hMw, hOw⟩ hS hIv

set_option maxHeartbeats 4000000 in
set_option maxRecDepth 100000 in
theorem lc_shift {p : Program} {l : Launch} {e : Env} {s : State} {m : MethodId} {below : List Frame} {meth : Method} {c : Code} {b L : Nat} {xs : Nat → Int32} {D : va_G} {cI cJ cZ cO : ClassId} {o : Nat} {Iv : (Nat → CoT) → MT → Prop} {H : Heap} {locs : List Loc} {cells slots : Nat} {Q : State → Prop} {C : Nat → CoT} {M : MT} {fo : Nat → Int64} {i : Nat} {ls : Array Slot} (hx : p.tables.exec = Jvm.exec) (hb : c.code = code) (hml : c.maxLocals = 8) (hown : s.vm.findClass R_Lw = some m.cls) (hg : ∀ w ∈ gt, w.before #[Value.ref b] s = true) (hKn : Kn D cI cJ cZ cO s) (hNx : Nx s) (hZ : Zs (fun q => s.heap.size ≤ q) s s.heap) (hX : va_X b L xs s s.heap) (hbl : b < s.heap.size) (ho : o = s.heap.size) (hL : L ≤ 3072) (hi : 6 * i + 6 ≤ L)
    (hl : lv_has ls 8 [(4, .int (nI (6 * i))), (0, .ref b), (1, .ref o), (2, .ref (o + 74)), (3, .ref (o + 89))]) (hLI : LI D cI cJ cZ cO o C M fo H) (hS : va_S (fun q => s.heap.size ≤ q) s.heap H locs) (hc9 : cells + 1 ≤ 601024) (hs9 : slots + 6 ≤ 7293034)
    (hop : OP_shift l D cI cJ cZ cO o Iv M H (xs (6 * i + 1)) (xs (6 * i + 2)) (xs (6 * i + 3)))
    (kk : ∀ (H1 : Heap) (locs1 : List Loc) (ls1 : Array Slot) (C1 : Nat → CoT) (M1 : MT) (fo1 : Nat → Int64), lv_has ls1 8 [(4, .int (nI (6 * i))), (0, .ref b), (1, .ref o), (2, .ref (o + 74)), (3, .ref (o + 89))] → LI D cI cJ cZ cO o C1 M1 fo1 H1 → va_S (fun q => s.heap.size ≤ q) s.heap H1 locs1 → Iv C1 M1 → W p l e room_1 s m #[Value.ref b] below meth c H1 locs1 (cells + 1) (slots + 6) Q (F0 m 1347 ls1 [])) : W p l e room_1 s m #[Value.ref b] below meth c H locs cells slots Q (F0 m 387 ls []) := by
  obtain ⟨kap, C1, M1, hkap, hCS, hMS, hcode, hIv⟩ := hop
  obtain ⟨Pic, hPic, hpE, hM⟩ := hCS
  obtain ⟨hPC, hMw, hOw⟩ := hLI
  have hK := hKn.1
  refine lv_aload_n hx hb d_Lw_law_387 rfl (lv_at hl 2 rfl) ?_
  refine lv_aload_n hx hb d_Lw_law_388 rfl (lv_at hl 1 rfl) ?_
  refine lv_iload hx hb d_Lw_law_389 (lv_at hl 0 rfl) ?_
  refine lv_iconst (v := 1) hx hb d_Lw_law_391 (by decide) ?_
  refine lv_iadd hx hb d_Lw_law_392 ?_
  refine lv_topi (fun z9 e_z9 => ?_)
  obtain rfl : z9 = nI (6 * i + 1) := by rw [e_z9]; exact (nI_add (6 * i) 1)
  refine ep_sld hx hb hX hbl (show ¬ s.heap.size ≤ b by omega) hS (i := (6 * i + 1)) (by omega) (by omega) d_Lw_law_393 ?_
  refine lv_aload_n hx hb d_Lw_law_394 rfl (lv_at hl 1 rfl) ?_
  refine lv_iload hx hb d_Lw_law_395 (lv_at hl 0 rfl) ?_
  refine lv_iconst (v := 2) hx hb d_Lw_law_397 (by decide) ?_
  refine lv_iadd hx hb d_Lw_law_398 ?_
  refine lv_topi (fun z9 e_z9 => ?_)
  obtain rfl : z9 = nI (6 * i + 2) := by rw [e_z9]; exact (nI_add (6 * i) 2)
  refine ep_sld hx hb hX hbl (show ¬ s.heap.size ≤ b by omega) hS (i := (6 * i + 2)) (by omega) (by omega) d_Lw_law_399 ?_
  refine lv_aload_n hx hb d_Lw_law_400 rfl (lv_at hl 1 rfl) ?_
  refine lv_iload hx hb d_Lw_law_401 (lv_at hl 0 rfl) ?_
  refine lv_iconst (v := 3) hx hb d_Lw_law_403 (by decide) ?_
  refine lv_iadd hx hb d_Lw_law_404 ?_
  refine lv_topi (fun z9 e_z9 => ?_)
  obtain rfl : z9 = nI (6 * i + 3) := by rw [e_z9]; exact (nI_add (6 * i) 3)
  refine ep_sld hx hb hX hbl (show ¬ s.heap.size ≤ b by omega) hS (i := (6 * i + 3)) (by omega) (by omega) d_Lw_law_405 ?_
  refine ep_callC (ep_toC (vx_runSW (As := [.ref o, .int (xs (6 * i + 1)), .int (xs (6 * i + 2)), .int (xs (6 * i + 3))]) (rest := []) ⟨hx, hb, hml, hown, hg⟩ (lw_shift l D cI cJ cZ cO o (xs (6 * i + 1)) (xs (6 * i + 2)) (xs (6 * i + 3)) kap (blk o 74) Pic (PC D cI cJ cZ cO o C1) hpE hkap hM) (ep_cwX (hh := [(0, 7, 10, 13), (0, 7, 14, 15), (0, 7, 18, 35)]) 4 hg tw_531 tw_532 tw_0 tk_Lw_shift rfl rfl (by decide +kernel) ⟨(Nat.le_of_ble_eq_true rfl), (Nat.le_of_ble_eq_true rfl)⟩) ⟨ep_blindL, ep_preL hKn (Zs.kept hZ hS (fun q h9 => by show s.heap.size ≤ q; simp only [blk] at h9; omega)) hNx hPic⟩ rfl rfl hl.1 rfl (lv_room (Nat.le_of_ble_eq_true rfl)) d_Lw_law_406 ⟨hc9, hs9⟩)) hS (fun q h9 => by show s.heap.size ≤ q; simp only [blk] at h9; omega) (fun H locs hsz9 hk1 hP1 hS => ?_)
  refine W.eq (g2 := F0 m 409 ls [.int (nI kap)]) rfl ?_
  have hMw := wo_kc hMw hk1 (off_in (A := (blk o 74)) (rng_of wMo_in) (by intro q h1 h2 h3; simp only [blk] at h3; omega))
  have hPC := hP1
  have hOw := wo_kc hOw hk1 (off_in (A := (blk o 74)) (rng_of wOut_in) (by intro q h1 h2 h3; simp only [blk] at h3; omega))
  obtain ⟨fo1, hfo1⟩ : ∃ f, f = fo := ⟨fo, rfl⟩
  rw [← hfo1] at hOw
  clear hsz9 hk1 hP1
  refine lv_istore (lv' := [(5, .int (nI kap)), (4, .int (nI (6 * i))), (0, .ref b), (1, .ref o), (2, .ref (o + 74)), (3, .ref (o + 89))]) hx hb d_Lw_law_409 hl (by decide) rfl (fun ls hl => ?_)
  refine lv_aload_n hx hb d_Lw_law_411 rfl (lv_at hl 4 rfl) ?_
  refine lv_aload_n hx hb d_Lw_law_412 rfl (lv_at hl 2 rfl) ?_
  refine lv_iload hx hb d_Lw_law_413 (lv_at hl 1 rfl) ?_
  refine lv_iconst (v := 1) hx hb d_Lw_law_415 (by decide) ?_
  refine lv_iadd hx hb d_Lw_law_416 ?_
  refine lv_topi (fun z9 e_z9 => ?_)
  obtain rfl : z9 = nI (6 * i + 1) := by rw [e_z9]; exact (nI_add (6 * i) 1)
  refine ep_sld hx hb hX hbl (show ¬ s.heap.size ≤ b by omega) hS (i := (6 * i + 1)) (by omega) (by omega) d_Lw_law_417 ?_
  refine lv_aload_n hx hb d_Lw_law_418 rfl (lv_at hl 2 rfl) ?_
  refine lv_iload hx hb d_Lw_law_419 (lv_at hl 1 rfl) ?_
  refine lv_iconst (v := 2) hx hb d_Lw_law_421 (by decide) ?_
  refine lv_iadd hx hb d_Lw_law_422 ?_
  refine lv_topi (fun z9 e_z9 => ?_)
  obtain rfl : z9 = nI (6 * i + 2) := by rw [e_z9]; exact (nI_add (6 * i) 2)
  refine ep_sld hx hb hX hbl (show ¬ s.heap.size ≤ b by omega) hS (i := (6 * i + 2)) (by omega) (by omega) d_Lw_law_423 ?_
  refine lv_aload_n hx hb d_Lw_law_424 rfl (lv_at hl 2 rfl) ?_
  refine lv_iload hx hb d_Lw_law_425 (lv_at hl 1 rfl) ?_
  refine lv_iconst (v := 3) hx hb d_Lw_law_427 (by decide) ?_
  refine lv_iadd hx hb d_Lw_law_428 ?_
  refine lv_topi (fun z9 e_z9 => ?_)
  obtain rfl : z9 = nI (6 * i + 3) := by rw [e_z9]; exact (nI_add (6 * i) 3)
  refine ep_sld hx hb hX hbl (show ¬ s.heap.size ≤ b by omega) hS (i := (6 * i + 3)) (by omega) (by omega) d_Lw_law_429 ?_
  refine ep_callH (W.runV (As := [.int (xs (6 * i + 1)), .int (xs (6 * i + 2)), .int (xs (6 * i + 3))]) (rest := []) ⟨hx, hb, hml, hown, hg⟩ hMS (ep_cwV 3 hg tw_820 tw_821 tw_822 tw_12 tk_Md_shift rfl rfl (by decide +kernel) ⟨(Nat.le_of_ble_eq_true rfl), (Nat.le_of_ble_eq_true rfl)⟩) ⟨ep_blind, va_recv (q0 := 0) (ci := 9) hK hMw rfl rfl, ep_pre hKn hMw⟩ rfl rfl hl.1 rfl (lv_room (Nat.le_of_ble_eq_true rfl)) d_Lw_law_430 ⟨by show cells + 1 + 0 ≤ 601024; omega, by show slots + 6 + 0 ≤ 7293034; omega⟩) hS (fun q h9 => by show s.heap.size ≤ q; simp only [blk] at h9; omega) (fun H locs hsz9 hk1 hMw hS => ?_)
  refine W.eq (g2 := F0 m 433 ls []) rfl ?_
  have hPC := hPC.kept hk1 (fun z h9 => by simp only [blk] at h9; omega)
  have hOw := wo_kc hOw hk1 (off_in (rng_of wOut_in) (by intro q h1 h2 h3; simp only [blk] at h3; omega))
  clear hsz9 hk1
  refine lv_aload_n hx hb d_Lw_law_433 rfl (lv_at hl 4 rfl) ?_
  refine ep_callP (W.runV (As := []) (rest := []) ⟨hx, hb, hml, hown, hg⟩ (m_Mo_thrown l D cI cJ cZ cO (o + 74) (M1.1) (M1.2.1) (M1.2.2.1) (M1.2.2.2.1) (M1.2.2.2.2.1) (M1.2.2.2.2.2.1) (M1.2.2.2.2.2.2.1) (M1.2.2.2.2.2.2.2.1) (M1.2.2.2.2.2.2.2.2.1) (M1.2.2.2.2.2.2.2.2.2.1) (M1.2.2.2.2.2.2.2.2.2.2.1) (M1.2.2.2.2.2.2.2.2.2.2.2.1) (M1.2.2.2.2.2.2.2.2.2.2.2.2.1) (M1.2.2.2.2.2.2.2.2.2.2.2.2.2.1) (M1.2.2.2.2.2.2.2.2.2.2.2.2.2.2.1) (M1.2.2.2.2.2.2.2.2.2.2.2.2.2.2.2.1) (M1.2.2.2.2.2.2.2.2.2.2.2.2.2.2.2.2) _ rfl) (ep_cwV 0 hg tw_758 tw_759 tw_760 tw_12 tk_Md_thrown rfl rfl (by decide +kernel) ⟨(Nat.le_of_ble_eq_true rfl), (Nat.le_of_ble_eq_true rfl)⟩) ⟨ep_blind, va_recv (q0 := 0) (ci := 9) hK hMw rfl rfl, ep_pre hKn hMw⟩ rfl rfl hl.1 rfl (lv_room (Nat.le_of_ble_eq_true rfl)) d_Lw_law_434 ⟨by show cells + 1 + 0 ≤ 601024; omega, by show slots + 6 + 0 ≤ 7293034; omega⟩) ?_
  refine W.eq (g2 := F0 m 437 ls [.int (M_code M1)]) rfl ?_
  rw [hcode]
  refine lv_iload hx hb d_Lw_law_437 (lv_at hl 0 rfl) ?_
  refine lv_icmp_eq (tgt := 444) hx hb d_Lw_law_439 (by decide) (fun hc => ?_) (fun hc => absurd rfl hc)
  refine lv_goto (tgt := 1347) hx hb d_Lw_law_444 (by decide) ?_
  exact kk H locs ls C1 M1 fo1 (lv_sub hl [1, 2, 3, 4, 5] rfl) ⟨hPC, hMw, hOw⟩ hS hIv

set_option maxHeartbeats 4000000 in
set_option maxRecDepth 100000 in
theorem lc_front {p : Program} {l : Launch} {e : Env} {s : State} {m : MethodId} {below : List Frame} {meth : Method} {c : Code} {b L : Nat} {xs : Nat → Int32} {D : va_G} {cI cJ cZ cO : ClassId} {o : Nat} {Iv : (Nat → CoT) → MT → Prop} {H : Heap} {locs : List Loc} {cells slots : Nat} {Q : State → Prop} {C : Nat → CoT} {M : MT} {fo : Nat → Int64} {i : Nat} {ls : Array Slot} (hx : p.tables.exec = Jvm.exec) (hb : c.code = code) (hml : c.maxLocals = 8) (hown : s.vm.findClass R_Lw = some m.cls) (hg : ∀ w ∈ gt, w.before #[Value.ref b] s = true) (hKn : Kn D cI cJ cZ cO s) (hNx : Nx s) (hZ : Zs (fun q => s.heap.size ≤ q) s s.heap) (hX : va_X b L xs s s.heap) (hbl : b < s.heap.size) (ho : o = s.heap.size) (hL : L ≤ 3072) (hi : 6 * i + 6 ≤ L)
    (hl : lv_has ls 8 [(4, .int (nI (6 * i))), (0, .ref b), (1, .ref o), (2, .ref (o + 74)), (3, .ref (o + 89))]) (hLI : LI D cI cJ cZ cO o C M fo H) (hS : va_S (fun q => s.heap.size ≤ q) s.heap H locs) (hc9 : cells + 1 ≤ 601024) (hs9 : slots + 6 ≤ 7293034)
    (hop : OP_front l D cI cJ cZ cO o Iv M H (xs (6 * i + 1)) (xs (6 * i + 2)))
    (kk : ∀ (H1 : Heap) (locs1 : List Loc) (ls1 : Array Slot) (C1 : Nat → CoT) (M1 : MT) (fo1 : Nat → Int64), lv_has ls1 8 [(4, .int (nI (6 * i))), (0, .ref b), (1, .ref o), (2, .ref (o + 74)), (3, .ref (o + 89))] → LI D cI cJ cZ cO o C1 M1 fo1 H1 → va_S (fun q => s.heap.size ≤ q) s.heap H1 locs1 → Iv C1 M1 → W p l e room_1 s m #[Value.ref b] below meth c H1 locs1 (cells + 1) (slots + 6) Q (F0 m 1347 ls1 [])) : W p l e room_1 s m #[Value.ref b] below meth c H locs cells slots Q (F0 m 447 ls []) := by
  obtain ⟨kap, r, r1, C1, M1, hkap, hCS, hMS, hcode, hans, hIv⟩ := hop
  obtain ⟨Pic, hPic, hpE, hM⟩ := hCS
  obtain ⟨hPC, hMw, hOw⟩ := hLI
  have hK := hKn.1
  refine lv_aload_n hx hb d_Lw_law_447 rfl (lv_at hl 2 rfl) ?_
  refine lv_aload_n hx hb d_Lw_law_448 rfl (lv_at hl 1 rfl) ?_
  refine lv_iload hx hb d_Lw_law_449 (lv_at hl 0 rfl) ?_
  refine lv_iconst (v := 1) hx hb d_Lw_law_451 (by decide) ?_
  refine lv_iadd hx hb d_Lw_law_452 ?_
  refine lv_topi (fun z9 e_z9 => ?_)
  obtain rfl : z9 = nI (6 * i + 1) := by rw [e_z9]; exact (nI_add (6 * i) 1)
  refine ep_sld hx hb hX hbl (show ¬ s.heap.size ≤ b by omega) hS (i := (6 * i + 1)) (by omega) (by omega) d_Lw_law_453 ?_
  refine lv_aload_n hx hb d_Lw_law_454 rfl (lv_at hl 1 rfl) ?_
  refine lv_iload hx hb d_Lw_law_455 (lv_at hl 0 rfl) ?_
  refine lv_iconst (v := 2) hx hb d_Lw_law_457 (by decide) ?_
  refine lv_iadd hx hb d_Lw_law_458 ?_
  refine lv_topi (fun z9 e_z9 => ?_)
  obtain rfl : z9 = nI (6 * i + 2) := by rw [e_z9]; exact (nI_add (6 * i) 2)
  refine ep_sld hx hb hX hbl (show ¬ s.heap.size ≤ b by omega) hS (i := (6 * i + 2)) (by omega) (by omega) d_Lw_law_459 ?_
  refine lv_aload_n hx hb d_Lw_law_460 rfl (lv_at hl 4 rfl) ?_
  refine ep_callC (ep_toC (vx_runSW (As := [.ref o, .int (xs (6 * i + 1)), .int (xs (6 * i + 2)), .ref (o + 89)]) (rest := []) ⟨hx, hb, hml, hown, hg⟩ (lw_front l D cI cJ cZ cO o (o + 89) fo (xs (6 * i + 1)) (xs (6 * i + 2)) r kap (blk o 74) Pic (PC D cI cJ cZ cO o C1) hpE (by simp only [blk]; omega) (fun H9 H8 h9 hP9 => hP9.kept (A := fun q => q = o + 89) h9 (fun z hz => Or.inr (by omega))) hkap hM) (ep_cwX (hh := [(0, 10, 13, 13), (0, 10, 17, 15), (0, 10, 21, 35)]) 4 hg tw_564 tw_565 tw_0 tk_Lw_front rfl rfl (by decide +kernel) ⟨(Nat.le_of_ble_eq_true rfl), (Nat.le_of_ble_eq_true rfl)⟩) ⟨ep_blindL, ep_preL hKn (Zs.kept hZ hS (fun q h9 => by show s.heap.size ≤ q; rcases h9 with h9 | h9; (simp only [blk] at h9; omega); omega)) hNx ⟨hPic, hOw⟩⟩ rfl rfl hl.1 rfl (lv_room (Nat.le_of_ble_eq_true rfl)) d_Lw_law_461 ⟨hc9, hs9⟩)) hS (fun q h9 => by show s.heap.size ≤ q; rcases h9 with h9 | h9; (simp only [blk] at h9; omega); omega) (fun H locs hsz9 hk1 hP1 hS => ?_)
  refine W.eq (g2 := F0 m 464 ls [.int (nI kap)]) rfl ?_
  have hMw := wo_kc hMw hk1 (off_in (A := (fun q => blk o 74 q ∨ q = o + 89)) (rng_of wMo_in) (by intro q h1 h2 h3; rcases h3 with h3 | h3; (simp only [blk] at h3; omega); omega))
  obtain ⟨hPC, fo1, hOw, hfo⟩ := hP1
  clear hsz9 hk1
  refine lv_istore (lv' := [(5, .int (nI kap)), (4, .int (nI (6 * i))), (0, .ref b), (1, .ref o), (2, .ref (o + 74)), (3, .ref (o + 89))]) hx hb d_Lw_law_464 hl (by decide) rfl (fun ls hl => ?_)
  refine lv_aload_n hx hb d_Lw_law_466 rfl (lv_at hl 4 rfl) ?_
  refine lv_aload_n hx hb d_Lw_law_467 rfl (lv_at hl 2 rfl) ?_
  refine lv_iload hx hb d_Lw_law_468 (lv_at hl 1 rfl) ?_
  refine lv_iconst (v := 1) hx hb d_Lw_law_470 (by decide) ?_
  refine lv_iadd hx hb d_Lw_law_471 ?_
  refine lv_topi (fun z9 e_z9 => ?_)
  obtain rfl : z9 = nI (6 * i + 1) := by rw [e_z9]; exact (nI_add (6 * i) 1)
  refine ep_sld hx hb hX hbl (show ¬ s.heap.size ≤ b by omega) hS (i := (6 * i + 1)) (by omega) (by omega) d_Lw_law_472 ?_
  refine lv_aload_n hx hb d_Lw_law_473 rfl (lv_at hl 2 rfl) ?_
  refine lv_iload hx hb d_Lw_law_474 (lv_at hl 1 rfl) ?_
  refine lv_iconst (v := 2) hx hb d_Lw_law_476 (by decide) ?_
  refine lv_iadd hx hb d_Lw_law_477 ?_
  refine lv_topi (fun z9 e_z9 => ?_)
  obtain rfl : z9 = nI (6 * i + 2) := by rw [e_z9]; exact (nI_add (6 * i) 2)
  refine ep_sld hx hb hX hbl (show ¬ s.heap.size ≤ b by omega) hS (i := (6 * i + 2)) (by omega) (by omega) d_Lw_law_478 ?_
  refine ep_callH (W.runV (As := [.int (xs (6 * i + 1)), .int (xs (6 * i + 2))]) (rest := []) ⟨hx, hb, hml, hown, hg⟩ hMS (ep_cwV 2 hg tw_824 tw_825 tw_826 tw_12 tk_Md_front rfl rfl (by decide +kernel) ⟨(Nat.le_of_ble_eq_true rfl), (Nat.le_of_ble_eq_true rfl)⟩) ⟨ep_blind, va_recv (q0 := 0) (ci := 9) hK hMw rfl rfl, ep_pre hKn hMw⟩ rfl rfl hl.1 rfl (lv_room (Nat.le_of_ble_eq_true rfl)) d_Lw_law_479 ⟨by show cells + 1 + 0 ≤ 601024; omega, by show slots + 6 + 0 ≤ 7293034; omega⟩) hS (fun q h9 => by show s.heap.size ≤ q; simp only [blk] at h9; omega) (fun H locs hsz9 hk1 hMw hS => ?_)
  refine W.eq (g2 := F0 m 482 ls [.int r1]) rfl ?_
  have hPC := hPC.kept hk1 (fun z h9 => by simp only [blk] at h9; omega)
  have hOw := wo_kc hOw hk1 (off_in (rng_of wOut_in) (by intro q h1 h2 h3; simp only [blk] at h3; omega))
  clear hsz9 hk1
  refine lv_istore (lv' := [(6, .int r1), (5, .int (nI kap)), (4, .int (nI (6 * i))), (0, .ref b), (1, .ref o), (2, .ref (o + 74)), (3, .ref (o + 89))]) hx hb d_Lw_law_482 hl (by decide) rfl (fun ls hl => ?_)
  refine lv_aload_n hx hb d_Lw_law_484 rfl (lv_at hl 5 rfl) ?_
  refine ep_callP (W.runV (As := []) (rest := []) ⟨hx, hb, hml, hown, hg⟩ (m_Mo_thrown l D cI cJ cZ cO (o + 74) (M1.1) (M1.2.1) (M1.2.2.1) (M1.2.2.2.1) (M1.2.2.2.2.1) (M1.2.2.2.2.2.1) (M1.2.2.2.2.2.2.1) (M1.2.2.2.2.2.2.2.1) (M1.2.2.2.2.2.2.2.2.1) (M1.2.2.2.2.2.2.2.2.2.1) (M1.2.2.2.2.2.2.2.2.2.2.1) (M1.2.2.2.2.2.2.2.2.2.2.2.1) (M1.2.2.2.2.2.2.2.2.2.2.2.2.1) (M1.2.2.2.2.2.2.2.2.2.2.2.2.2.1) (M1.2.2.2.2.2.2.2.2.2.2.2.2.2.2.1) (M1.2.2.2.2.2.2.2.2.2.2.2.2.2.2.2.1) (M1.2.2.2.2.2.2.2.2.2.2.2.2.2.2.2.2) _ rfl) (ep_cwV 0 hg tw_758 tw_759 tw_760 tw_12 tk_Md_thrown rfl rfl (by decide +kernel) ⟨(Nat.le_of_ble_eq_true rfl), (Nat.le_of_ble_eq_true rfl)⟩) ⟨ep_blind, va_recv (q0 := 0) (ci := 9) hK hMw rfl rfl, ep_pre hKn hMw⟩ rfl rfl hl.1 rfl (lv_room (Nat.le_of_ble_eq_true rfl)) d_Lw_law_485 ⟨by show cells + 1 + 0 ≤ 601024; omega, by show slots + 6 + 0 ≤ 7293034; omega⟩) ?_
  refine W.eq (g2 := F0 m 488 ls [.int (M_code M1)]) rfl ?_
  rw [hcode]
  refine lv_iload hx hb d_Lw_law_488 (lv_at hl 1 rfl) ?_
  refine lv_icmp_eq (tgt := 495) hx hb d_Lw_law_490 (by decide) (fun hc => ?_) (fun hc => absurd rfl hc)
  refine lv_iload hx hb d_Lw_law_495 (lv_at hl 1 rfl) ?_
  refine lv_if_ne (tgt := 512) hx hb d_Lw_law_497 (by decide) (fun hc => ?_) (fun hc => ?_)
  · refine lv_goto (tgt := 1347) hx hb d_Lw_law_512 (by decide) ?_
    exact kk H locs ls C1 M1 fo1 (lv_sub hl [2, 3, 4, 5, 6] rfl) ⟨hPC, hMw, hOw⟩ hS hIv
  · have hk0 : kap = 0 := by rcases (show kap = 0 ∨ kap = 1 ∨ kap = 2 ∨ kap = 3 by omega) with h9 | h9 | h9 | h9; exact h9; all_goals (rw [h9] at hc; exact absurd hc (by decide))
    have hv := hfo hk0
    have hrr := hans hk0
    refine lv_aload_n hx hb d_Lw_law_500 rfl (lv_at hl 6 rfl) ?_
    refine lv_iconst (v := 0) hx hb d_Lw_law_501 (by decide) ?_
    refine lv_topi (fun z8 e_z8 => ?_)
    obtain rfl : z8 = nI 0 := by rw [e_z8]; exact nI_0.symm
    refine ep_lald hx hb hK hOw 0 1 rfl rfl (i := 0) (by decide) (by decide) d_Lw_law_502 ?_
    rw [hv, hrr]
    refine lv_iload hx hb d_Lw_law_503 (lv_at hl 0 rfl) ?_
    refine lv_i2l hx hb d_Lw_law_505 rfl ?_
    refine W.lcmp hx hb d_Lw_law_506 ?_
    refine lv_if_eq (tgt := 512) hx hb d_Lw_law_507 (by decide) (fun hc9 => ?_) (fun hc9 => absurd ((lg_cmp_eq _ _).mpr rfl) hc9)
    refine lv_goto (tgt := 1347) hx hb d_Lw_law_512 (by decide) ?_
    exact kk H locs ls C1 M1 fo1 (lv_sub hl [2, 3, 4, 5, 6] rfl) ⟨hPC, hMw, hOw⟩ hS hIv

set_option maxHeartbeats 4000000 in
set_option maxRecDepth 100000 in
theorem lc_size {p : Program} {l : Launch} {e : Env} {s : State} {m : MethodId} {below : List Frame} {meth : Method} {c : Code} {b L : Nat} {xs : Nat → Int32} {D : va_G} {cI cJ cZ cO : ClassId} {o : Nat} {Iv : (Nat → CoT) → MT → Prop} {H : Heap} {locs : List Loc} {cells slots : Nat} {Q : State → Prop} {C : Nat → CoT} {M : MT} {fo : Nat → Int64} {i : Nat} {ls : Array Slot} (hx : p.tables.exec = Jvm.exec) (hb : c.code = code) (hml : c.maxLocals = 8) (hown : s.vm.findClass R_Lw = some m.cls) (hg : ∀ w ∈ gt, w.before #[Value.ref b] s = true) (hKn : Kn D cI cJ cZ cO s) (hNx : Nx s) (hZ : Zs (fun q => s.heap.size ≤ q) s s.heap) (hX : va_X b L xs s s.heap) (hbl : b < s.heap.size) (ho : o = s.heap.size) (hL : L ≤ 3072) (hi : 6 * i + 6 ≤ L)
    (hl : lv_has ls 8 [(4, .int (nI (6 * i))), (0, .ref b), (1, .ref o), (2, .ref (o + 74)), (3, .ref (o + 89))]) (hLI : LI D cI cJ cZ cO o C M fo H) (hS : va_S (fun q => s.heap.size ≤ q) s.heap H locs) (hc9 : cells + 1 ≤ 601024) (hs9 : slots + 6 ≤ 7293034)
    (hop : OP_size l D cI cJ cZ cO o Iv M H (xs (6 * i + 1)) (xs (6 * i + 2)))
    (kk : ∀ (H1 : Heap) (locs1 : List Loc) (ls1 : Array Slot) (C1 : Nat → CoT) (M1 : MT) (fo1 : Nat → Int64), lv_has ls1 8 [(4, .int (nI (6 * i))), (0, .ref b), (1, .ref o), (2, .ref (o + 74)), (3, .ref (o + 89))] → LI D cI cJ cZ cO o C1 M1 fo1 H1 → va_S (fun q => s.heap.size ≤ q) s.heap H1 locs1 → Iv C1 M1 → W p l e room_1 s m #[Value.ref b] below meth c H1 locs1 (cells + 1) (slots + 6) Q (F0 m 1347 ls1 [])) : W p l e room_1 s m #[Value.ref b] below meth c H locs cells slots Q (F0 m 515 ls []) := by
  obtain ⟨kap, r, r1, C1, M1, hkap, hCS, hMS, hcode, hans, hIv⟩ := hop
  obtain ⟨Pic, hPic, hpE, hM⟩ := hCS
  obtain ⟨hPC, hMw, hOw⟩ := hLI
  have hK := hKn.1
  refine lv_aload_n hx hb d_Lw_law_515 rfl (lv_at hl 2 rfl) ?_
  refine lv_aload_n hx hb d_Lw_law_516 rfl (lv_at hl 1 rfl) ?_
  refine lv_iload hx hb d_Lw_law_517 (lv_at hl 0 rfl) ?_
  refine lv_iconst (v := 1) hx hb d_Lw_law_519 (by decide) ?_
  refine lv_iadd hx hb d_Lw_law_520 ?_
  refine lv_topi (fun z9 e_z9 => ?_)
  obtain rfl : z9 = nI (6 * i + 1) := by rw [e_z9]; exact (nI_add (6 * i) 1)
  refine ep_sld hx hb hX hbl (show ¬ s.heap.size ≤ b by omega) hS (i := (6 * i + 1)) (by omega) (by omega) d_Lw_law_521 ?_
  refine lv_aload_n hx hb d_Lw_law_522 rfl (lv_at hl 1 rfl) ?_
  refine lv_iload hx hb d_Lw_law_523 (lv_at hl 0 rfl) ?_
  refine lv_iconst (v := 2) hx hb d_Lw_law_525 (by decide) ?_
  refine lv_iadd hx hb d_Lw_law_526 ?_
  refine lv_topi (fun z9 e_z9 => ?_)
  obtain rfl : z9 = nI (6 * i + 2) := by rw [e_z9]; exact (nI_add (6 * i) 2)
  refine ep_sld hx hb hX hbl (show ¬ s.heap.size ≤ b by omega) hS (i := (6 * i + 2)) (by omega) (by omega) d_Lw_law_527 ?_
  refine lv_aload_n hx hb d_Lw_law_528 rfl (lv_at hl 4 rfl) ?_
  refine ep_callC (ep_toC (vx_runSW (As := [.ref o, .int (xs (6 * i + 1)), .int (xs (6 * i + 2)), .ref (o + 89)]) (rest := []) ⟨hx, hb, hml, hown, hg⟩ (lw_size l D cI cJ cZ cO o (o + 89) fo (xs (6 * i + 1)) (xs (6 * i + 2)) r kap (blk o 74) Pic (PC D cI cJ cZ cO o C1) hpE (by simp only [blk]; omega) (fun H9 H8 h9 hP9 => hP9.kept (A := fun q => q = o + 89) h9 (fun z hz => Or.inr (by omega))) hkap hM) (ep_cwX (hh := [(0, 10, 13, 13), (0, 10, 17, 15)]) 4 hg tw_580 tw_581 tw_0 tk_Lw_size rfl rfl (by decide +kernel) ⟨(Nat.le_of_ble_eq_true rfl), (Nat.le_of_ble_eq_true rfl)⟩) ⟨ep_blindL, ep_preL hKn (Zs.kept hZ hS (fun q h9 => by show s.heap.size ≤ q; rcases h9 with h9 | h9; (simp only [blk] at h9; omega); omega)) hNx ⟨hPic, hOw⟩⟩ rfl rfl hl.1 rfl (lv_room (Nat.le_of_ble_eq_true rfl)) d_Lw_law_529 ⟨hc9, hs9⟩)) hS (fun q h9 => by show s.heap.size ≤ q; rcases h9 with h9 | h9; (simp only [blk] at h9; omega); omega) (fun H locs hsz9 hk1 hP1 hS => ?_)
  refine W.eq (g2 := F0 m 532 ls [.int (nI kap)]) rfl ?_
  have hMw := wo_kc hMw hk1 (off_in (A := (fun q => blk o 74 q ∨ q = o + 89)) (rng_of wMo_in) (by intro q h1 h2 h3; rcases h3 with h3 | h3; (simp only [blk] at h3; omega); omega))
  obtain ⟨hPC, fo1, hOw, hfo⟩ := hP1
  clear hsz9 hk1
  refine lv_istore (lv' := [(5, .int (nI kap)), (4, .int (nI (6 * i))), (0, .ref b), (1, .ref o), (2, .ref (o + 74)), (3, .ref (o + 89))]) hx hb d_Lw_law_532 hl (by decide) rfl (fun ls hl => ?_)
  refine lv_aload_n hx hb d_Lw_law_534 rfl (lv_at hl 4 rfl) ?_
  refine lv_aload_n hx hb d_Lw_law_535 rfl (lv_at hl 2 rfl) ?_
  refine lv_iload hx hb d_Lw_law_536 (lv_at hl 1 rfl) ?_
  refine lv_iconst (v := 1) hx hb d_Lw_law_538 (by decide) ?_
  refine lv_iadd hx hb d_Lw_law_539 ?_
  refine lv_topi (fun z9 e_z9 => ?_)
  obtain rfl : z9 = nI (6 * i + 1) := by rw [e_z9]; exact (nI_add (6 * i) 1)
  refine ep_sld hx hb hX hbl (show ¬ s.heap.size ≤ b by omega) hS (i := (6 * i + 1)) (by omega) (by omega) d_Lw_law_540 ?_
  refine lv_aload_n hx hb d_Lw_law_541 rfl (lv_at hl 2 rfl) ?_
  refine lv_iload hx hb d_Lw_law_542 (lv_at hl 1 rfl) ?_
  refine lv_iconst (v := 2) hx hb d_Lw_law_544 (by decide) ?_
  refine lv_iadd hx hb d_Lw_law_545 ?_
  refine lv_topi (fun z9 e_z9 => ?_)
  obtain rfl : z9 = nI (6 * i + 2) := by rw [e_z9]; exact (nI_add (6 * i) 2)
  refine ep_sld hx hb hX hbl (show ¬ s.heap.size ≤ b by omega) hS (i := (6 * i + 2)) (by omega) (by omega) d_Lw_law_546 ?_
  refine ep_callH (W.runV (As := [.int (xs (6 * i + 1)), .int (xs (6 * i + 2))]) (rest := []) ⟨hx, hb, hml, hown, hg⟩ hMS (ep_cwV 2 hg tw_860 tw_861 tw_862 tw_12 tk_Md_size rfl rfl (by decide +kernel) ⟨(Nat.le_of_ble_eq_true rfl), (Nat.le_of_ble_eq_true rfl)⟩) ⟨ep_blind, va_recv (q0 := 0) (ci := 9) hK hMw rfl rfl, ep_pre hKn hMw⟩ rfl rfl hl.1 rfl (lv_room (Nat.le_of_ble_eq_true rfl)) d_Lw_law_547 ⟨by show cells + 1 + 0 ≤ 601024; omega, by show slots + 6 + 0 ≤ 7293034; omega⟩) hS (fun q h9 => by show s.heap.size ≤ q; simp only [blk] at h9; omega) (fun H locs hsz9 hk1 hMw hS => ?_)
  refine W.eq (g2 := F0 m 550 ls [.int r1]) rfl ?_
  have hPC := hPC.kept hk1 (fun z h9 => by simp only [blk] at h9; omega)
  have hOw := wo_kc hOw hk1 (off_in (rng_of wOut_in) (by intro q h1 h2 h3; simp only [blk] at h3; omega))
  clear hsz9 hk1
  refine lv_istore (lv' := [(6, .int r1), (5, .int (nI kap)), (4, .int (nI (6 * i))), (0, .ref b), (1, .ref o), (2, .ref (o + 74)), (3, .ref (o + 89))]) hx hb d_Lw_law_550 hl (by decide) rfl (fun ls hl => ?_)
  refine lv_aload_n hx hb d_Lw_law_552 rfl (lv_at hl 5 rfl) ?_
  refine ep_callP (W.runV (As := []) (rest := []) ⟨hx, hb, hml, hown, hg⟩ (m_Mo_thrown l D cI cJ cZ cO (o + 74) (M1.1) (M1.2.1) (M1.2.2.1) (M1.2.2.2.1) (M1.2.2.2.2.1) (M1.2.2.2.2.2.1) (M1.2.2.2.2.2.2.1) (M1.2.2.2.2.2.2.2.1) (M1.2.2.2.2.2.2.2.2.1) (M1.2.2.2.2.2.2.2.2.2.1) (M1.2.2.2.2.2.2.2.2.2.2.1) (M1.2.2.2.2.2.2.2.2.2.2.2.1) (M1.2.2.2.2.2.2.2.2.2.2.2.2.1) (M1.2.2.2.2.2.2.2.2.2.2.2.2.2.1) (M1.2.2.2.2.2.2.2.2.2.2.2.2.2.2.1) (M1.2.2.2.2.2.2.2.2.2.2.2.2.2.2.2.1) (M1.2.2.2.2.2.2.2.2.2.2.2.2.2.2.2.2) _ rfl) (ep_cwV 0 hg tw_758 tw_759 tw_760 tw_12 tk_Md_thrown rfl rfl (by decide +kernel) ⟨(Nat.le_of_ble_eq_true rfl), (Nat.le_of_ble_eq_true rfl)⟩) ⟨ep_blind, va_recv (q0 := 0) (ci := 9) hK hMw rfl rfl, ep_pre hKn hMw⟩ rfl rfl hl.1 rfl (lv_room (Nat.le_of_ble_eq_true rfl)) d_Lw_law_553 ⟨by show cells + 1 + 0 ≤ 601024; omega, by show slots + 6 + 0 ≤ 7293034; omega⟩) ?_
  refine W.eq (g2 := F0 m 556 ls [.int (M_code M1)]) rfl ?_
  rw [hcode]
  refine lv_iload hx hb d_Lw_law_556 (lv_at hl 1 rfl) ?_
  refine lv_icmp_eq (tgt := 563) hx hb d_Lw_law_558 (by decide) (fun hc => ?_) (fun hc => absurd rfl hc)
  refine lv_iload hx hb d_Lw_law_563 (lv_at hl 1 rfl) ?_
  refine lv_if_ne (tgt := 580) hx hb d_Lw_law_565 (by decide) (fun hc => ?_) (fun hc => ?_)
  · refine lv_goto (tgt := 1347) hx hb d_Lw_law_580 (by decide) ?_
    exact kk H locs ls C1 M1 fo1 (lv_sub hl [2, 3, 4, 5, 6] rfl) ⟨hPC, hMw, hOw⟩ hS hIv
  · have hk0 : kap = 0 := by rcases (show kap = 0 ∨ kap = 1 ∨ kap = 2 ∨ kap = 3 by omega) with h9 | h9 | h9 | h9; exact h9; all_goals (rw [h9] at hc; exact absurd hc (by decide))
    have hv := hfo hk0
    have hrr := hans hk0
    refine lv_aload_n hx hb d_Lw_law_568 rfl (lv_at hl 6 rfl) ?_
    refine lv_iconst (v := 0) hx hb d_Lw_law_569 (by decide) ?_
    refine lv_topi (fun z8 e_z8 => ?_)
    obtain rfl : z8 = nI 0 := by rw [e_z8]; exact nI_0.symm
    refine ep_lald hx hb hK hOw 0 1 rfl rfl (i := 0) (by decide) (by decide) d_Lw_law_570 ?_
    rw [hv, hrr]
    refine lv_iload hx hb d_Lw_law_571 (lv_at hl 0 rfl) ?_
    refine lv_i2l hx hb d_Lw_law_573 rfl ?_
    refine W.lcmp hx hb d_Lw_law_574 ?_
    refine lv_if_eq (tgt := 580) hx hb d_Lw_law_575 (by decide) (fun hc9 => ?_) (fun hc9 => absurd ((lg_cmp_eq _ _).mpr rfl) hc9)
    refine lv_goto (tgt := 1347) hx hb d_Lw_law_580 (by decide) ?_
    exact kk H locs ls C1 M1 fo1 (lv_sub hl [2, 3, 4, 5, 6] rfl) ⟨hPC, hMw, hOw⟩ hS hIv

set_option maxHeartbeats 4000000 in
set_option maxRecDepth 100000 in
theorem lc_at {p : Program} {l : Launch} {e : Env} {s : State} {m : MethodId} {below : List Frame} {meth : Method} {c : Code} {b L : Nat} {xs : Nat → Int32} {D : va_G} {cI cJ cZ cO : ClassId} {o : Nat} {Iv : (Nat → CoT) → MT → Prop} {H : Heap} {locs : List Loc} {cells slots : Nat} {Q : State → Prop} {C : Nat → CoT} {M : MT} {fo : Nat → Int64} {i : Nat} {ls : Array Slot} (hx : p.tables.exec = Jvm.exec) (hb : c.code = code) (hml : c.maxLocals = 8) (hown : s.vm.findClass R_Lw = some m.cls) (hg : ∀ w ∈ gt, w.before #[Value.ref b] s = true) (hKn : Kn D cI cJ cZ cO s) (hNx : Nx s) (hZ : Zs (fun q => s.heap.size ≤ q) s s.heap) (hX : va_X b L xs s s.heap) (hbl : b < s.heap.size) (ho : o = s.heap.size) (hL : L ≤ 3072) (hi : 6 * i + 6 ≤ L)
    (hl : lv_has ls 8 [(4, .int (nI (6 * i))), (0, .ref b), (1, .ref o), (2, .ref (o + 74)), (3, .ref (o + 89))]) (hLI : LI D cI cJ cZ cO o C M fo H) (hS : va_S (fun q => s.heap.size ≤ q) s.heap H locs) (hc9 : cells + 1 ≤ 601024) (hs9 : slots + 6 ≤ 7293034)
    (hop : OP_at l D cI cJ cZ cO o Iv M H (xs (6 * i + 1)) (xs (6 * i + 2)) (xs (6 * i + 3)))
    (kk : ∀ (H1 : Heap) (locs1 : List Loc) (ls1 : Array Slot) (C1 : Nat → CoT) (M1 : MT) (fo1 : Nat → Int64), lv_has ls1 8 [(4, .int (nI (6 * i))), (0, .ref b), (1, .ref o), (2, .ref (o + 74)), (3, .ref (o + 89))] → LI D cI cJ cZ cO o C1 M1 fo1 H1 → va_S (fun q => s.heap.size ≤ q) s.heap H1 locs1 → Iv C1 M1 → W p l e room_1 s m #[Value.ref b] below meth c H1 locs1 (cells + 1) (slots + 6) Q (F0 m 1347 ls1 [])) : W p l e room_1 s m #[Value.ref b] below meth c H locs cells slots Q (F0 m 583 ls []) := by
  obtain ⟨kap, r, r1, C1, M1, hkap, hCS, hMS, hcode, hans, hIv⟩ := hop
  obtain ⟨Pic, hPic, hpE, hM⟩ := hCS
  obtain ⟨hPC, hMw, hOw⟩ := hLI
  have hK := hKn.1
  refine lv_aload_n hx hb d_Lw_law_583 rfl (lv_at hl 2 rfl) ?_
  refine lv_aload_n hx hb d_Lw_law_584 rfl (lv_at hl 1 rfl) ?_
  refine lv_iload hx hb d_Lw_law_585 (lv_at hl 0 rfl) ?_
  refine lv_iconst (v := 1) hx hb d_Lw_law_587 (by decide) ?_
  refine lv_iadd hx hb d_Lw_law_588 ?_
  refine lv_topi (fun z9 e_z9 => ?_)
  obtain rfl : z9 = nI (6 * i + 1) := by rw [e_z9]; exact (nI_add (6 * i) 1)
  refine ep_sld hx hb hX hbl (show ¬ s.heap.size ≤ b by omega) hS (i := (6 * i + 1)) (by omega) (by omega) d_Lw_law_589 ?_
  refine lv_aload_n hx hb d_Lw_law_590 rfl (lv_at hl 1 rfl) ?_
  refine lv_iload hx hb d_Lw_law_591 (lv_at hl 0 rfl) ?_
  refine lv_iconst (v := 2) hx hb d_Lw_law_593 (by decide) ?_
  refine lv_iadd hx hb d_Lw_law_594 ?_
  refine lv_topi (fun z9 e_z9 => ?_)
  obtain rfl : z9 = nI (6 * i + 2) := by rw [e_z9]; exact (nI_add (6 * i) 2)
  refine ep_sld hx hb hX hbl (show ¬ s.heap.size ≤ b by omega) hS (i := (6 * i + 2)) (by omega) (by omega) d_Lw_law_595 ?_
  refine lv_aload_n hx hb d_Lw_law_596 rfl (lv_at hl 1 rfl) ?_
  refine lv_iload hx hb d_Lw_law_597 (lv_at hl 0 rfl) ?_
  refine lv_iconst (v := 3) hx hb d_Lw_law_599 (by decide) ?_
  refine lv_iadd hx hb d_Lw_law_600 ?_
  refine lv_topi (fun z9 e_z9 => ?_)
  obtain rfl : z9 = nI (6 * i + 3) := by rw [e_z9]; exact (nI_add (6 * i) 3)
  refine ep_sld hx hb hX hbl (show ¬ s.heap.size ≤ b by omega) hS (i := (6 * i + 3)) (by omega) (by omega) d_Lw_law_601 ?_
  refine lv_aload_n hx hb d_Lw_law_602 rfl (lv_at hl 4 rfl) ?_
  refine ep_callC (ep_toC (vx_runSW (As := [.ref o, .int (xs (6 * i + 1)), .int (xs (6 * i + 2)), .int (xs (6 * i + 3)), .ref (o + 89)]) (rest := []) ⟨hx, hb, hml, hown, hg⟩ (lw_at l D cI cJ cZ cO o (o + 89) fo (xs (6 * i + 1)) (xs (6 * i + 2)) (xs (6 * i + 3)) r kap (blk o 74) Pic (PC D cI cJ cZ cO o C1) hpE (by simp only [blk]; omega) (fun H9 H8 h9 hP9 => hP9.kept (A := fun q => q = o + 89) h9 (fun z hz => Or.inr (by omega))) hkap hM) (ep_cwX (hh := [(0, 12, 15, 13), (0, 12, 19, 15), (0, 12, 23, 35)]) 5 hg tw_587 tw_588 tw_0 tk_Lw_at rfl rfl (by decide +kernel) ⟨(Nat.le_of_ble_eq_true rfl), (Nat.le_of_ble_eq_true rfl)⟩) ⟨ep_blindL, ep_preL hKn (Zs.kept hZ hS (fun q h9 => by show s.heap.size ≤ q; rcases h9 with h9 | h9; (simp only [blk] at h9; omega); omega)) hNx ⟨hPic, hOw⟩⟩ rfl rfl hl.1 rfl (lv_room (Nat.le_of_ble_eq_true rfl)) d_Lw_law_603 ⟨hc9, hs9⟩)) hS (fun q h9 => by show s.heap.size ≤ q; rcases h9 with h9 | h9; (simp only [blk] at h9; omega); omega) (fun H locs hsz9 hk1 hP1 hS => ?_)
  refine W.eq (g2 := F0 m 606 ls [.int (nI kap)]) rfl ?_
  have hMw := wo_kc hMw hk1 (off_in (A := (fun q => blk o 74 q ∨ q = o + 89)) (rng_of wMo_in) (by intro q h1 h2 h3; rcases h3 with h3 | h3; (simp only [blk] at h3; omega); omega))
  obtain ⟨hPC, fo1, hOw, hfo⟩ := hP1
  clear hsz9 hk1
  refine lv_istore (lv' := [(5, .int (nI kap)), (4, .int (nI (6 * i))), (0, .ref b), (1, .ref o), (2, .ref (o + 74)), (3, .ref (o + 89))]) hx hb d_Lw_law_606 hl (by decide) rfl (fun ls hl => ?_)
  refine lv_aload_n hx hb d_Lw_law_608 rfl (lv_at hl 4 rfl) ?_
  refine lv_aload_n hx hb d_Lw_law_609 rfl (lv_at hl 2 rfl) ?_
  refine lv_iload hx hb d_Lw_law_610 (lv_at hl 1 rfl) ?_
  refine lv_iconst (v := 1) hx hb d_Lw_law_612 (by decide) ?_
  refine lv_iadd hx hb d_Lw_law_613 ?_
  refine lv_topi (fun z9 e_z9 => ?_)
  obtain rfl : z9 = nI (6 * i + 1) := by rw [e_z9]; exact (nI_add (6 * i) 1)
  refine ep_sld hx hb hX hbl (show ¬ s.heap.size ≤ b by omega) hS (i := (6 * i + 1)) (by omega) (by omega) d_Lw_law_614 ?_
  refine lv_aload_n hx hb d_Lw_law_615 rfl (lv_at hl 2 rfl) ?_
  refine lv_iload hx hb d_Lw_law_616 (lv_at hl 1 rfl) ?_
  refine lv_iconst (v := 2) hx hb d_Lw_law_618 (by decide) ?_
  refine lv_iadd hx hb d_Lw_law_619 ?_
  refine lv_topi (fun z9 e_z9 => ?_)
  obtain rfl : z9 = nI (6 * i + 2) := by rw [e_z9]; exact (nI_add (6 * i) 2)
  refine ep_sld hx hb hX hbl (show ¬ s.heap.size ≤ b by omega) hS (i := (6 * i + 2)) (by omega) (by omega) d_Lw_law_620 ?_
  refine lv_aload_n hx hb d_Lw_law_621 rfl (lv_at hl 2 rfl) ?_
  refine lv_iload hx hb d_Lw_law_622 (lv_at hl 1 rfl) ?_
  refine lv_iconst (v := 3) hx hb d_Lw_law_624 (by decide) ?_
  refine lv_iadd hx hb d_Lw_law_625 ?_
  refine lv_topi (fun z9 e_z9 => ?_)
  obtain rfl : z9 = nI (6 * i + 3) := by rw [e_z9]; exact (nI_add (6 * i) 3)
  refine ep_sld hx hb hX hbl (show ¬ s.heap.size ≤ b by omega) hS (i := (6 * i + 3)) (by omega) (by omega) d_Lw_law_626 ?_
  refine ep_callH (W.runV (As := [.int (xs (6 * i + 1)), .int (xs (6 * i + 2)), .int (xs (6 * i + 3))]) (rest := []) ⟨hx, hb, hml, hown, hg⟩ hMS (ep_cwV 3 hg tw_864 tw_865 tw_866 tw_12 tk_Md_at rfl rfl (by decide +kernel) ⟨(Nat.le_of_ble_eq_true rfl), (Nat.le_of_ble_eq_true rfl)⟩) ⟨ep_blind, va_recv (q0 := 0) (ci := 9) hK hMw rfl rfl, ep_pre hKn hMw⟩ rfl rfl hl.1 rfl (lv_room (Nat.le_of_ble_eq_true rfl)) d_Lw_law_627 ⟨by show cells + 1 + 0 ≤ 601024; omega, by show slots + 6 + 0 ≤ 7293034; omega⟩) hS (fun q h9 => by show s.heap.size ≤ q; simp only [blk] at h9; omega) (fun H locs hsz9 hk1 hMw hS => ?_)
  refine W.eq (g2 := F0 m 630 ls [.int r1]) rfl ?_
  have hPC := hPC.kept hk1 (fun z h9 => by simp only [blk] at h9; omega)
  have hOw := wo_kc hOw hk1 (off_in (rng_of wOut_in) (by intro q h1 h2 h3; simp only [blk] at h3; omega))
  clear hsz9 hk1
  refine lv_istore (lv' := [(6, .int r1), (5, .int (nI kap)), (4, .int (nI (6 * i))), (0, .ref b), (1, .ref o), (2, .ref (o + 74)), (3, .ref (o + 89))]) hx hb d_Lw_law_630 hl (by decide) rfl (fun ls hl => ?_)
  refine lv_aload_n hx hb d_Lw_law_632 rfl (lv_at hl 5 rfl) ?_
  refine ep_callP (W.runV (As := []) (rest := []) ⟨hx, hb, hml, hown, hg⟩ (m_Mo_thrown l D cI cJ cZ cO (o + 74) (M1.1) (M1.2.1) (M1.2.2.1) (M1.2.2.2.1) (M1.2.2.2.2.1) (M1.2.2.2.2.2.1) (M1.2.2.2.2.2.2.1) (M1.2.2.2.2.2.2.2.1) (M1.2.2.2.2.2.2.2.2.1) (M1.2.2.2.2.2.2.2.2.2.1) (M1.2.2.2.2.2.2.2.2.2.2.1) (M1.2.2.2.2.2.2.2.2.2.2.2.1) (M1.2.2.2.2.2.2.2.2.2.2.2.2.1) (M1.2.2.2.2.2.2.2.2.2.2.2.2.2.1) (M1.2.2.2.2.2.2.2.2.2.2.2.2.2.2.1) (M1.2.2.2.2.2.2.2.2.2.2.2.2.2.2.2.1) (M1.2.2.2.2.2.2.2.2.2.2.2.2.2.2.2.2) _ rfl) (ep_cwV 0 hg tw_758 tw_759 tw_760 tw_12 tk_Md_thrown rfl rfl (by decide +kernel) ⟨(Nat.le_of_ble_eq_true rfl), (Nat.le_of_ble_eq_true rfl)⟩) ⟨ep_blind, va_recv (q0 := 0) (ci := 9) hK hMw rfl rfl, ep_pre hKn hMw⟩ rfl rfl hl.1 rfl (lv_room (Nat.le_of_ble_eq_true rfl)) d_Lw_law_633 ⟨by show cells + 1 + 0 ≤ 601024; omega, by show slots + 6 + 0 ≤ 7293034; omega⟩) ?_
  refine W.eq (g2 := F0 m 636 ls [.int (M_code M1)]) rfl ?_
  rw [hcode]
  refine lv_iload hx hb d_Lw_law_636 (lv_at hl 1 rfl) ?_
  refine lv_icmp_eq (tgt := 643) hx hb d_Lw_law_638 (by decide) (fun hc => ?_) (fun hc => absurd rfl hc)
  refine lv_iload hx hb d_Lw_law_643 (lv_at hl 1 rfl) ?_
  refine lv_if_ne (tgt := 660) hx hb d_Lw_law_645 (by decide) (fun hc => ?_) (fun hc => ?_)
  · refine lv_goto (tgt := 1347) hx hb d_Lw_law_660 (by decide) ?_
    exact kk H locs ls C1 M1 fo1 (lv_sub hl [2, 3, 4, 5, 6] rfl) ⟨hPC, hMw, hOw⟩ hS hIv
  · have hk0 : kap = 0 := by rcases (show kap = 0 ∨ kap = 1 ∨ kap = 2 ∨ kap = 3 by omega) with h9 | h9 | h9 | h9; exact h9; all_goals (rw [h9] at hc; exact absurd hc (by decide))
    have hv := hfo hk0
    have hrr := hans hk0
    refine lv_aload_n hx hb d_Lw_law_648 rfl (lv_at hl 6 rfl) ?_
    refine lv_iconst (v := 0) hx hb d_Lw_law_649 (by decide) ?_
    refine lv_topi (fun z8 e_z8 => ?_)
    obtain rfl : z8 = nI 0 := by rw [e_z8]; exact nI_0.symm
    refine ep_lald hx hb hK hOw 0 1 rfl rfl (i := 0) (by decide) (by decide) d_Lw_law_650 ?_
    rw [hv, hrr]
    refine lv_iload hx hb d_Lw_law_651 (lv_at hl 0 rfl) ?_
    refine lv_i2l hx hb d_Lw_law_653 rfl ?_
    refine W.lcmp hx hb d_Lw_law_654 ?_
    refine lv_if_eq (tgt := 660) hx hb d_Lw_law_655 (by decide) (fun hc9 => ?_) (fun hc9 => absurd ((lg_cmp_eq _ _).mpr rfl) hc9)
    refine lv_goto (tgt := 1347) hx hb d_Lw_law_660 (by decide) ?_
    exact kk H locs ls C1 M1 fo1 (lv_sub hl [2, 3, 4, 5, 6] rfl) ⟨hPC, hMw, hOw⟩ hS hIv

set_option maxHeartbeats 4000000 in
set_option maxRecDepth 100000 in
theorem lc_least {p : Program} {l : Launch} {e : Env} {s : State} {m : MethodId} {below : List Frame} {meth : Method} {c : Code} {b L : Nat} {xs : Nat → Int32} {D : va_G} {cI cJ cZ cO : ClassId} {o : Nat} {Iv : (Nat → CoT) → MT → Prop} {H : Heap} {locs : List Loc} {cells slots : Nat} {Q : State → Prop} {C : Nat → CoT} {M : MT} {fo : Nat → Int64} {i : Nat} {ls : Array Slot} (hx : p.tables.exec = Jvm.exec) (hb : c.code = code) (hml : c.maxLocals = 8) (hown : s.vm.findClass R_Lw = some m.cls) (hg : ∀ w ∈ gt, w.before #[Value.ref b] s = true) (hKn : Kn D cI cJ cZ cO s) (hNx : Nx s) (hZ : Zs (fun q => s.heap.size ≤ q) s s.heap) (hX : va_X b L xs s s.heap) (hbl : b < s.heap.size) (ho : o = s.heap.size) (hL : L ≤ 3072) (hi : 6 * i + 6 ≤ L)
    (hl : lv_has ls 8 [(4, .int (nI (6 * i))), (0, .ref b), (1, .ref o), (2, .ref (o + 74)), (3, .ref (o + 89))]) (hLI : LI D cI cJ cZ cO o C M fo H) (hS : va_S (fun q => s.heap.size ≤ q) s.heap H locs) (hc9 : cells + 1 ≤ 601024) (hs9 : slots + 6 ≤ 7293034)
    (hop : OP_least l D cI cJ cZ cO o Iv M H (xs (6 * i + 1)) (xs (6 * i + 2)) (xs (6 * i + 3)))
    (kk : ∀ (H1 : Heap) (locs1 : List Loc) (ls1 : Array Slot) (C1 : Nat → CoT) (M1 : MT) (fo1 : Nat → Int64), lv_has ls1 8 [(4, .int (nI (6 * i))), (0, .ref b), (1, .ref o), (2, .ref (o + 74)), (3, .ref (o + 89))] → LI D cI cJ cZ cO o C1 M1 fo1 H1 → va_S (fun q => s.heap.size ≤ q) s.heap H1 locs1 → Iv C1 M1 → W p l e room_1 s m #[Value.ref b] below meth c H1 locs1 (cells + 1) (slots + 6) Q (F0 m 1347 ls1 [])) : W p l e room_1 s m #[Value.ref b] below meth c H locs cells slots Q (F0 m 663 ls []) := by
  obtain ⟨kap, r, r1, C1, M1, hkap, hCS, hMS, hcode, hans, hIv⟩ := hop
  obtain ⟨Pic, hPic, hpE, hM⟩ := hCS
  obtain ⟨hPC, hMw, hOw⟩ := hLI
  have hK := hKn.1
  refine lv_aload_n hx hb d_Lw_law_663 rfl (lv_at hl 2 rfl) ?_
  refine lv_aload_n hx hb d_Lw_law_664 rfl (lv_at hl 1 rfl) ?_
  refine lv_iload hx hb d_Lw_law_665 (lv_at hl 0 rfl) ?_
  refine lv_iconst (v := 1) hx hb d_Lw_law_667 (by decide) ?_
  refine lv_iadd hx hb d_Lw_law_668 ?_
  refine lv_topi (fun z9 e_z9 => ?_)
  obtain rfl : z9 = nI (6 * i + 1) := by rw [e_z9]; exact (nI_add (6 * i) 1)
  refine ep_sld hx hb hX hbl (show ¬ s.heap.size ≤ b by omega) hS (i := (6 * i + 1)) (by omega) (by omega) d_Lw_law_669 ?_
  refine lv_aload_n hx hb d_Lw_law_670 rfl (lv_at hl 1 rfl) ?_
  refine lv_iload hx hb d_Lw_law_671 (lv_at hl 0 rfl) ?_
  refine lv_iconst (v := 2) hx hb d_Lw_law_673 (by decide) ?_
  refine lv_iadd hx hb d_Lw_law_674 ?_
  refine lv_topi (fun z9 e_z9 => ?_)
  obtain rfl : z9 = nI (6 * i + 2) := by rw [e_z9]; exact (nI_add (6 * i) 2)
  refine ep_sld hx hb hX hbl (show ¬ s.heap.size ≤ b by omega) hS (i := (6 * i + 2)) (by omega) (by omega) d_Lw_law_675 ?_
  refine lv_aload_n hx hb d_Lw_law_676 rfl (lv_at hl 1 rfl) ?_
  refine lv_iload hx hb d_Lw_law_677 (lv_at hl 0 rfl) ?_
  refine lv_iconst (v := 3) hx hb d_Lw_law_679 (by decide) ?_
  refine lv_iadd hx hb d_Lw_law_680 ?_
  refine lv_topi (fun z9 e_z9 => ?_)
  obtain rfl : z9 = nI (6 * i + 3) := by rw [e_z9]; exact (nI_add (6 * i) 3)
  refine ep_sld hx hb hX hbl (show ¬ s.heap.size ≤ b by omega) hS (i := (6 * i + 3)) (by omega) (by omega) d_Lw_law_681 ?_
  refine lv_aload_n hx hb d_Lw_law_682 rfl (lv_at hl 4 rfl) ?_
  refine ep_callC (ep_toC (vx_runSW (As := [.ref o, .int (xs (6 * i + 1)), .int (xs (6 * i + 2)), .int (xs (6 * i + 3)), .ref (o + 89)]) (rest := []) ⟨hx, hb, hml, hown, hg⟩ (lw_least l D cI cJ cZ cO o (o + 89) fo (xs (6 * i + 1)) (xs (6 * i + 2)) (xs (6 * i + 3)) r kap (blk o 74) Pic (PC D cI cJ cZ cO o C1) hpE (by simp only [blk]; omega) (fun H9 H8 h9 hP9 => hP9.kept (A := fun q => q = o + 89) h9 (fun z hz => Or.inr (by omega))) hkap hM) (ep_cwX (hh := [(0, 12, 15, 13), (0, 12, 19, 15), (0, 12, 23, 51)]) 5 hg tw_596 tw_597 tw_0 tk_Lw_least rfl rfl (by decide +kernel) ⟨(Nat.le_of_ble_eq_true rfl), (Nat.le_of_ble_eq_true rfl)⟩) ⟨ep_blindL, ep_preL hKn (Zs.kept hZ hS (fun q h9 => by show s.heap.size ≤ q; rcases h9 with h9 | h9; (simp only [blk] at h9; omega); omega)) hNx ⟨hPic, hOw⟩⟩ rfl rfl hl.1 rfl (lv_room (Nat.le_of_ble_eq_true rfl)) d_Lw_law_683 ⟨hc9, hs9⟩)) hS (fun q h9 => by show s.heap.size ≤ q; rcases h9 with h9 | h9; (simp only [blk] at h9; omega); omega) (fun H locs hsz9 hk1 hP1 hS => ?_)
  refine W.eq (g2 := F0 m 686 ls [.int (nI kap)]) rfl ?_
  have hMw := wo_kc hMw hk1 (off_in (A := (fun q => blk o 74 q ∨ q = o + 89)) (rng_of wMo_in) (by intro q h1 h2 h3; rcases h3 with h3 | h3; (simp only [blk] at h3; omega); omega))
  obtain ⟨hPC, fo1, hOw, hfo⟩ := hP1
  clear hsz9 hk1
  refine lv_istore (lv' := [(5, .int (nI kap)), (4, .int (nI (6 * i))), (0, .ref b), (1, .ref o), (2, .ref (o + 74)), (3, .ref (o + 89))]) hx hb d_Lw_law_686 hl (by decide) rfl (fun ls hl => ?_)
  refine lv_aload_n hx hb d_Lw_law_688 rfl (lv_at hl 4 rfl) ?_
  refine lv_aload_n hx hb d_Lw_law_689 rfl (lv_at hl 2 rfl) ?_
  refine lv_iload hx hb d_Lw_law_690 (lv_at hl 1 rfl) ?_
  refine lv_iconst (v := 1) hx hb d_Lw_law_692 (by decide) ?_
  refine lv_iadd hx hb d_Lw_law_693 ?_
  refine lv_topi (fun z9 e_z9 => ?_)
  obtain rfl : z9 = nI (6 * i + 1) := by rw [e_z9]; exact (nI_add (6 * i) 1)
  refine ep_sld hx hb hX hbl (show ¬ s.heap.size ≤ b by omega) hS (i := (6 * i + 1)) (by omega) (by omega) d_Lw_law_694 ?_
  refine lv_aload_n hx hb d_Lw_law_695 rfl (lv_at hl 2 rfl) ?_
  refine lv_iload hx hb d_Lw_law_696 (lv_at hl 1 rfl) ?_
  refine lv_iconst (v := 2) hx hb d_Lw_law_698 (by decide) ?_
  refine lv_iadd hx hb d_Lw_law_699 ?_
  refine lv_topi (fun z9 e_z9 => ?_)
  obtain rfl : z9 = nI (6 * i + 2) := by rw [e_z9]; exact (nI_add (6 * i) 2)
  refine ep_sld hx hb hX hbl (show ¬ s.heap.size ≤ b by omega) hS (i := (6 * i + 2)) (by omega) (by omega) d_Lw_law_700 ?_
  refine lv_aload_n hx hb d_Lw_law_701 rfl (lv_at hl 2 rfl) ?_
  refine lv_iload hx hb d_Lw_law_702 (lv_at hl 1 rfl) ?_
  refine lv_iconst (v := 3) hx hb d_Lw_law_704 (by decide) ?_
  refine lv_iadd hx hb d_Lw_law_705 ?_
  refine lv_topi (fun z9 e_z9 => ?_)
  obtain rfl : z9 = nI (6 * i + 3) := by rw [e_z9]; exact (nI_add (6 * i) 3)
  refine ep_sld hx hb hX hbl (show ¬ s.heap.size ≤ b by omega) hS (i := (6 * i + 3)) (by omega) (by omega) d_Lw_law_706 ?_
  refine ep_callH (W.runV (As := [.int (xs (6 * i + 1)), .int (xs (6 * i + 2)), .int (xs (6 * i + 3))]) (rest := []) ⟨hx, hb, hml, hown, hg⟩ hMS (ep_cwV 3 hg tw_868 tw_869 tw_870 tw_12 tk_Md_least rfl rfl (by decide +kernel) ⟨(Nat.le_of_ble_eq_true rfl), (Nat.le_of_ble_eq_true rfl)⟩) ⟨ep_blind, va_recv (q0 := 0) (ci := 9) hK hMw rfl rfl, ep_pre hKn hMw⟩ rfl rfl hl.1 rfl (lv_room (Nat.le_of_ble_eq_true rfl)) d_Lw_law_707 ⟨by show cells + 1 + 0 ≤ 601024; omega, by show slots + 6 + 0 ≤ 7293034; omega⟩) hS (fun q h9 => by show s.heap.size ≤ q; simp only [blk] at h9; omega) (fun H locs hsz9 hk1 hMw hS => ?_)
  refine W.eq (g2 := F0 m 710 ls [.int r1]) rfl ?_
  have hPC := hPC.kept hk1 (fun z h9 => by simp only [blk] at h9; omega)
  have hOw := wo_kc hOw hk1 (off_in (rng_of wOut_in) (by intro q h1 h2 h3; simp only [blk] at h3; omega))
  clear hsz9 hk1
  refine lv_istore (lv' := [(6, .int r1), (5, .int (nI kap)), (4, .int (nI (6 * i))), (0, .ref b), (1, .ref o), (2, .ref (o + 74)), (3, .ref (o + 89))]) hx hb d_Lw_law_710 hl (by decide) rfl (fun ls hl => ?_)
  refine lv_aload_n hx hb d_Lw_law_712 rfl (lv_at hl 5 rfl) ?_
  refine ep_callP (W.runV (As := []) (rest := []) ⟨hx, hb, hml, hown, hg⟩ (m_Mo_thrown l D cI cJ cZ cO (o + 74) (M1.1) (M1.2.1) (M1.2.2.1) (M1.2.2.2.1) (M1.2.2.2.2.1) (M1.2.2.2.2.2.1) (M1.2.2.2.2.2.2.1) (M1.2.2.2.2.2.2.2.1) (M1.2.2.2.2.2.2.2.2.1) (M1.2.2.2.2.2.2.2.2.2.1) (M1.2.2.2.2.2.2.2.2.2.2.1) (M1.2.2.2.2.2.2.2.2.2.2.2.1) (M1.2.2.2.2.2.2.2.2.2.2.2.2.1) (M1.2.2.2.2.2.2.2.2.2.2.2.2.2.1) (M1.2.2.2.2.2.2.2.2.2.2.2.2.2.2.1) (M1.2.2.2.2.2.2.2.2.2.2.2.2.2.2.2.1) (M1.2.2.2.2.2.2.2.2.2.2.2.2.2.2.2.2) _ rfl) (ep_cwV 0 hg tw_758 tw_759 tw_760 tw_12 tk_Md_thrown rfl rfl (by decide +kernel) ⟨(Nat.le_of_ble_eq_true rfl), (Nat.le_of_ble_eq_true rfl)⟩) ⟨ep_blind, va_recv (q0 := 0) (ci := 9) hK hMw rfl rfl, ep_pre hKn hMw⟩ rfl rfl hl.1 rfl (lv_room (Nat.le_of_ble_eq_true rfl)) d_Lw_law_713 ⟨by show cells + 1 + 0 ≤ 601024; omega, by show slots + 6 + 0 ≤ 7293034; omega⟩) ?_
  refine W.eq (g2 := F0 m 716 ls [.int (M_code M1)]) rfl ?_
  rw [hcode]
  refine lv_iload hx hb d_Lw_law_716 (lv_at hl 1 rfl) ?_
  refine lv_icmp_eq (tgt := 723) hx hb d_Lw_law_718 (by decide) (fun hc => ?_) (fun hc => absurd rfl hc)
  refine lv_iload hx hb d_Lw_law_723 (lv_at hl 1 rfl) ?_
  refine lv_if_ne (tgt := 740) hx hb d_Lw_law_725 (by decide) (fun hc => ?_) (fun hc => ?_)
  · refine lv_goto (tgt := 1347) hx hb d_Lw_law_740 (by decide) ?_
    exact kk H locs ls C1 M1 fo1 (lv_sub hl [2, 3, 4, 5, 6] rfl) ⟨hPC, hMw, hOw⟩ hS hIv
  · have hk0 : kap = 0 := by rcases (show kap = 0 ∨ kap = 1 ∨ kap = 2 ∨ kap = 3 by omega) with h9 | h9 | h9 | h9; exact h9; all_goals (rw [h9] at hc; exact absurd hc (by decide))
    have hv := hfo hk0
    have hrr := hans hk0
    refine lv_aload_n hx hb d_Lw_law_728 rfl (lv_at hl 6 rfl) ?_
    refine lv_iconst (v := 0) hx hb d_Lw_law_729 (by decide) ?_
    refine lv_topi (fun z8 e_z8 => ?_)
    obtain rfl : z8 = nI 0 := by rw [e_z8]; exact nI_0.symm
    refine ep_lald hx hb hK hOw 0 1 rfl rfl (i := 0) (by decide) (by decide) d_Lw_law_730 ?_
    rw [hv, hrr]
    refine lv_iload hx hb d_Lw_law_731 (lv_at hl 0 rfl) ?_
    refine lv_i2l hx hb d_Lw_law_733 rfl ?_
    refine W.lcmp hx hb d_Lw_law_734 ?_
    refine lv_if_eq (tgt := 740) hx hb d_Lw_law_735 (by decide) (fun hc9 => ?_) (fun hc9 => absurd ((lg_cmp_eq _ _).mpr rfl) hc9)
    refine lv_goto (tgt := 1347) hx hb d_Lw_law_740 (by decide) ?_
    exact kk H locs ls C1 M1 fo1 (lv_sub hl [2, 3, 4, 5, 6] rfl) ⟨hPC, hMw, hOw⟩ hS hIv

set_option maxHeartbeats 4000000 in
set_option maxRecDepth 100000 in
theorem lc_sum {p : Program} {l : Launch} {e : Env} {s : State} {m : MethodId} {below : List Frame} {meth : Method} {c : Code} {b L : Nat} {xs : Nat → Int32} {D : va_G} {cI cJ cZ cO : ClassId} {o : Nat} {Iv : (Nat → CoT) → MT → Prop} {H : Heap} {locs : List Loc} {cells slots : Nat} {Q : State → Prop} {C : Nat → CoT} {M : MT} {fo : Nat → Int64} {i : Nat} {ls : Array Slot} (hx : p.tables.exec = Jvm.exec) (hb : c.code = code) (hml : c.maxLocals = 8) (hown : s.vm.findClass R_Lw = some m.cls) (hg : ∀ w ∈ gt, w.before #[Value.ref b] s = true) (hKn : Kn D cI cJ cZ cO s) (hNx : Nx s) (hZ : Zs (fun q => s.heap.size ≤ q) s s.heap) (hX : va_X b L xs s s.heap) (hbl : b < s.heap.size) (ho : o = s.heap.size) (hL : L ≤ 3072) (hi : 6 * i + 6 ≤ L)
    (hl : lv_has ls 8 [(4, .int (nI (6 * i))), (0, .ref b), (1, .ref o), (2, .ref (o + 74)), (3, .ref (o + 89))]) (hLI : LI D cI cJ cZ cO o C M fo H) (hS : va_S (fun q => s.heap.size ≤ q) s.heap H locs) (hc9 : cells + 1 ≤ 601024) (hs9 : slots + 6 ≤ 7293034)
    (hop : OP_sum l D cI cJ cZ cO o Iv M H (xs (6 * i + 1)) (xs (6 * i + 2)))
    (kk : ∀ (H1 : Heap) (locs1 : List Loc) (ls1 : Array Slot) (C1 : Nat → CoT) (M1 : MT) (fo1 : Nat → Int64), lv_has ls1 8 [(4, .int (nI (6 * i))), (0, .ref b), (1, .ref o), (2, .ref (o + 74)), (3, .ref (o + 89))] → LI D cI cJ cZ cO o C1 M1 fo1 H1 → va_S (fun q => s.heap.size ≤ q) s.heap H1 locs1 → Iv C1 M1 → W p l e room_1 s m #[Value.ref b] below meth c H1 locs1 (cells + 1) (slots + 6) Q (F0 m 1347 ls1 [])) : W p l e room_1 s m #[Value.ref b] below meth c H locs cells slots Q (F0 m 743 ls []) := by
  obtain ⟨kap, r, r1, C1, M1, hkap, hCS, hMS, hcode, hans, hIv⟩ := hop
  obtain ⟨Pic, hPic, hpE, hM⟩ := hCS
  obtain ⟨hPC, hMw, hOw⟩ := hLI
  have hK := hKn.1
  refine lv_aload_n hx hb d_Lw_law_743 rfl (lv_at hl 2 rfl) ?_
  refine lv_aload_n hx hb d_Lw_law_744 rfl (lv_at hl 1 rfl) ?_
  refine lv_iload hx hb d_Lw_law_745 (lv_at hl 0 rfl) ?_
  refine lv_iconst (v := 1) hx hb d_Lw_law_747 (by decide) ?_
  refine lv_iadd hx hb d_Lw_law_748 ?_
  refine lv_topi (fun z9 e_z9 => ?_)
  obtain rfl : z9 = nI (6 * i + 1) := by rw [e_z9]; exact (nI_add (6 * i) 1)
  refine ep_sld hx hb hX hbl (show ¬ s.heap.size ≤ b by omega) hS (i := (6 * i + 1)) (by omega) (by omega) d_Lw_law_749 ?_
  refine lv_aload_n hx hb d_Lw_law_750 rfl (lv_at hl 1 rfl) ?_
  refine lv_iload hx hb d_Lw_law_751 (lv_at hl 0 rfl) ?_
  refine lv_iconst (v := 2) hx hb d_Lw_law_753 (by decide) ?_
  refine lv_iadd hx hb d_Lw_law_754 ?_
  refine lv_topi (fun z9 e_z9 => ?_)
  obtain rfl : z9 = nI (6 * i + 2) := by rw [e_z9]; exact (nI_add (6 * i) 2)
  refine ep_sld hx hb hX hbl (show ¬ s.heap.size ≤ b by omega) hS (i := (6 * i + 2)) (by omega) (by omega) d_Lw_law_755 ?_
  refine lv_aload_n hx hb d_Lw_law_756 rfl (lv_at hl 4 rfl) ?_
  refine ep_callC (ep_toC (vx_runSW (As := [.ref o, .int (xs (6 * i + 1)), .int (xs (6 * i + 2)), .ref (o + 89)]) (rest := []) ⟨hx, hb, hml, hown, hg⟩ (lw_sum l D cI cJ cZ cO o (o + 89) fo (xs (6 * i + 1)) (xs (6 * i + 2)) r kap (blk o 74) Pic (PC D cI cJ cZ cO o C1) hpE (by simp only [blk]; omega) (fun H9 H8 h9 hP9 => hP9.kept (A := fun q => q = o + 89) h9 (fun z hz => Or.inr (by omega))) hkap hM) (ep_cwX (hh := [(0, 9, 12, 13), (0, 9, 16, 15)]) 4 hg tw_620 tw_621 tw_0 tk_Lw_sum rfl rfl (by decide +kernel) ⟨(Nat.le_of_ble_eq_true rfl), (Nat.le_of_ble_eq_true rfl)⟩) ⟨ep_blindL, ep_preL hKn (Zs.kept hZ hS (fun q h9 => by show s.heap.size ≤ q; rcases h9 with h9 | h9; (simp only [blk] at h9; omega); omega)) hNx ⟨hPic, hOw⟩⟩ rfl rfl hl.1 rfl (lv_room (Nat.le_of_ble_eq_true rfl)) d_Lw_law_757 ⟨hc9, hs9⟩)) hS (fun q h9 => by show s.heap.size ≤ q; rcases h9 with h9 | h9; (simp only [blk] at h9; omega); omega) (fun H locs hsz9 hk1 hP1 hS => ?_)
  refine W.eq (g2 := F0 m 760 ls [.int (nI kap)]) rfl ?_
  have hMw := wo_kc hMw hk1 (off_in (A := (fun q => blk o 74 q ∨ q = o + 89)) (rng_of wMo_in) (by intro q h1 h2 h3; rcases h3 with h3 | h3; (simp only [blk] at h3; omega); omega))
  obtain ⟨hPC, fo1, hOw, hfo⟩ := hP1
  clear hsz9 hk1
  refine lv_istore (lv' := [(5, .int (nI kap)), (4, .int (nI (6 * i))), (0, .ref b), (1, .ref o), (2, .ref (o + 74)), (3, .ref (o + 89))]) hx hb d_Lw_law_760 hl (by decide) rfl (fun ls hl => ?_)
  refine lv_aload_n hx hb d_Lw_law_762 rfl (lv_at hl 4 rfl) ?_
  refine lv_aload_n hx hb d_Lw_law_763 rfl (lv_at hl 2 rfl) ?_
  refine lv_iload hx hb d_Lw_law_764 (lv_at hl 1 rfl) ?_
  refine lv_iconst (v := 1) hx hb d_Lw_law_766 (by decide) ?_
  refine lv_iadd hx hb d_Lw_law_767 ?_
  refine lv_topi (fun z9 e_z9 => ?_)
  obtain rfl : z9 = nI (6 * i + 1) := by rw [e_z9]; exact (nI_add (6 * i) 1)
  refine ep_sld hx hb hX hbl (show ¬ s.heap.size ≤ b by omega) hS (i := (6 * i + 1)) (by omega) (by omega) d_Lw_law_768 ?_
  refine lv_aload_n hx hb d_Lw_law_769 rfl (lv_at hl 2 rfl) ?_
  refine lv_iload hx hb d_Lw_law_770 (lv_at hl 1 rfl) ?_
  refine lv_iconst (v := 2) hx hb d_Lw_law_772 (by decide) ?_
  refine lv_iadd hx hb d_Lw_law_773 ?_
  refine lv_topi (fun z9 e_z9 => ?_)
  obtain rfl : z9 = nI (6 * i + 2) := by rw [e_z9]; exact (nI_add (6 * i) 2)
  refine ep_sld hx hb hX hbl (show ¬ s.heap.size ≤ b by omega) hS (i := (6 * i + 2)) (by omega) (by omega) d_Lw_law_774 ?_
  refine ep_callH (W.runV (As := [.int (xs (6 * i + 1)), .int (xs (6 * i + 2))]) (rest := []) ⟨hx, hb, hml, hown, hg⟩ hMS (ep_cwV 2 hg tw_872 tw_873 tw_874 tw_12 tk_Md_sum rfl rfl (by decide +kernel) ⟨(Nat.le_of_ble_eq_true rfl), (Nat.le_of_ble_eq_true rfl)⟩) ⟨ep_blind, va_recv (q0 := 0) (ci := 9) hK hMw rfl rfl, ep_pre hKn hMw⟩ rfl rfl hl.1 rfl (lv_room (Nat.le_of_ble_eq_true rfl)) d_Lw_law_775 ⟨by show cells + 1 + 0 ≤ 601024; omega, by show slots + 6 + 0 ≤ 7293034; omega⟩) hS (fun q h9 => by show s.heap.size ≤ q; simp only [blk] at h9; omega) (fun H locs hsz9 hk1 hMw hS => ?_)
  refine W.eq (g2 := F0 m 778 ls [.long r1]) rfl ?_
  have hPC := hPC.kept hk1 (fun z h9 => by simp only [blk] at h9; omega)
  have hOw := wo_kc hOw hk1 (off_in (rng_of wOut_in) (by intro q h1 h2 h3; simp only [blk] at h3; omega))
  clear hsz9 hk1
  refine lv_lstore (lv' := [(6, .long r1), (5, .int (nI kap)), (4, .int (nI (6 * i))), (0, .ref b), (1, .ref o), (2, .ref (o + 74)), (3, .ref (o + 89))]) hx hb d_Lw_law_778 hl (by decide) rfl (fun ls hl => ?_)
  refine lv_aload_n hx hb d_Lw_law_780 rfl (lv_at hl 5 rfl) ?_
  refine ep_callP (W.runV (As := []) (rest := []) ⟨hx, hb, hml, hown, hg⟩ (m_Mo_thrown l D cI cJ cZ cO (o + 74) (M1.1) (M1.2.1) (M1.2.2.1) (M1.2.2.2.1) (M1.2.2.2.2.1) (M1.2.2.2.2.2.1) (M1.2.2.2.2.2.2.1) (M1.2.2.2.2.2.2.2.1) (M1.2.2.2.2.2.2.2.2.1) (M1.2.2.2.2.2.2.2.2.2.1) (M1.2.2.2.2.2.2.2.2.2.2.1) (M1.2.2.2.2.2.2.2.2.2.2.2.1) (M1.2.2.2.2.2.2.2.2.2.2.2.2.1) (M1.2.2.2.2.2.2.2.2.2.2.2.2.2.1) (M1.2.2.2.2.2.2.2.2.2.2.2.2.2.2.1) (M1.2.2.2.2.2.2.2.2.2.2.2.2.2.2.2.1) (M1.2.2.2.2.2.2.2.2.2.2.2.2.2.2.2.2) _ rfl) (ep_cwV 0 hg tw_758 tw_759 tw_760 tw_12 tk_Md_thrown rfl rfl (by decide +kernel) ⟨(Nat.le_of_ble_eq_true rfl), (Nat.le_of_ble_eq_true rfl)⟩) ⟨ep_blind, va_recv (q0 := 0) (ci := 9) hK hMw rfl rfl, ep_pre hKn hMw⟩ rfl rfl hl.1 rfl (lv_room (Nat.le_of_ble_eq_true rfl)) d_Lw_law_781 ⟨by show cells + 1 + 0 ≤ 601024; omega, by show slots + 6 + 0 ≤ 7293034; omega⟩) ?_
  refine W.eq (g2 := F0 m 784 ls [.int (M_code M1)]) rfl ?_
  rw [hcode]
  refine lv_iload hx hb d_Lw_law_784 (lv_at hl 1 rfl) ?_
  refine lv_icmp_eq (tgt := 791) hx hb d_Lw_law_786 (by decide) (fun hc => ?_) (fun hc => absurd rfl hc)
  refine lv_iload hx hb d_Lw_law_791 (lv_at hl 1 rfl) ?_
  refine lv_if_ne (tgt := 807) hx hb d_Lw_law_793 (by decide) (fun hc => ?_) (fun hc => ?_)
  · refine lv_goto (tgt := 1347) hx hb d_Lw_law_807 (by decide) ?_
    exact kk H locs ls C1 M1 fo1 (lv_sub hl [2, 3, 4, 5, 6] rfl) ⟨hPC, hMw, hOw⟩ hS hIv
  · have hk0 : kap = 0 := by rcases (show kap = 0 ∨ kap = 1 ∨ kap = 2 ∨ kap = 3 by omega) with h9 | h9 | h9 | h9; exact h9; all_goals (rw [h9] at hc; exact absurd hc (by decide))
    have hv := hfo hk0
    have hrr := hans hk0
    refine lv_aload_n hx hb d_Lw_law_796 rfl (lv_at hl 6 rfl) ?_
    refine lv_iconst (v := 0) hx hb d_Lw_law_797 (by decide) ?_
    refine lv_topi (fun z8 e_z8 => ?_)
    obtain rfl : z8 = nI 0 := by rw [e_z8]; exact nI_0.symm
    refine ep_lald hx hb hK hOw 0 1 rfl rfl (i := 0) (by decide) (by decide) d_Lw_law_798 ?_
    rw [hv, hrr]
    refine lv_lload hx hb d_Lw_law_799 (lv_at hl 0 rfl) ?_
    refine W.lcmp hx hb d_Lw_law_801 ?_
    refine lv_if_eq (tgt := 807) hx hb d_Lw_law_802 (by decide) (fun hc9 => ?_) (fun hc9 => absurd ((lg_cmp_eq _ _).mpr rfl) hc9)
    refine lv_goto (tgt := 1347) hx hb d_Lw_law_807 (by decide) ?_
    exact kk H locs ls C1 M1 fo1 (lv_sub hl [2, 3, 4, 5, 6] rfl) ⟨hPC, hMw, hOw⟩ hS hIv

set_option maxHeartbeats 4000000 in
set_option maxRecDepth 100000 in
theorem lc_together {p : Program} {l : Launch} {e : Env} {s : State} {m : MethodId} {below : List Frame} {meth : Method} {c : Code} {b L : Nat} {xs : Nat → Int32} {D : va_G} {cI cJ cZ cO : ClassId} {o : Nat} {Iv : (Nat → CoT) → MT → Prop} {H : Heap} {locs : List Loc} {cells slots : Nat} {Q : State → Prop} {C : Nat → CoT} {M : MT} {fo : Nat → Int64} {i : Nat} {ls : Array Slot} (hx : p.tables.exec = Jvm.exec) (hb : c.code = code) (hml : c.maxLocals = 8) (hown : s.vm.findClass R_Lw = some m.cls) (hg : ∀ w ∈ gt, w.before #[Value.ref b] s = true) (hKn : Kn D cI cJ cZ cO s) (hNx : Nx s) (hZ : Zs (fun q => s.heap.size ≤ q) s s.heap) (hX : va_X b L xs s s.heap) (hbl : b < s.heap.size) (ho : o = s.heap.size) (hL : L ≤ 3072) (hi : 6 * i + 6 ≤ L)
    (hl : lv_has ls 8 [(4, .int (nI (6 * i))), (0, .ref b), (1, .ref o), (2, .ref (o + 74)), (3, .ref (o + 89))]) (hLI : LI D cI cJ cZ cO o C M fo H) (hS : va_S (fun q => s.heap.size ≤ q) s.heap H locs) (hc9 : cells + 1 ≤ 601024) (hs9 : slots + 6 ≤ 7293034)
    (hop : OP_together l D cI cJ cZ cO o Iv M H (xs (6 * i + 1)) (xs (6 * i + 2)) (xs (6 * i + 3)) (xs (6 * i + 4)))
    (kk : ∀ (H1 : Heap) (locs1 : List Loc) (ls1 : Array Slot) (C1 : Nat → CoT) (M1 : MT) (fo1 : Nat → Int64), lv_has ls1 8 [(4, .int (nI (6 * i))), (0, .ref b), (1, .ref o), (2, .ref (o + 74)), (3, .ref (o + 89))] → LI D cI cJ cZ cO o C1 M1 fo1 H1 → va_S (fun q => s.heap.size ≤ q) s.heap H1 locs1 → Iv C1 M1 → W p l e room_1 s m #[Value.ref b] below meth c H1 locs1 (cells + 1) (slots + 6) Q (F0 m 1347 ls1 [])) : W p l e room_1 s m #[Value.ref b] below meth c H locs cells slots Q (F0 m 810 ls []) := by
  obtain ⟨kap, r, r1, C1, M1, hkap, hCS, hMS, hcode, hr01, hans, hIv⟩ := hop
  obtain ⟨Pic, hPic, hpE, hM⟩ := hCS
  obtain ⟨hPC, hMw, hOw⟩ := hLI
  have hK := hKn.1
  refine lv_aload_n hx hb d_Lw_law_810 rfl (lv_at hl 2 rfl) ?_
  refine lv_aload_n hx hb d_Lw_law_811 rfl (lv_at hl 1 rfl) ?_
  refine lv_iload hx hb d_Lw_law_812 (lv_at hl 0 rfl) ?_
  refine lv_iconst (v := 1) hx hb d_Lw_law_814 (by decide) ?_
  refine lv_iadd hx hb d_Lw_law_815 ?_
  refine lv_topi (fun z9 e_z9 => ?_)
  obtain rfl : z9 = nI (6 * i + 1) := by rw [e_z9]; exact (nI_add (6 * i) 1)
  refine ep_sld hx hb hX hbl (show ¬ s.heap.size ≤ b by omega) hS (i := (6 * i + 1)) (by omega) (by omega) d_Lw_law_816 ?_
  refine lv_aload_n hx hb d_Lw_law_817 rfl (lv_at hl 1 rfl) ?_
  refine lv_iload hx hb d_Lw_law_818 (lv_at hl 0 rfl) ?_
  refine lv_iconst (v := 2) hx hb d_Lw_law_820 (by decide) ?_
  refine lv_iadd hx hb d_Lw_law_821 ?_
  refine lv_topi (fun z9 e_z9 => ?_)
  obtain rfl : z9 = nI (6 * i + 2) := by rw [e_z9]; exact (nI_add (6 * i) 2)
  refine ep_sld hx hb hX hbl (show ¬ s.heap.size ≤ b by omega) hS (i := (6 * i + 2)) (by omega) (by omega) d_Lw_law_822 ?_
  refine lv_aload_n hx hb d_Lw_law_823 rfl (lv_at hl 1 rfl) ?_
  refine lv_iload hx hb d_Lw_law_824 (lv_at hl 0 rfl) ?_
  refine lv_iconst (v := 3) hx hb d_Lw_law_826 (by decide) ?_
  refine lv_iadd hx hb d_Lw_law_827 ?_
  refine lv_topi (fun z9 e_z9 => ?_)
  obtain rfl : z9 = nI (6 * i + 3) := by rw [e_z9]; exact (nI_add (6 * i) 3)
  refine ep_sld hx hb hX hbl (show ¬ s.heap.size ≤ b by omega) hS (i := (6 * i + 3)) (by omega) (by omega) d_Lw_law_828 ?_
  refine lv_aload_n hx hb d_Lw_law_829 rfl (lv_at hl 1 rfl) ?_
  refine lv_iload hx hb d_Lw_law_830 (lv_at hl 0 rfl) ?_
  refine lv_iconst (v := 4) hx hb d_Lw_law_832 (by decide) ?_
  refine lv_iadd hx hb d_Lw_law_833 ?_
  refine lv_topi (fun z9 e_z9 => ?_)
  obtain rfl : z9 = nI (6 * i + 4) := by rw [e_z9]; exact (nI_add (6 * i) 4)
  refine ep_sld hx hb hX hbl (show ¬ s.heap.size ≤ b by omega) hS (i := (6 * i + 4)) (by omega) (by omega) d_Lw_law_834 ?_
  refine lv_aload_n hx hb d_Lw_law_835 rfl (lv_at hl 4 rfl) ?_
  refine ep_callC (ep_toC (vx_runSW (As := [.ref o, .int (xs (6 * i + 1)), .int (xs (6 * i + 2)), .int (xs (6 * i + 3)), .int (xs (6 * i + 4)), .ref (o + 89)]) (rest := []) ⟨hx, hb, hml, hown, hg⟩ (lw_together l D cI cJ cZ cO o (o + 89) fo (xs (6 * i + 1)) (xs (6 * i + 2)) (xs (6 * i + 3)) (xs (6 * i + 4)) r hr01 kap (blk o 74) Pic (PC D cI cJ cZ cO o C1) hpE (by simp only [blk]; omega) (fun H9 H8 h9 hP9 => hP9.kept (A := fun q => q = o + 89) h9 (fun z hz => Or.inr (by omega))) hkap hM) (ep_cwX (hh := [(0, 21, 24, 13), (0, 21, 28, 15)]) 6 hg tw_627 tw_628 tw_0 tk_Lw_together rfl rfl (by decide +kernel) ⟨(Nat.le_of_ble_eq_true rfl), (Nat.le_of_ble_eq_true rfl)⟩) ⟨ep_blindL, ep_preL hKn (Zs.kept hZ hS (fun q h9 => by show s.heap.size ≤ q; rcases h9 with h9 | h9; (simp only [blk] at h9; omega); omega)) hNx ⟨hPic, hOw⟩⟩ rfl rfl hl.1 rfl (lv_room (Nat.le_of_ble_eq_true rfl)) d_Lw_law_836 ⟨hc9, hs9⟩)) hS (fun q h9 => by show s.heap.size ≤ q; rcases h9 with h9 | h9; (simp only [blk] at h9; omega); omega) (fun H locs hsz9 hk1 hP1 hS => ?_)
  refine W.eq (g2 := F0 m 839 ls [.int (nI kap)]) rfl ?_
  have hMw := wo_kc hMw hk1 (off_in (A := (fun q => blk o 74 q ∨ q = o + 89)) (rng_of wMo_in) (by intro q h1 h2 h3; rcases h3 with h3 | h3; (simp only [blk] at h3; omega); omega))
  obtain ⟨hPC, fo1, hOw, hfo⟩ := hP1
  clear hsz9 hk1
  refine lv_istore (lv' := [(5, .int (nI kap)), (4, .int (nI (6 * i))), (0, .ref b), (1, .ref o), (2, .ref (o + 74)), (3, .ref (o + 89))]) hx hb d_Lw_law_839 hl (by decide) rfl (fun ls hl => ?_)
  refine lv_aload_n hx hb d_Lw_law_841 rfl (lv_at hl 4 rfl) ?_
  refine lv_aload_n hx hb d_Lw_law_842 rfl (lv_at hl 2 rfl) ?_
  refine lv_iload hx hb d_Lw_law_843 (lv_at hl 1 rfl) ?_
  refine lv_iconst (v := 1) hx hb d_Lw_law_845 (by decide) ?_
  refine lv_iadd hx hb d_Lw_law_846 ?_
  refine lv_topi (fun z9 e_z9 => ?_)
  obtain rfl : z9 = nI (6 * i + 1) := by rw [e_z9]; exact (nI_add (6 * i) 1)
  refine ep_sld hx hb hX hbl (show ¬ s.heap.size ≤ b by omega) hS (i := (6 * i + 1)) (by omega) (by omega) d_Lw_law_847 ?_
  refine lv_aload_n hx hb d_Lw_law_848 rfl (lv_at hl 2 rfl) ?_
  refine lv_iload hx hb d_Lw_law_849 (lv_at hl 1 rfl) ?_
  refine lv_iconst (v := 2) hx hb d_Lw_law_851 (by decide) ?_
  refine lv_iadd hx hb d_Lw_law_852 ?_
  refine lv_topi (fun z9 e_z9 => ?_)
  obtain rfl : z9 = nI (6 * i + 2) := by rw [e_z9]; exact (nI_add (6 * i) 2)
  refine ep_sld hx hb hX hbl (show ¬ s.heap.size ≤ b by omega) hS (i := (6 * i + 2)) (by omega) (by omega) d_Lw_law_853 ?_
  refine lv_aload_n hx hb d_Lw_law_854 rfl (lv_at hl 2 rfl) ?_
  refine lv_iload hx hb d_Lw_law_855 (lv_at hl 1 rfl) ?_
  refine lv_iconst (v := 3) hx hb d_Lw_law_857 (by decide) ?_
  refine lv_iadd hx hb d_Lw_law_858 ?_
  refine lv_topi (fun z9 e_z9 => ?_)
  obtain rfl : z9 = nI (6 * i + 3) := by rw [e_z9]; exact (nI_add (6 * i) 3)
  refine ep_sld hx hb hX hbl (show ¬ s.heap.size ≤ b by omega) hS (i := (6 * i + 3)) (by omega) (by omega) d_Lw_law_859 ?_
  refine lv_aload_n hx hb d_Lw_law_860 rfl (lv_at hl 2 rfl) ?_
  refine lv_iload hx hb d_Lw_law_861 (lv_at hl 1 rfl) ?_
  refine lv_iconst (v := 4) hx hb d_Lw_law_863 (by decide) ?_
  refine lv_iadd hx hb d_Lw_law_864 ?_
  refine lv_topi (fun z9 e_z9 => ?_)
  obtain rfl : z9 = nI (6 * i + 4) := by rw [e_z9]; exact (nI_add (6 * i) 4)
  refine ep_sld hx hb hX hbl (show ¬ s.heap.size ≤ b by omega) hS (i := (6 * i + 4)) (by omega) (by omega) d_Lw_law_865 ?_
  refine ep_callH (W.runV (As := [.int (xs (6 * i + 1)), .int (xs (6 * i + 2)), .int (xs (6 * i + 3)), .int (xs (6 * i + 4))]) (rest := []) ⟨hx, hb, hml, hown, hg⟩ hMS (ep_cwV 4 hg tw_876 tw_877 tw_878 tw_12 tk_Md_together rfl rfl (by decide +kernel) ⟨(Nat.le_of_ble_eq_true rfl), (Nat.le_of_ble_eq_true rfl)⟩) ⟨ep_blind, va_recv (q0 := 0) (ci := 9) hK hMw rfl rfl, ep_pre hKn hMw⟩ rfl rfl hl.1 rfl (lv_room (Nat.le_of_ble_eq_true rfl)) d_Lw_law_866 ⟨by show cells + 1 + 0 ≤ 601024; omega, by show slots + 6 + 0 ≤ 7293034; omega⟩) hS (fun q h9 => by show s.heap.size ≤ q; simp only [blk] at h9; omega) (fun H locs hsz9 hk1 hMw hS => ?_)
  refine W.eq (g2 := F0 m 869 ls [.int r1]) rfl ?_
  have hPC := hPC.kept hk1 (fun z h9 => by simp only [blk] at h9; omega)
  have hOw := wo_kc hOw hk1 (off_in (rng_of wOut_in) (by intro q h1 h2 h3; simp only [blk] at h3; omega))
  clear hsz9 hk1
  refine lv_istore (lv' := [(6, .int r1), (5, .int (nI kap)), (4, .int (nI (6 * i))), (0, .ref b), (1, .ref o), (2, .ref (o + 74)), (3, .ref (o + 89))]) hx hb d_Lw_law_869 hl (by decide) rfl (fun ls hl => ?_)
  refine lv_aload_n hx hb d_Lw_law_871 rfl (lv_at hl 5 rfl) ?_
  refine ep_callP (W.runV (As := []) (rest := []) ⟨hx, hb, hml, hown, hg⟩ (m_Mo_thrown l D cI cJ cZ cO (o + 74) (M1.1) (M1.2.1) (M1.2.2.1) (M1.2.2.2.1) (M1.2.2.2.2.1) (M1.2.2.2.2.2.1) (M1.2.2.2.2.2.2.1) (M1.2.2.2.2.2.2.2.1) (M1.2.2.2.2.2.2.2.2.1) (M1.2.2.2.2.2.2.2.2.2.1) (M1.2.2.2.2.2.2.2.2.2.2.1) (M1.2.2.2.2.2.2.2.2.2.2.2.1) (M1.2.2.2.2.2.2.2.2.2.2.2.2.1) (M1.2.2.2.2.2.2.2.2.2.2.2.2.2.1) (M1.2.2.2.2.2.2.2.2.2.2.2.2.2.2.1) (M1.2.2.2.2.2.2.2.2.2.2.2.2.2.2.2.1) (M1.2.2.2.2.2.2.2.2.2.2.2.2.2.2.2.2) _ rfl) (ep_cwV 0 hg tw_758 tw_759 tw_760 tw_12 tk_Md_thrown rfl rfl (by decide +kernel) ⟨(Nat.le_of_ble_eq_true rfl), (Nat.le_of_ble_eq_true rfl)⟩) ⟨ep_blind, va_recv (q0 := 0) (ci := 9) hK hMw rfl rfl, ep_pre hKn hMw⟩ rfl rfl hl.1 rfl (lv_room (Nat.le_of_ble_eq_true rfl)) d_Lw_law_872 ⟨by show cells + 1 + 0 ≤ 601024; omega, by show slots + 6 + 0 ≤ 7293034; omega⟩) ?_
  refine W.eq (g2 := F0 m 875 ls [.int (M_code M1)]) rfl ?_
  rw [hcode]
  refine lv_iload hx hb d_Lw_law_875 (lv_at hl 1 rfl) ?_
  refine lv_icmp_eq (tgt := 882) hx hb d_Lw_law_877 (by decide) (fun hc => ?_) (fun hc => absurd rfl hc)
  refine lv_iload hx hb d_Lw_law_882 (lv_at hl 1 rfl) ?_
  refine lv_if_ne (tgt := 906) hx hb d_Lw_law_884 (by decide) (fun hc => ?_) (fun hc => ?_)
  · refine lv_goto (tgt := 1347) hx hb d_Lw_law_906 (by decide) ?_
    exact kk H locs ls C1 M1 fo1 (lv_sub hl [2, 3, 4, 5, 6] rfl) ⟨hPC, hMw, hOw⟩ hS hIv
  · have hk0 : kap = 0 := by rcases (show kap = 0 ∨ kap = 1 ∨ kap = 2 ∨ kap = 3 by omega) with h9 | h9 | h9 | h9; exact h9; all_goals (rw [h9] at hc; exact absurd hc (by decide))
    have hv := hfo hk0
    have hrr := hans hk0
    refine lv_aload_n hx hb d_Lw_law_887 rfl (lv_at hl 6 rfl) ?_
    refine lv_iconst (v := 0) hx hb d_Lw_law_888 (by decide) ?_
    refine lv_topi (fun z8 e_z8 => ?_)
    obtain rfl : z8 = nI 0 := by rw [e_z8]; exact nI_0.symm
    refine ep_lald hx hb hK hOw 0 1 rfl rfl (i := 0) (by decide) (by decide) d_Lw_law_889 ?_
    rw [hv, hrr]
    refine lv_iload hx hb d_Lw_law_890 (lv_at hl 0 rfl) ?_
    refine lv_if_eq (tgt := 899) hx hb d_Lw_law_892 (by decide) (fun hc8 => ?_) (fun hc8 => ?_)
    · have hv8 : (if r1 = 0 then (0 : Int64) else 1) = 0 := if_pos hc8
      refine lv_lconst (v := 0) hx hb d_Lw_law_899 (by decide) ?_
      refine W.lcmp hx hb d_Lw_law_900 ?_
      refine lv_if_eq (tgt := 906) hx hb d_Lw_law_901 (by decide) (fun hc9 => ?_) (fun hc9 => absurd ((lg_cmp_eq _ _).mpr hv8) hc9)
      refine lv_goto (tgt := 1347) hx hb d_Lw_law_906 (by decide) ?_
      exact kk H locs ls C1 M1 fo1 (lv_sub hl [2, 3, 4, 5, 6] rfl) ⟨hPC, hMw, hOw⟩ hS hIv
    · have hv8 : (if r1 = 0 then (0 : Int64) else 1) = 1 := if_neg hc8
      refine lv_lconst (v := 1) hx hb d_Lw_law_895 (by decide) ?_
      refine lv_goto (tgt := 900) hx hb d_Lw_law_896 (by decide) ?_
      refine W.lcmp hx hb d_Lw_law_900 ?_
      refine lv_if_eq (tgt := 906) hx hb d_Lw_law_901 (by decide) (fun hc9 => ?_) (fun hc9 => absurd ((lg_cmp_eq _ _).mpr hv8) hc9)
      refine lv_goto (tgt := 1347) hx hb d_Lw_law_906 (by decide) ?_
      exact kk H locs ls C1 M1 fo1 (lv_sub hl [2, 3, 4, 5, 6] rfl) ⟨hPC, hMw, hOw⟩ hS hIv

set_option maxHeartbeats 4000000 in
set_option maxRecDepth 100000 in
theorem lc_result {p : Program} {l : Launch} {e : Env} {s : State} {m : MethodId} {below : List Frame} {meth : Method} {c : Code} {b L : Nat} {xs : Nat → Int32} {D : va_G} {cI cJ cZ cO : ClassId} {o : Nat} {Iv : (Nat → CoT) → MT → Prop} {H : Heap} {locs : List Loc} {cells slots : Nat} {Q : State → Prop} {C : Nat → CoT} {M : MT} {fo : Nat → Int64} {i : Nat} {ls : Array Slot} (hx : p.tables.exec = Jvm.exec) (hb : c.code = code) (hml : c.maxLocals = 8) (hown : s.vm.findClass R_Lw = some m.cls) (hg : ∀ w ∈ gt, w.before #[Value.ref b] s = true) (hKn : Kn D cI cJ cZ cO s) (hNx : Nx s) (hZ : Zs (fun q => s.heap.size ≤ q) s s.heap) (hX : va_X b L xs s s.heap) (hbl : b < s.heap.size) (ho : o = s.heap.size) (hL : L ≤ 3072) (hi : 6 * i + 6 ≤ L)
    (hl : lv_has ls 8 [(4, .int (nI (6 * i))), (0, .ref b), (1, .ref o), (2, .ref (o + 74)), (3, .ref (o + 89))]) (hLI : LI D cI cJ cZ cO o C M fo H) (hS : va_S (fun q => s.heap.size ≤ q) s.heap H locs) (hc9 : cells + 1 ≤ 601024) (hs9 : slots + 6 ≤ 7293034)
    (hop : OP_result l D cI cJ cZ cO o Iv M H (xs (6 * i + 1)) (xs (6 * i + 2)))
    (kk : ∀ (H1 : Heap) (locs1 : List Loc) (ls1 : Array Slot) (C1 : Nat → CoT) (M1 : MT) (fo1 : Nat → Int64), lv_has ls1 8 [(4, .int (nI (6 * i))), (0, .ref b), (1, .ref o), (2, .ref (o + 74)), (3, .ref (o + 89))] → LI D cI cJ cZ cO o C1 M1 fo1 H1 → va_S (fun q => s.heap.size ≤ q) s.heap H1 locs1 → Iv C1 M1 → W p l e room_1 s m #[Value.ref b] below meth c H1 locs1 (cells + 1) (slots + 6) Q (F0 m 1347 ls1 [])) : W p l e room_1 s m #[Value.ref b] below meth c H locs cells slots Q (F0 m 909 ls []) := by
  obtain ⟨kap, r, r1, C1, M1, hkap, hCS, hMS, hcode, hans, hIv⟩ := hop
  obtain ⟨Pic, hPic, hpE, hM⟩ := hCS
  obtain ⟨hPC, hMw, hOw⟩ := hLI
  have hK := hKn.1
  refine lv_aload_n hx hb d_Lw_law_909 rfl (lv_at hl 2 rfl) ?_
  refine lv_aload_n hx hb d_Lw_law_910 rfl (lv_at hl 1 rfl) ?_
  refine lv_iload hx hb d_Lw_law_911 (lv_at hl 0 rfl) ?_
  refine lv_iconst (v := 1) hx hb d_Lw_law_913 (by decide) ?_
  refine lv_iadd hx hb d_Lw_law_914 ?_
  refine lv_topi (fun z9 e_z9 => ?_)
  obtain rfl : z9 = nI (6 * i + 1) := by rw [e_z9]; exact (nI_add (6 * i) 1)
  refine ep_sld hx hb hX hbl (show ¬ s.heap.size ≤ b by omega) hS (i := (6 * i + 1)) (by omega) (by omega) d_Lw_law_915 ?_
  refine lv_aload_n hx hb d_Lw_law_916 rfl (lv_at hl 1 rfl) ?_
  refine lv_iload hx hb d_Lw_law_917 (lv_at hl 0 rfl) ?_
  refine lv_iconst (v := 2) hx hb d_Lw_law_919 (by decide) ?_
  refine lv_iadd hx hb d_Lw_law_920 ?_
  refine lv_topi (fun z9 e_z9 => ?_)
  obtain rfl : z9 = nI (6 * i + 2) := by rw [e_z9]; exact (nI_add (6 * i) 2)
  refine ep_sld hx hb hX hbl (show ¬ s.heap.size ≤ b by omega) hS (i := (6 * i + 2)) (by omega) (by omega) d_Lw_law_921 ?_
  refine lv_aload_n hx hb d_Lw_law_922 rfl (lv_at hl 4 rfl) ?_
  refine ep_callC (ep_toC (vx_runSW (As := [.ref o, .int (xs (6 * i + 1)), .int (xs (6 * i + 2)), .ref (o + 89)]) (rest := []) ⟨hx, hb, hml, hown, hg⟩ (lw_result l D cI cJ cZ cO o (o + 89) fo (xs (6 * i + 1)) (xs (6 * i + 2)) r kap (blk o 74) Pic (PC D cI cJ cZ cO o C1) hpE (by simp only [blk]; omega) (fun H9 H8 h9 hP9 => hP9.kept (A := fun q => q = o + 89) h9 (fun z hz => Or.inr (by omega))) hkap hM) (ep_cwX (hh := [(0, 9, 12, 13), (0, 9, 16, 15), (0, 9, 20, 35)]) 4 hg tw_636 tw_637 tw_0 tk_Lw_result rfl rfl (by decide +kernel) ⟨(Nat.le_of_ble_eq_true rfl), (Nat.le_of_ble_eq_true rfl)⟩) ⟨ep_blindL, ep_preL hKn (Zs.kept hZ hS (fun q h9 => by show s.heap.size ≤ q; rcases h9 with h9 | h9; (simp only [blk] at h9; omega); omega)) hNx ⟨hPic, hOw⟩⟩ rfl rfl hl.1 rfl (lv_room (Nat.le_of_ble_eq_true rfl)) d_Lw_law_923 ⟨hc9, hs9⟩)) hS (fun q h9 => by show s.heap.size ≤ q; rcases h9 with h9 | h9; (simp only [blk] at h9; omega); omega) (fun H locs hsz9 hk1 hP1 hS => ?_)
  refine W.eq (g2 := F0 m 926 ls [.int (nI kap)]) rfl ?_
  have hMw := wo_kc hMw hk1 (off_in (A := (fun q => blk o 74 q ∨ q = o + 89)) (rng_of wMo_in) (by intro q h1 h2 h3; rcases h3 with h3 | h3; (simp only [blk] at h3; omega); omega))
  obtain ⟨hPC, fo1, hOw, hfo⟩ := hP1
  clear hsz9 hk1
  refine lv_istore (lv' := [(5, .int (nI kap)), (4, .int (nI (6 * i))), (0, .ref b), (1, .ref o), (2, .ref (o + 74)), (3, .ref (o + 89))]) hx hb d_Lw_law_926 hl (by decide) rfl (fun ls hl => ?_)
  refine lv_aload_n hx hb d_Lw_law_928 rfl (lv_at hl 4 rfl) ?_
  refine lv_aload_n hx hb d_Lw_law_929 rfl (lv_at hl 2 rfl) ?_
  refine lv_iload hx hb d_Lw_law_930 (lv_at hl 1 rfl) ?_
  refine lv_iconst (v := 1) hx hb d_Lw_law_932 (by decide) ?_
  refine lv_iadd hx hb d_Lw_law_933 ?_
  refine lv_topi (fun z9 e_z9 => ?_)
  obtain rfl : z9 = nI (6 * i + 1) := by rw [e_z9]; exact (nI_add (6 * i) 1)
  refine ep_sld hx hb hX hbl (show ¬ s.heap.size ≤ b by omega) hS (i := (6 * i + 1)) (by omega) (by omega) d_Lw_law_934 ?_
  refine lv_aload_n hx hb d_Lw_law_935 rfl (lv_at hl 2 rfl) ?_
  refine lv_iload hx hb d_Lw_law_936 (lv_at hl 1 rfl) ?_
  refine lv_iconst (v := 2) hx hb d_Lw_law_938 (by decide) ?_
  refine lv_iadd hx hb d_Lw_law_939 ?_
  refine lv_topi (fun z9 e_z9 => ?_)
  obtain rfl : z9 = nI (6 * i + 2) := by rw [e_z9]; exact (nI_add (6 * i) 2)
  refine ep_sld hx hb hX hbl (show ¬ s.heap.size ≤ b by omega) hS (i := (6 * i + 2)) (by omega) (by omega) d_Lw_law_940 ?_
  refine ep_callH (W.runV (As := [.int (xs (6 * i + 1)), .int (xs (6 * i + 2))]) (rest := []) ⟨hx, hb, hml, hown, hg⟩ hMS (ep_cwV 2 hg tw_880 tw_881 tw_882 tw_12 tk_Md_result rfl rfl (by decide +kernel) ⟨(Nat.le_of_ble_eq_true rfl), (Nat.le_of_ble_eq_true rfl)⟩) ⟨ep_blind, va_recv (q0 := 0) (ci := 9) hK hMw rfl rfl, ep_pre hKn hMw⟩ rfl rfl hl.1 rfl (lv_room (Nat.le_of_ble_eq_true rfl)) d_Lw_law_941 ⟨by show cells + 1 + 0 ≤ 601024; omega, by show slots + 6 + 0 ≤ 7293034; omega⟩) hS (fun q h9 => by show s.heap.size ≤ q; simp only [blk] at h9; omega) (fun H locs hsz9 hk1 hMw hS => ?_)
  refine W.eq (g2 := F0 m 944 ls [.long r1]) rfl ?_
  have hPC := hPC.kept hk1 (fun z h9 => by simp only [blk] at h9; omega)
  have hOw := wo_kc hOw hk1 (off_in (rng_of wOut_in) (by intro q h1 h2 h3; simp only [blk] at h3; omega))
  clear hsz9 hk1
  refine lv_lstore (lv' := [(6, .long r1), (5, .int (nI kap)), (4, .int (nI (6 * i))), (0, .ref b), (1, .ref o), (2, .ref (o + 74)), (3, .ref (o + 89))]) hx hb d_Lw_law_944 hl (by decide) rfl (fun ls hl => ?_)
  refine lv_aload_n hx hb d_Lw_law_946 rfl (lv_at hl 5 rfl) ?_
  refine ep_callP (W.runV (As := []) (rest := []) ⟨hx, hb, hml, hown, hg⟩ (m_Mo_thrown l D cI cJ cZ cO (o + 74) (M1.1) (M1.2.1) (M1.2.2.1) (M1.2.2.2.1) (M1.2.2.2.2.1) (M1.2.2.2.2.2.1) (M1.2.2.2.2.2.2.1) (M1.2.2.2.2.2.2.2.1) (M1.2.2.2.2.2.2.2.2.1) (M1.2.2.2.2.2.2.2.2.2.1) (M1.2.2.2.2.2.2.2.2.2.2.1) (M1.2.2.2.2.2.2.2.2.2.2.2.1) (M1.2.2.2.2.2.2.2.2.2.2.2.2.1) (M1.2.2.2.2.2.2.2.2.2.2.2.2.2.1) (M1.2.2.2.2.2.2.2.2.2.2.2.2.2.2.1) (M1.2.2.2.2.2.2.2.2.2.2.2.2.2.2.2.1) (M1.2.2.2.2.2.2.2.2.2.2.2.2.2.2.2.2) _ rfl) (ep_cwV 0 hg tw_758 tw_759 tw_760 tw_12 tk_Md_thrown rfl rfl (by decide +kernel) ⟨(Nat.le_of_ble_eq_true rfl), (Nat.le_of_ble_eq_true rfl)⟩) ⟨ep_blind, va_recv (q0 := 0) (ci := 9) hK hMw rfl rfl, ep_pre hKn hMw⟩ rfl rfl hl.1 rfl (lv_room (Nat.le_of_ble_eq_true rfl)) d_Lw_law_947 ⟨by show cells + 1 + 0 ≤ 601024; omega, by show slots + 6 + 0 ≤ 7293034; omega⟩) ?_
  refine W.eq (g2 := F0 m 950 ls [.int (M_code M1)]) rfl ?_
  rw [hcode]
  refine lv_iload hx hb d_Lw_law_950 (lv_at hl 1 rfl) ?_
  refine lv_icmp_eq (tgt := 957) hx hb d_Lw_law_952 (by decide) (fun hc => ?_) (fun hc => absurd rfl hc)
  refine lv_iload hx hb d_Lw_law_957 (lv_at hl 1 rfl) ?_
  refine lv_if_ne (tgt := 973) hx hb d_Lw_law_959 (by decide) (fun hc => ?_) (fun hc => ?_)
  · refine lv_goto (tgt := 1347) hx hb d_Lw_law_973 (by decide) ?_
    exact kk H locs ls C1 M1 fo1 (lv_sub hl [2, 3, 4, 5, 6] rfl) ⟨hPC, hMw, hOw⟩ hS hIv
  · have hk0 : kap = 0 := by rcases (show kap = 0 ∨ kap = 1 ∨ kap = 2 ∨ kap = 3 by omega) with h9 | h9 | h9 | h9; exact h9; all_goals (rw [h9] at hc; exact absurd hc (by decide))
    have hv := hfo hk0
    have hrr := hans hk0
    refine lv_aload_n hx hb d_Lw_law_962 rfl (lv_at hl 6 rfl) ?_
    refine lv_iconst (v := 0) hx hb d_Lw_law_963 (by decide) ?_
    refine lv_topi (fun z8 e_z8 => ?_)
    obtain rfl : z8 = nI 0 := by rw [e_z8]; exact nI_0.symm
    refine ep_lald hx hb hK hOw 0 1 rfl rfl (i := 0) (by decide) (by decide) d_Lw_law_964 ?_
    rw [hv, hrr]
    refine lv_lload hx hb d_Lw_law_965 (lv_at hl 0 rfl) ?_
    refine W.lcmp hx hb d_Lw_law_967 ?_
    refine lv_if_eq (tgt := 973) hx hb d_Lw_law_968 (by decide) (fun hc9 => ?_) (fun hc9 => absurd ((lg_cmp_eq _ _).mpr rfl) hc9)
    refine lv_goto (tgt := 1347) hx hb d_Lw_law_973 (by decide) ?_
    exact kk H locs ls C1 M1 fo1 (lv_sub hl [2, 3, 4, 5, 6] rfl) ⟨hPC, hMw, hOw⟩ hS hIv

set_option maxHeartbeats 4000000 in
set_option maxRecDepth 100000 in
theorem lc_works {p : Program} {l : Launch} {e : Env} {s : State} {m : MethodId} {below : List Frame} {meth : Method} {c : Code} {b L : Nat} {xs : Nat → Int32} {D : va_G} {cI cJ cZ cO : ClassId} {o : Nat} {Iv : (Nat → CoT) → MT → Prop} {H : Heap} {locs : List Loc} {cells slots : Nat} {Q : State → Prop} {C : Nat → CoT} {M : MT} {fo : Nat → Int64} {i : Nat} {ls : Array Slot} (hx : p.tables.exec = Jvm.exec) (hb : c.code = code) (hml : c.maxLocals = 8) (hown : s.vm.findClass R_Lw = some m.cls) (hg : ∀ w ∈ gt, w.before #[Value.ref b] s = true) (hKn : Kn D cI cJ cZ cO s) (hNx : Nx s) (hZ : Zs (fun q => s.heap.size ≤ q) s s.heap) (hX : va_X b L xs s s.heap) (hbl : b < s.heap.size) (ho : o = s.heap.size) (hL : L ≤ 3072) (hi : 6 * i + 6 ≤ L)
    (hl : lv_has ls 8 [(4, .int (nI (6 * i))), (0, .ref b), (1, .ref o), (2, .ref (o + 74)), (3, .ref (o + 89))]) (hLI : LI D cI cJ cZ cO o C M fo H) (hS : va_S (fun q => s.heap.size ≤ q) s.heap H locs) (hc9 : cells + 1 ≤ 601024) (hs9 : slots + 6 ≤ 7293034)
    (hop : OP_works l D cI cJ cZ cO o Iv M H (xs (6 * i + 1)) (xs (6 * i + 2)))
    (kk : ∀ (H1 : Heap) (locs1 : List Loc) (ls1 : Array Slot) (C1 : Nat → CoT) (M1 : MT) (fo1 : Nat → Int64), lv_has ls1 8 [(4, .int (nI (6 * i))), (0, .ref b), (1, .ref o), (2, .ref (o + 74)), (3, .ref (o + 89))] → LI D cI cJ cZ cO o C1 M1 fo1 H1 → va_S (fun q => s.heap.size ≤ q) s.heap H1 locs1 → Iv C1 M1 → W p l e room_1 s m #[Value.ref b] below meth c H1 locs1 (cells + 1) (slots + 6) Q (F0 m 1347 ls1 [])) : W p l e room_1 s m #[Value.ref b] below meth c H locs cells slots Q (F0 m 976 ls []) := by
  obtain ⟨kap, r, r1, C1, M1, hkap, hCS, hMS, hcode, hr01, hans, hIv⟩ := hop
  obtain ⟨Pic, hPic, hpE, hM⟩ := hCS
  obtain ⟨hPC, hMw, hOw⟩ := hLI
  have hK := hKn.1
  refine lv_aload_n hx hb d_Lw_law_976 rfl (lv_at hl 2 rfl) ?_
  refine lv_aload_n hx hb d_Lw_law_977 rfl (lv_at hl 1 rfl) ?_
  refine lv_iload hx hb d_Lw_law_978 (lv_at hl 0 rfl) ?_
  refine lv_iconst (v := 1) hx hb d_Lw_law_980 (by decide) ?_
  refine lv_iadd hx hb d_Lw_law_981 ?_
  refine lv_topi (fun z9 e_z9 => ?_)
  obtain rfl : z9 = nI (6 * i + 1) := by rw [e_z9]; exact (nI_add (6 * i) 1)
  refine ep_sld hx hb hX hbl (show ¬ s.heap.size ≤ b by omega) hS (i := (6 * i + 1)) (by omega) (by omega) d_Lw_law_982 ?_
  refine lv_aload_n hx hb d_Lw_law_983 rfl (lv_at hl 1 rfl) ?_
  refine lv_iload hx hb d_Lw_law_984 (lv_at hl 0 rfl) ?_
  refine lv_iconst (v := 2) hx hb d_Lw_law_986 (by decide) ?_
  refine lv_iadd hx hb d_Lw_law_987 ?_
  refine lv_topi (fun z9 e_z9 => ?_)
  obtain rfl : z9 = nI (6 * i + 2) := by rw [e_z9]; exact (nI_add (6 * i) 2)
  refine ep_sld hx hb hX hbl (show ¬ s.heap.size ≤ b by omega) hS (i := (6 * i + 2)) (by omega) (by omega) d_Lw_law_988 ?_
  refine lv_aload_n hx hb d_Lw_law_989 rfl (lv_at hl 4 rfl) ?_
  refine ep_callC (ep_toC (vx_runSW (As := [.ref o, .int (xs (6 * i + 1)), .int (xs (6 * i + 2)), .ref (o + 89)]) (rest := []) ⟨hx, hb, hml, hown, hg⟩ (lw_works l D cI cJ cZ cO o (o + 89) fo (xs (6 * i + 1)) (xs (6 * i + 2)) r hr01 kap (blk o 74) Pic (PC D cI cJ cZ cO o C1) hpE (by simp only [blk]; omega) (fun H9 H8 h9 hP9 => hP9.kept (A := fun q => q = o + 89) h9 (fun z hz => Or.inr (by omega))) hkap hM) (ep_cwX (hh := [(0, 17, 20, 13), (0, 17, 24, 15), (0, 17, 28, 35)]) 4 hg tw_643 tw_644 tw_0 tk_Lw_works rfl rfl (by decide +kernel) ⟨(Nat.le_of_ble_eq_true rfl), (Nat.le_of_ble_eq_true rfl)⟩) ⟨ep_blindL, ep_preL hKn (Zs.kept hZ hS (fun q h9 => by show s.heap.size ≤ q; rcases h9 with h9 | h9; (simp only [blk] at h9; omega); omega)) hNx ⟨hPic, hOw⟩⟩ rfl rfl hl.1 rfl (lv_room (Nat.le_of_ble_eq_true rfl)) d_Lw_law_990 ⟨hc9, hs9⟩)) hS (fun q h9 => by show s.heap.size ≤ q; rcases h9 with h9 | h9; (simp only [blk] at h9; omega); omega) (fun H locs hsz9 hk1 hP1 hS => ?_)
  refine W.eq (g2 := F0 m 993 ls [.int (nI kap)]) rfl ?_
  have hMw := wo_kc hMw hk1 (off_in (A := (fun q => blk o 74 q ∨ q = o + 89)) (rng_of wMo_in) (by intro q h1 h2 h3; rcases h3 with h3 | h3; (simp only [blk] at h3; omega); omega))
  obtain ⟨hPC, fo1, hOw, hfo⟩ := hP1
  clear hsz9 hk1
  refine lv_istore (lv' := [(5, .int (nI kap)), (4, .int (nI (6 * i))), (0, .ref b), (1, .ref o), (2, .ref (o + 74)), (3, .ref (o + 89))]) hx hb d_Lw_law_993 hl (by decide) rfl (fun ls hl => ?_)
  refine lv_aload_n hx hb d_Lw_law_995 rfl (lv_at hl 4 rfl) ?_
  refine lv_aload_n hx hb d_Lw_law_996 rfl (lv_at hl 2 rfl) ?_
  refine lv_iload hx hb d_Lw_law_997 (lv_at hl 1 rfl) ?_
  refine lv_iconst (v := 1) hx hb d_Lw_law_999 (by decide) ?_
  refine lv_iadd hx hb d_Lw_law_1000 ?_
  refine lv_topi (fun z9 e_z9 => ?_)
  obtain rfl : z9 = nI (6 * i + 1) := by rw [e_z9]; exact (nI_add (6 * i) 1)
  refine ep_sld hx hb hX hbl (show ¬ s.heap.size ≤ b by omega) hS (i := (6 * i + 1)) (by omega) (by omega) d_Lw_law_1001 ?_
  refine lv_aload_n hx hb d_Lw_law_1002 rfl (lv_at hl 2 rfl) ?_
  refine lv_iload hx hb d_Lw_law_1003 (lv_at hl 1 rfl) ?_
  refine lv_iconst (v := 2) hx hb d_Lw_law_1005 (by decide) ?_
  refine lv_iadd hx hb d_Lw_law_1006 ?_
  refine lv_topi (fun z9 e_z9 => ?_)
  obtain rfl : z9 = nI (6 * i + 2) := by rw [e_z9]; exact (nI_add (6 * i) 2)
  refine ep_sld hx hb hX hbl (show ¬ s.heap.size ≤ b by omega) hS (i := (6 * i + 2)) (by omega) (by omega) d_Lw_law_1007 ?_
  refine ep_callH (W.runV (As := [.int (xs (6 * i + 1)), .int (xs (6 * i + 2))]) (rest := []) ⟨hx, hb, hml, hown, hg⟩ hMS (ep_cwV 2 hg tw_888 tw_889 tw_890 tw_12 tk_Md_works rfl rfl (by decide +kernel) ⟨(Nat.le_of_ble_eq_true rfl), (Nat.le_of_ble_eq_true rfl)⟩) ⟨ep_blind, va_recv (q0 := 0) (ci := 9) hK hMw rfl rfl, ep_pre hKn hMw⟩ rfl rfl hl.1 rfl (lv_room (Nat.le_of_ble_eq_true rfl)) d_Lw_law_1008 ⟨by show cells + 1 + 0 ≤ 601024; omega, by show slots + 6 + 0 ≤ 7293034; omega⟩) hS (fun q h9 => by show s.heap.size ≤ q; simp only [blk] at h9; omega) (fun H locs hsz9 hk1 hMw hS => ?_)
  refine W.eq (g2 := F0 m 1011 ls [.int r1]) rfl ?_
  have hPC := hPC.kept hk1 (fun z h9 => by simp only [blk] at h9; omega)
  have hOw := wo_kc hOw hk1 (off_in (rng_of wOut_in) (by intro q h1 h2 h3; simp only [blk] at h3; omega))
  clear hsz9 hk1
  refine lv_istore (lv' := [(6, .int r1), (5, .int (nI kap)), (4, .int (nI (6 * i))), (0, .ref b), (1, .ref o), (2, .ref (o + 74)), (3, .ref (o + 89))]) hx hb d_Lw_law_1011 hl (by decide) rfl (fun ls hl => ?_)
  refine lv_aload_n hx hb d_Lw_law_1013 rfl (lv_at hl 5 rfl) ?_
  refine ep_callP (W.runV (As := []) (rest := []) ⟨hx, hb, hml, hown, hg⟩ (m_Mo_thrown l D cI cJ cZ cO (o + 74) (M1.1) (M1.2.1) (M1.2.2.1) (M1.2.2.2.1) (M1.2.2.2.2.1) (M1.2.2.2.2.2.1) (M1.2.2.2.2.2.2.1) (M1.2.2.2.2.2.2.2.1) (M1.2.2.2.2.2.2.2.2.1) (M1.2.2.2.2.2.2.2.2.2.1) (M1.2.2.2.2.2.2.2.2.2.2.1) (M1.2.2.2.2.2.2.2.2.2.2.2.1) (M1.2.2.2.2.2.2.2.2.2.2.2.2.1) (M1.2.2.2.2.2.2.2.2.2.2.2.2.2.1) (M1.2.2.2.2.2.2.2.2.2.2.2.2.2.2.1) (M1.2.2.2.2.2.2.2.2.2.2.2.2.2.2.2.1) (M1.2.2.2.2.2.2.2.2.2.2.2.2.2.2.2.2) _ rfl) (ep_cwV 0 hg tw_758 tw_759 tw_760 tw_12 tk_Md_thrown rfl rfl (by decide +kernel) ⟨(Nat.le_of_ble_eq_true rfl), (Nat.le_of_ble_eq_true rfl)⟩) ⟨ep_blind, va_recv (q0 := 0) (ci := 9) hK hMw rfl rfl, ep_pre hKn hMw⟩ rfl rfl hl.1 rfl (lv_room (Nat.le_of_ble_eq_true rfl)) d_Lw_law_1014 ⟨by show cells + 1 + 0 ≤ 601024; omega, by show slots + 6 + 0 ≤ 7293034; omega⟩) ?_
  refine W.eq (g2 := F0 m 1017 ls [.int (M_code M1)]) rfl ?_
  rw [hcode]
  refine lv_iload hx hb d_Lw_law_1017 (lv_at hl 1 rfl) ?_
  refine lv_icmp_eq (tgt := 1024) hx hb d_Lw_law_1019 (by decide) (fun hc => ?_) (fun hc => absurd rfl hc)
  refine lv_iload hx hb d_Lw_law_1024 (lv_at hl 1 rfl) ?_
  refine lv_if_ne (tgt := 1048) hx hb d_Lw_law_1026 (by decide) (fun hc => ?_) (fun hc => ?_)
  · refine lv_goto (tgt := 1347) hx hb d_Lw_law_1048 (by decide) ?_
    exact kk H locs ls C1 M1 fo1 (lv_sub hl [2, 3, 4, 5, 6] rfl) ⟨hPC, hMw, hOw⟩ hS hIv
  · have hk0 : kap = 0 := by rcases (show kap = 0 ∨ kap = 1 ∨ kap = 2 ∨ kap = 3 by omega) with h9 | h9 | h9 | h9; exact h9; all_goals (rw [h9] at hc; exact absurd hc (by decide))
    have hv := hfo hk0
    have hrr := hans hk0
    refine lv_aload_n hx hb d_Lw_law_1029 rfl (lv_at hl 6 rfl) ?_
    refine lv_iconst (v := 0) hx hb d_Lw_law_1030 (by decide) ?_
    refine lv_topi (fun z8 e_z8 => ?_)
    obtain rfl : z8 = nI 0 := by rw [e_z8]; exact nI_0.symm
    refine ep_lald hx hb hK hOw 0 1 rfl rfl (i := 0) (by decide) (by decide) d_Lw_law_1031 ?_
    rw [hv, hrr]
    refine lv_iload hx hb d_Lw_law_1032 (lv_at hl 0 rfl) ?_
    refine lv_if_eq (tgt := 1041) hx hb d_Lw_law_1034 (by decide) (fun hc8 => ?_) (fun hc8 => ?_)
    · have hv8 : (if r1 = 0 then (0 : Int64) else 1) = 0 := if_pos hc8
      refine lv_lconst (v := 0) hx hb d_Lw_law_1041 (by decide) ?_
      refine W.lcmp hx hb d_Lw_law_1042 ?_
      refine lv_if_eq (tgt := 1048) hx hb d_Lw_law_1043 (by decide) (fun hc9 => ?_) (fun hc9 => absurd ((lg_cmp_eq _ _).mpr hv8) hc9)
      refine lv_goto (tgt := 1347) hx hb d_Lw_law_1048 (by decide) ?_
      exact kk H locs ls C1 M1 fo1 (lv_sub hl [2, 3, 4, 5, 6] rfl) ⟨hPC, hMw, hOw⟩ hS hIv
    · have hv8 : (if r1 = 0 then (0 : Int64) else 1) = 1 := if_neg hc8
      refine lv_lconst (v := 1) hx hb d_Lw_law_1037 (by decide) ?_
      refine lv_goto (tgt := 1042) hx hb d_Lw_law_1038 (by decide) ?_
      refine W.lcmp hx hb d_Lw_law_1042 ?_
      refine lv_if_eq (tgt := 1048) hx hb d_Lw_law_1043 (by decide) (fun hc9 => ?_) (fun hc9 => absurd ((lg_cmp_eq _ _).mpr hv8) hc9)
      refine lv_goto (tgt := 1347) hx hb d_Lw_law_1048 (by decide) ?_
      exact kk H locs ls C1 M1 fo1 (lv_sub hl [2, 3, 4, 5, 6] rfl) ⟨hPC, hMw, hOw⟩ hS hIv

set_option maxHeartbeats 4000000 in
set_option maxRecDepth 100000 in
theorem lc_effective {p : Program} {l : Launch} {e : Env} {s : State} {m : MethodId} {below : List Frame} {meth : Method} {c : Code} {b L : Nat} {xs : Nat → Int32} {D : va_G} {cI cJ cZ cO : ClassId} {o : Nat} {Iv : (Nat → CoT) → MT → Prop} {H : Heap} {locs : List Loc} {cells slots : Nat} {Q : State → Prop} {C : Nat → CoT} {M : MT} {fo : Nat → Int64} {i : Nat} {ls : Array Slot} (hx : p.tables.exec = Jvm.exec) (hb : c.code = code) (hml : c.maxLocals = 8) (hown : s.vm.findClass R_Lw = some m.cls) (hg : ∀ w ∈ gt, w.before #[Value.ref b] s = true) (hKn : Kn D cI cJ cZ cO s) (hNx : Nx s) (hZ : Zs (fun q => s.heap.size ≤ q) s s.heap) (hX : va_X b L xs s s.heap) (hbl : b < s.heap.size) (ho : o = s.heap.size) (hL : L ≤ 3072) (hi : 6 * i + 6 ≤ L)
    (hl : lv_has ls 8 [(4, .int (nI (6 * i))), (0, .ref b), (1, .ref o), (2, .ref (o + 74)), (3, .ref (o + 89))]) (hLI : LI D cI cJ cZ cO o C M fo H) (hS : va_S (fun q => s.heap.size ≤ q) s.heap H locs) (hc9 : cells + 1 ≤ 601024) (hs9 : slots + 6 ≤ 7293034)
    (hop : OP_effective l D cI cJ cZ cO o Iv M H (xs (6 * i + 1)) (xs (6 * i + 2)) (xs (6 * i + 3)))
    (kk : ∀ (H1 : Heap) (locs1 : List Loc) (ls1 : Array Slot) (C1 : Nat → CoT) (M1 : MT) (fo1 : Nat → Int64), lv_has ls1 8 [(4, .int (nI (6 * i))), (0, .ref b), (1, .ref o), (2, .ref (o + 74)), (3, .ref (o + 89))] → LI D cI cJ cZ cO o C1 M1 fo1 H1 → va_S (fun q => s.heap.size ≤ q) s.heap H1 locs1 → Iv C1 M1 → W p l e room_1 s m #[Value.ref b] below meth c H1 locs1 (cells + 1) (slots + 6) Q (F0 m 1347 ls1 [])) : W p l e room_1 s m #[Value.ref b] below meth c H locs cells slots Q (F0 m 1051 ls []) := by
  obtain ⟨kap, r, r1, C1, M1, hkap, hCS, hMS, hcode, hans, hIv⟩ := hop
  obtain ⟨Pic, hPic, hpE, hM⟩ := hCS
  obtain ⟨hPC, hMw, hOw⟩ := hLI
  have hK := hKn.1
  refine lv_aload_n hx hb d_Lw_law_1051 rfl (lv_at hl 2 rfl) ?_
  refine lv_aload_n hx hb d_Lw_law_1052 rfl (lv_at hl 1 rfl) ?_
  refine lv_iload hx hb d_Lw_law_1053 (lv_at hl 0 rfl) ?_
  refine lv_iconst (v := 1) hx hb d_Lw_law_1055 (by decide) ?_
  refine lv_iadd hx hb d_Lw_law_1056 ?_
  refine lv_topi (fun z9 e_z9 => ?_)
  obtain rfl : z9 = nI (6 * i + 1) := by rw [e_z9]; exact (nI_add (6 * i) 1)
  refine ep_sld hx hb hX hbl (show ¬ s.heap.size ≤ b by omega) hS (i := (6 * i + 1)) (by omega) (by omega) d_Lw_law_1057 ?_
  refine lv_aload_n hx hb d_Lw_law_1058 rfl (lv_at hl 1 rfl) ?_
  refine lv_iload hx hb d_Lw_law_1059 (lv_at hl 0 rfl) ?_
  refine lv_iconst (v := 2) hx hb d_Lw_law_1061 (by decide) ?_
  refine lv_iadd hx hb d_Lw_law_1062 ?_
  refine lv_topi (fun z9 e_z9 => ?_)
  obtain rfl : z9 = nI (6 * i + 2) := by rw [e_z9]; exact (nI_add (6 * i) 2)
  refine ep_sld hx hb hX hbl (show ¬ s.heap.size ≤ b by omega) hS (i := (6 * i + 2)) (by omega) (by omega) d_Lw_law_1063 ?_
  refine lv_aload_n hx hb d_Lw_law_1064 rfl (lv_at hl 1 rfl) ?_
  refine lv_iload hx hb d_Lw_law_1065 (lv_at hl 0 rfl) ?_
  refine lv_iconst (v := 3) hx hb d_Lw_law_1067 (by decide) ?_
  refine lv_iadd hx hb d_Lw_law_1068 ?_
  refine lv_topi (fun z9 e_z9 => ?_)
  obtain rfl : z9 = nI (6 * i + 3) := by rw [e_z9]; exact (nI_add (6 * i) 3)
  refine ep_sld hx hb hX hbl (show ¬ s.heap.size ≤ b by omega) hS (i := (6 * i + 3)) (by omega) (by omega) d_Lw_law_1069 ?_
  refine lv_aload_n hx hb d_Lw_law_1070 rfl (lv_at hl 4 rfl) ?_
  refine ep_callC (ep_toC (vx_runSW (As := [.ref o, .int (xs (6 * i + 1)), .int (xs (6 * i + 2)), .int (xs (6 * i + 3)), .ref (o + 89)]) (rest := []) ⟨hx, hb, hml, hown, hg⟩ (lw_effective l D cI cJ cZ cO o (o + 89) fo (xs (6 * i + 1)) (xs (6 * i + 2)) (xs (6 * i + 3)) r kap (blk o 74) Pic (PC D cI cJ cZ cO o C1) hpE (by simp only [blk]; omega) (fun H9 H8 h9 hP9 => hP9.kept (A := fun q => q = o + 89) h9 (fun z hz => Or.inr (by omega))) hkap hM) (ep_cwX (hh := [(0, 12, 15, 13), (0, 12, 19, 15)]) 5 hg tw_650 tw_651 tw_0 tk_Lw_effective rfl rfl (by decide +kernel) ⟨(Nat.le_of_ble_eq_true rfl), (Nat.le_of_ble_eq_true rfl)⟩) ⟨ep_blindL, ep_preL hKn (Zs.kept hZ hS (fun q h9 => by show s.heap.size ≤ q; rcases h9 with h9 | h9; (simp only [blk] at h9; omega); omega)) hNx ⟨hPic, hOw⟩⟩ rfl rfl hl.1 rfl (lv_room (Nat.le_of_ble_eq_true rfl)) d_Lw_law_1071 ⟨hc9, hs9⟩)) hS (fun q h9 => by show s.heap.size ≤ q; rcases h9 with h9 | h9; (simp only [blk] at h9; omega); omega) (fun H locs hsz9 hk1 hP1 hS => ?_)
  refine W.eq (g2 := F0 m 1074 ls [.int (nI kap)]) rfl ?_
  have hMw := wo_kc hMw hk1 (off_in (A := (fun q => blk o 74 q ∨ q = o + 89)) (rng_of wMo_in) (by intro q h1 h2 h3; rcases h3 with h3 | h3; (simp only [blk] at h3; omega); omega))
  obtain ⟨hPC, fo1, hOw, hfo⟩ := hP1
  clear hsz9 hk1
  refine lv_istore (lv' := [(5, .int (nI kap)), (4, .int (nI (6 * i))), (0, .ref b), (1, .ref o), (2, .ref (o + 74)), (3, .ref (o + 89))]) hx hb d_Lw_law_1074 hl (by decide) rfl (fun ls hl => ?_)
  refine lv_aload_n hx hb d_Lw_law_1076 rfl (lv_at hl 4 rfl) ?_
  refine lv_aload_n hx hb d_Lw_law_1077 rfl (lv_at hl 2 rfl) ?_
  refine lv_iload hx hb d_Lw_law_1078 (lv_at hl 1 rfl) ?_
  refine lv_iconst (v := 1) hx hb d_Lw_law_1080 (by decide) ?_
  refine lv_iadd hx hb d_Lw_law_1081 ?_
  refine lv_topi (fun z9 e_z9 => ?_)
  obtain rfl : z9 = nI (6 * i + 1) := by rw [e_z9]; exact (nI_add (6 * i) 1)
  refine ep_sld hx hb hX hbl (show ¬ s.heap.size ≤ b by omega) hS (i := (6 * i + 1)) (by omega) (by omega) d_Lw_law_1082 ?_
  refine lv_aload_n hx hb d_Lw_law_1083 rfl (lv_at hl 2 rfl) ?_
  refine lv_iload hx hb d_Lw_law_1084 (lv_at hl 1 rfl) ?_
  refine lv_iconst (v := 2) hx hb d_Lw_law_1086 (by decide) ?_
  refine lv_iadd hx hb d_Lw_law_1087 ?_
  refine lv_topi (fun z9 e_z9 => ?_)
  obtain rfl : z9 = nI (6 * i + 2) := by rw [e_z9]; exact (nI_add (6 * i) 2)
  refine ep_sld hx hb hX hbl (show ¬ s.heap.size ≤ b by omega) hS (i := (6 * i + 2)) (by omega) (by omega) d_Lw_law_1088 ?_
  refine lv_aload_n hx hb d_Lw_law_1089 rfl (lv_at hl 2 rfl) ?_
  refine lv_iload hx hb d_Lw_law_1090 (lv_at hl 1 rfl) ?_
  refine lv_iconst (v := 3) hx hb d_Lw_law_1092 (by decide) ?_
  refine lv_iadd hx hb d_Lw_law_1093 ?_
  refine lv_topi (fun z9 e_z9 => ?_)
  obtain rfl : z9 = nI (6 * i + 3) := by rw [e_z9]; exact (nI_add (6 * i) 3)
  refine ep_sld hx hb hX hbl (show ¬ s.heap.size ≤ b by omega) hS (i := (6 * i + 3)) (by omega) (by omega) d_Lw_law_1094 ?_
  refine ep_callH (W.runV (As := [.int (xs (6 * i + 1)), .int (xs (6 * i + 2)), .int (xs (6 * i + 3))]) (rest := []) ⟨hx, hb, hml, hown, hg⟩ hMS (ep_cwV 3 hg tw_892 tw_893 tw_894 tw_12 tk_Md_effective rfl rfl (by decide +kernel) ⟨(Nat.le_of_ble_eq_true rfl), (Nat.le_of_ble_eq_true rfl)⟩) ⟨ep_blind, va_recv (q0 := 0) (ci := 9) hK hMw rfl rfl, ep_pre hKn hMw⟩ rfl rfl hl.1 rfl (lv_room (Nat.le_of_ble_eq_true rfl)) d_Lw_law_1095 ⟨by show cells + 1 + 0 ≤ 601024; omega, by show slots + 6 + 0 ≤ 7293034; omega⟩) hS (fun q h9 => by show s.heap.size ≤ q; simp only [blk] at h9; omega) (fun H locs hsz9 hk1 hMw hS => ?_)
  refine W.eq (g2 := F0 m 1098 ls [.int r1]) rfl ?_
  have hPC := hPC.kept hk1 (fun z h9 => by simp only [blk] at h9; omega)
  have hOw := wo_kc hOw hk1 (off_in (rng_of wOut_in) (by intro q h1 h2 h3; simp only [blk] at h3; omega))
  clear hsz9 hk1
  refine lv_istore (lv' := [(6, .int r1), (5, .int (nI kap)), (4, .int (nI (6 * i))), (0, .ref b), (1, .ref o), (2, .ref (o + 74)), (3, .ref (o + 89))]) hx hb d_Lw_law_1098 hl (by decide) rfl (fun ls hl => ?_)
  refine lv_aload_n hx hb d_Lw_law_1100 rfl (lv_at hl 5 rfl) ?_
  refine ep_callP (W.runV (As := []) (rest := []) ⟨hx, hb, hml, hown, hg⟩ (m_Mo_thrown l D cI cJ cZ cO (o + 74) (M1.1) (M1.2.1) (M1.2.2.1) (M1.2.2.2.1) (M1.2.2.2.2.1) (M1.2.2.2.2.2.1) (M1.2.2.2.2.2.2.1) (M1.2.2.2.2.2.2.2.1) (M1.2.2.2.2.2.2.2.2.1) (M1.2.2.2.2.2.2.2.2.2.1) (M1.2.2.2.2.2.2.2.2.2.2.1) (M1.2.2.2.2.2.2.2.2.2.2.2.1) (M1.2.2.2.2.2.2.2.2.2.2.2.2.1) (M1.2.2.2.2.2.2.2.2.2.2.2.2.2.1) (M1.2.2.2.2.2.2.2.2.2.2.2.2.2.2.1) (M1.2.2.2.2.2.2.2.2.2.2.2.2.2.2.2.1) (M1.2.2.2.2.2.2.2.2.2.2.2.2.2.2.2.2) _ rfl) (ep_cwV 0 hg tw_758 tw_759 tw_760 tw_12 tk_Md_thrown rfl rfl (by decide +kernel) ⟨(Nat.le_of_ble_eq_true rfl), (Nat.le_of_ble_eq_true rfl)⟩) ⟨ep_blind, va_recv (q0 := 0) (ci := 9) hK hMw rfl rfl, ep_pre hKn hMw⟩ rfl rfl hl.1 rfl (lv_room (Nat.le_of_ble_eq_true rfl)) d_Lw_law_1101 ⟨by show cells + 1 + 0 ≤ 601024; omega, by show slots + 6 + 0 ≤ 7293034; omega⟩) ?_
  refine W.eq (g2 := F0 m 1104 ls [.int (M_code M1)]) rfl ?_
  rw [hcode]
  refine lv_iload hx hb d_Lw_law_1104 (lv_at hl 1 rfl) ?_
  refine lv_icmp_eq (tgt := 1111) hx hb d_Lw_law_1106 (by decide) (fun hc => ?_) (fun hc => absurd rfl hc)
  refine lv_iload hx hb d_Lw_law_1111 (lv_at hl 1 rfl) ?_
  refine lv_if_ne (tgt := 1128) hx hb d_Lw_law_1113 (by decide) (fun hc => ?_) (fun hc => ?_)
  · refine lv_goto (tgt := 1347) hx hb d_Lw_law_1128 (by decide) ?_
    exact kk H locs ls C1 M1 fo1 (lv_sub hl [2, 3, 4, 5, 6] rfl) ⟨hPC, hMw, hOw⟩ hS hIv
  · have hk0 : kap = 0 := by rcases (show kap = 0 ∨ kap = 1 ∨ kap = 2 ∨ kap = 3 by omega) with h9 | h9 | h9 | h9; exact h9; all_goals (rw [h9] at hc; exact absurd hc (by decide))
    have hv := hfo hk0
    have hrr := hans hk0
    refine lv_aload_n hx hb d_Lw_law_1116 rfl (lv_at hl 6 rfl) ?_
    refine lv_iconst (v := 0) hx hb d_Lw_law_1117 (by decide) ?_
    refine lv_topi (fun z8 e_z8 => ?_)
    obtain rfl : z8 = nI 0 := by rw [e_z8]; exact nI_0.symm
    refine ep_lald hx hb hK hOw 0 1 rfl rfl (i := 0) (by decide) (by decide) d_Lw_law_1118 ?_
    rw [hv, hrr]
    refine lv_iload hx hb d_Lw_law_1119 (lv_at hl 0 rfl) ?_
    refine lv_i2l hx hb d_Lw_law_1121 rfl ?_
    refine W.lcmp hx hb d_Lw_law_1122 ?_
    refine lv_if_eq (tgt := 1128) hx hb d_Lw_law_1123 (by decide) (fun hc9 => ?_) (fun hc9 => absurd ((lg_cmp_eq _ _).mpr rfl) hc9)
    refine lv_goto (tgt := 1347) hx hb d_Lw_law_1128 (by decide) ?_
    exact kk H locs ls C1 M1 fo1 (lv_sub hl [2, 3, 4, 5, 6] rfl) ⟨hPC, hMw, hOw⟩ hS hIv

set_option maxHeartbeats 4000000 in
set_option maxRecDepth 100000 in
theorem lc_firstChange {p : Program} {l : Launch} {e : Env} {s : State} {m : MethodId} {below : List Frame} {meth : Method} {c : Code} {b L : Nat} {xs : Nat → Int32} {D : va_G} {cI cJ cZ cO : ClassId} {o : Nat} {Iv : (Nat → CoT) → MT → Prop} {H : Heap} {locs : List Loc} {cells slots : Nat} {Q : State → Prop} {C : Nat → CoT} {M : MT} {fo : Nat → Int64} {i : Nat} {ls : Array Slot} (hx : p.tables.exec = Jvm.exec) (hb : c.code = code) (hml : c.maxLocals = 8) (hown : s.vm.findClass R_Lw = some m.cls) (hg : ∀ w ∈ gt, w.before #[Value.ref b] s = true) (hKn : Kn D cI cJ cZ cO s) (hNx : Nx s) (hZ : Zs (fun q => s.heap.size ≤ q) s s.heap) (hX : va_X b L xs s s.heap) (hbl : b < s.heap.size) (ho : o = s.heap.size) (hL : L ≤ 3072) (hi : 6 * i + 6 ≤ L)
    (hl : lv_has ls 8 [(4, .int (nI (6 * i))), (0, .ref b), (1, .ref o), (2, .ref (o + 74)), (3, .ref (o + 89))]) (hLI : LI D cI cJ cZ cO o C M fo H) (hS : va_S (fun q => s.heap.size ≤ q) s.heap H locs) (hc9 : cells + 1 ≤ 601024) (hs9 : slots + 6 ≤ 7293034)
    (hop : OP_firstChange l D cI cJ cZ cO o Iv M H (xs (6 * i + 1)) (xs (6 * i + 2)) (xs (6 * i + 3)))
    (kk : ∀ (H1 : Heap) (locs1 : List Loc) (ls1 : Array Slot) (C1 : Nat → CoT) (M1 : MT) (fo1 : Nat → Int64), lv_has ls1 8 [(4, .int (nI (6 * i))), (0, .ref b), (1, .ref o), (2, .ref (o + 74)), (3, .ref (o + 89))] → LI D cI cJ cZ cO o C1 M1 fo1 H1 → va_S (fun q => s.heap.size ≤ q) s.heap H1 locs1 → Iv C1 M1 → W p l e room_1 s m #[Value.ref b] below meth c H1 locs1 (cells + 1) (slots + 6) Q (F0 m 1347 ls1 [])) : W p l e room_1 s m #[Value.ref b] below meth c H locs cells slots Q (F0 m 1131 ls []) := by
  obtain ⟨kap, r, r1, C1, M1, hkap, hCS, hMS, hcode, hans, hIv⟩ := hop
  obtain ⟨Pic, hPic, hpE, hM⟩ := hCS
  obtain ⟨hPC, hMw, hOw⟩ := hLI
  have hK := hKn.1
  refine lv_aload_n hx hb d_Lw_law_1131 rfl (lv_at hl 2 rfl) ?_
  refine lv_aload_n hx hb d_Lw_law_1132 rfl (lv_at hl 1 rfl) ?_
  refine lv_iload hx hb d_Lw_law_1133 (lv_at hl 0 rfl) ?_
  refine lv_iconst (v := 1) hx hb d_Lw_law_1135 (by decide) ?_
  refine lv_iadd hx hb d_Lw_law_1136 ?_
  refine lv_topi (fun z9 e_z9 => ?_)
  obtain rfl : z9 = nI (6 * i + 1) := by rw [e_z9]; exact (nI_add (6 * i) 1)
  refine ep_sld hx hb hX hbl (show ¬ s.heap.size ≤ b by omega) hS (i := (6 * i + 1)) (by omega) (by omega) d_Lw_law_1137 ?_
  refine lv_aload_n hx hb d_Lw_law_1138 rfl (lv_at hl 1 rfl) ?_
  refine lv_iload hx hb d_Lw_law_1139 (lv_at hl 0 rfl) ?_
  refine lv_iconst (v := 2) hx hb d_Lw_law_1141 (by decide) ?_
  refine lv_iadd hx hb d_Lw_law_1142 ?_
  refine lv_topi (fun z9 e_z9 => ?_)
  obtain rfl : z9 = nI (6 * i + 2) := by rw [e_z9]; exact (nI_add (6 * i) 2)
  refine ep_sld hx hb hX hbl (show ¬ s.heap.size ≤ b by omega) hS (i := (6 * i + 2)) (by omega) (by omega) d_Lw_law_1143 ?_
  refine lv_aload_n hx hb d_Lw_law_1144 rfl (lv_at hl 1 rfl) ?_
  refine lv_iload hx hb d_Lw_law_1145 (lv_at hl 0 rfl) ?_
  refine lv_iconst (v := 3) hx hb d_Lw_law_1147 (by decide) ?_
  refine lv_iadd hx hb d_Lw_law_1148 ?_
  refine lv_topi (fun z9 e_z9 => ?_)
  obtain rfl : z9 = nI (6 * i + 3) := by rw [e_z9]; exact (nI_add (6 * i) 3)
  refine ep_sld hx hb hX hbl (show ¬ s.heap.size ≤ b by omega) hS (i := (6 * i + 3)) (by omega) (by omega) d_Lw_law_1149 ?_
  refine lv_aload_n hx hb d_Lw_law_1150 rfl (lv_at hl 4 rfl) ?_
  refine ep_callC (ep_toC (vx_runSW (As := [.ref o, .int (xs (6 * i + 1)), .int (xs (6 * i + 2)), .int (xs (6 * i + 3)), .ref (o + 89)]) (rest := []) ⟨hx, hb, hml, hown, hg⟩ (lw_firstChange l D cI cJ cZ cO o (o + 89) fo (xs (6 * i + 1)) (xs (6 * i + 2)) (xs (6 * i + 3)) r kap (blk o 74) Pic (PC D cI cJ cZ cO o C1) hpE (by simp only [blk]; omega) (fun H9 H8 h9 hP9 => hP9.kept (A := fun q => q = o + 89) h9 (fun z hz => Or.inr (by omega))) hkap hM) (ep_cwX (hh := [(0, 12, 15, 13), (0, 12, 19, 15)]) 5 hg tw_661 tw_662 tw_0 tk_Lw_firstChange rfl rfl (by decide +kernel) ⟨(Nat.le_of_ble_eq_true rfl), (Nat.le_of_ble_eq_true rfl)⟩) ⟨ep_blindL, ep_preL hKn (Zs.kept hZ hS (fun q h9 => by show s.heap.size ≤ q; rcases h9 with h9 | h9; (simp only [blk] at h9; omega); omega)) hNx ⟨hPic, hOw⟩⟩ rfl rfl hl.1 rfl (lv_room (Nat.le_of_ble_eq_true rfl)) d_Lw_law_1151 ⟨hc9, hs9⟩)) hS (fun q h9 => by show s.heap.size ≤ q; rcases h9 with h9 | h9; (simp only [blk] at h9; omega); omega) (fun H locs hsz9 hk1 hP1 hS => ?_)
  refine W.eq (g2 := F0 m 1154 ls [.int (nI kap)]) rfl ?_
  have hMw := wo_kc hMw hk1 (off_in (A := (fun q => blk o 74 q ∨ q = o + 89)) (rng_of wMo_in) (by intro q h1 h2 h3; rcases h3 with h3 | h3; (simp only [blk] at h3; omega); omega))
  obtain ⟨hPC, fo1, hOw, hfo⟩ := hP1
  clear hsz9 hk1
  refine lv_istore (lv' := [(5, .int (nI kap)), (4, .int (nI (6 * i))), (0, .ref b), (1, .ref o), (2, .ref (o + 74)), (3, .ref (o + 89))]) hx hb d_Lw_law_1154 hl (by decide) rfl (fun ls hl => ?_)
  refine lv_aload_n hx hb d_Lw_law_1156 rfl (lv_at hl 4 rfl) ?_
  refine lv_aload_n hx hb d_Lw_law_1157 rfl (lv_at hl 2 rfl) ?_
  refine lv_iload hx hb d_Lw_law_1158 (lv_at hl 1 rfl) ?_
  refine lv_iconst (v := 1) hx hb d_Lw_law_1160 (by decide) ?_
  refine lv_iadd hx hb d_Lw_law_1161 ?_
  refine lv_topi (fun z9 e_z9 => ?_)
  obtain rfl : z9 = nI (6 * i + 1) := by rw [e_z9]; exact (nI_add (6 * i) 1)
  refine ep_sld hx hb hX hbl (show ¬ s.heap.size ≤ b by omega) hS (i := (6 * i + 1)) (by omega) (by omega) d_Lw_law_1162 ?_
  refine lv_aload_n hx hb d_Lw_law_1163 rfl (lv_at hl 2 rfl) ?_
  refine lv_iload hx hb d_Lw_law_1164 (lv_at hl 1 rfl) ?_
  refine lv_iconst (v := 2) hx hb d_Lw_law_1166 (by decide) ?_
  refine lv_iadd hx hb d_Lw_law_1167 ?_
  refine lv_topi (fun z9 e_z9 => ?_)
  obtain rfl : z9 = nI (6 * i + 2) := by rw [e_z9]; exact (nI_add (6 * i) 2)
  refine ep_sld hx hb hX hbl (show ¬ s.heap.size ≤ b by omega) hS (i := (6 * i + 2)) (by omega) (by omega) d_Lw_law_1168 ?_
  refine lv_aload_n hx hb d_Lw_law_1169 rfl (lv_at hl 2 rfl) ?_
  refine lv_iload hx hb d_Lw_law_1170 (lv_at hl 1 rfl) ?_
  refine lv_iconst (v := 3) hx hb d_Lw_law_1172 (by decide) ?_
  refine lv_iadd hx hb d_Lw_law_1173 ?_
  refine lv_topi (fun z9 e_z9 => ?_)
  obtain rfl : z9 = nI (6 * i + 3) := by rw [e_z9]; exact (nI_add (6 * i) 3)
  refine ep_sld hx hb hX hbl (show ¬ s.heap.size ≤ b by omega) hS (i := (6 * i + 3)) (by omega) (by omega) d_Lw_law_1174 ?_
  refine ep_callH (W.runV (As := [.int (xs (6 * i + 1)), .int (xs (6 * i + 2)), .int (xs (6 * i + 3))]) (rest := []) ⟨hx, hb, hml, hown, hg⟩ hMS (ep_cwV 3 hg tw_900 tw_901 tw_902 tw_12 tk_Md_firstChange rfl rfl (by decide +kernel) ⟨(Nat.le_of_ble_eq_true rfl), (Nat.le_of_ble_eq_true rfl)⟩) ⟨ep_blind, va_recv (q0 := 0) (ci := 9) hK hMw rfl rfl, ep_pre hKn hMw⟩ rfl rfl hl.1 rfl (lv_room (Nat.le_of_ble_eq_true rfl)) d_Lw_law_1175 ⟨by show cells + 1 + 0 ≤ 601024; omega, by show slots + 6 + 0 ≤ 7293034; omega⟩) hS (fun q h9 => by show s.heap.size ≤ q; simp only [blk] at h9; omega) (fun H locs hsz9 hk1 hMw hS => ?_)
  refine W.eq (g2 := F0 m 1178 ls [.int r1]) rfl ?_
  have hPC := hPC.kept hk1 (fun z h9 => by simp only [blk] at h9; omega)
  have hOw := wo_kc hOw hk1 (off_in (rng_of wOut_in) (by intro q h1 h2 h3; simp only [blk] at h3; omega))
  clear hsz9 hk1
  refine lv_istore (lv' := [(6, .int r1), (5, .int (nI kap)), (4, .int (nI (6 * i))), (0, .ref b), (1, .ref o), (2, .ref (o + 74)), (3, .ref (o + 89))]) hx hb d_Lw_law_1178 hl (by decide) rfl (fun ls hl => ?_)
  refine lv_aload_n hx hb d_Lw_law_1180 rfl (lv_at hl 5 rfl) ?_
  refine ep_callP (W.runV (As := []) (rest := []) ⟨hx, hb, hml, hown, hg⟩ (m_Mo_thrown l D cI cJ cZ cO (o + 74) (M1.1) (M1.2.1) (M1.2.2.1) (M1.2.2.2.1) (M1.2.2.2.2.1) (M1.2.2.2.2.2.1) (M1.2.2.2.2.2.2.1) (M1.2.2.2.2.2.2.2.1) (M1.2.2.2.2.2.2.2.2.1) (M1.2.2.2.2.2.2.2.2.2.1) (M1.2.2.2.2.2.2.2.2.2.2.1) (M1.2.2.2.2.2.2.2.2.2.2.2.1) (M1.2.2.2.2.2.2.2.2.2.2.2.2.1) (M1.2.2.2.2.2.2.2.2.2.2.2.2.2.1) (M1.2.2.2.2.2.2.2.2.2.2.2.2.2.2.1) (M1.2.2.2.2.2.2.2.2.2.2.2.2.2.2.2.1) (M1.2.2.2.2.2.2.2.2.2.2.2.2.2.2.2.2) _ rfl) (ep_cwV 0 hg tw_758 tw_759 tw_760 tw_12 tk_Md_thrown rfl rfl (by decide +kernel) ⟨(Nat.le_of_ble_eq_true rfl), (Nat.le_of_ble_eq_true rfl)⟩) ⟨ep_blind, va_recv (q0 := 0) (ci := 9) hK hMw rfl rfl, ep_pre hKn hMw⟩ rfl rfl hl.1 rfl (lv_room (Nat.le_of_ble_eq_true rfl)) d_Lw_law_1181 ⟨by show cells + 1 + 0 ≤ 601024; omega, by show slots + 6 + 0 ≤ 7293034; omega⟩) ?_
  refine W.eq (g2 := F0 m 1184 ls [.int (M_code M1)]) rfl ?_
  rw [hcode]
  refine lv_iload hx hb d_Lw_law_1184 (lv_at hl 1 rfl) ?_
  refine lv_icmp_eq (tgt := 1191) hx hb d_Lw_law_1186 (by decide) (fun hc => ?_) (fun hc => absurd rfl hc)
  refine lv_iload hx hb d_Lw_law_1191 (lv_at hl 1 rfl) ?_
  refine lv_if_ne (tgt := 1208) hx hb d_Lw_law_1193 (by decide) (fun hc => ?_) (fun hc => ?_)
  · refine lv_goto (tgt := 1347) hx hb d_Lw_law_1208 (by decide) ?_
    exact kk H locs ls C1 M1 fo1 (lv_sub hl [2, 3, 4, 5, 6] rfl) ⟨hPC, hMw, hOw⟩ hS hIv
  · have hk0 : kap = 0 := by rcases (show kap = 0 ∨ kap = 1 ∨ kap = 2 ∨ kap = 3 by omega) with h9 | h9 | h9 | h9; exact h9; all_goals (rw [h9] at hc; exact absurd hc (by decide))
    have hv := hfo hk0
    have hrr := hans hk0
    refine lv_aload_n hx hb d_Lw_law_1196 rfl (lv_at hl 6 rfl) ?_
    refine lv_iconst (v := 0) hx hb d_Lw_law_1197 (by decide) ?_
    refine lv_topi (fun z8 e_z8 => ?_)
    obtain rfl : z8 = nI 0 := by rw [e_z8]; exact nI_0.symm
    refine ep_lald hx hb hK hOw 0 1 rfl rfl (i := 0) (by decide) (by decide) d_Lw_law_1198 ?_
    rw [hv, hrr]
    refine lv_iload hx hb d_Lw_law_1199 (lv_at hl 0 rfl) ?_
    refine lv_i2l hx hb d_Lw_law_1201 rfl ?_
    refine W.lcmp hx hb d_Lw_law_1202 ?_
    refine lv_if_eq (tgt := 1208) hx hb d_Lw_law_1203 (by decide) (fun hc9 => ?_) (fun hc9 => absurd ((lg_cmp_eq _ _).mpr rfl) hc9)
    refine lv_goto (tgt := 1347) hx hb d_Lw_law_1208 (by decide) ?_
    exact kk H locs ls C1 M1 fo1 (lv_sub hl [2, 3, 4, 5, 6] rfl) ⟨hPC, hMw, hOw⟩ hS hIv

set_option maxHeartbeats 4000000 in
set_option maxRecDepth 100000 in
theorem lc_operations {p : Program} {l : Launch} {e : Env} {s : State} {m : MethodId} {below : List Frame} {meth : Method} {c : Code} {b L : Nat} {xs : Nat → Int32} {D : va_G} {cI cJ cZ cO : ClassId} {o : Nat} {Iv : (Nat → CoT) → MT → Prop} {H : Heap} {locs : List Loc} {cells slots : Nat} {Q : State → Prop} {C : Nat → CoT} {M : MT} {fo : Nat → Int64} {i : Nat} {ls : Array Slot} (hx : p.tables.exec = Jvm.exec) (hb : c.code = code) (hml : c.maxLocals = 8) (hown : s.vm.findClass R_Lw = some m.cls) (hg : ∀ w ∈ gt, w.before #[Value.ref b] s = true) (hKn : Kn D cI cJ cZ cO s) (hNx : Nx s) (hZ : Zs (fun q => s.heap.size ≤ q) s s.heap) (hX : va_X b L xs s s.heap) (hbl : b < s.heap.size) (ho : o = s.heap.size) (hL : L ≤ 3072) (hi : 6 * i + 6 ≤ L)
    (hl : lv_has ls 8 [(4, .int (nI (6 * i))), (0, .ref b), (1, .ref o), (2, .ref (o + 74)), (3, .ref (o + 89))]) (hLI : LI D cI cJ cZ cO o C M fo H) (hS : va_S (fun q => s.heap.size ≤ q) s.heap H locs) (hc9 : cells + 1 ≤ 601024) (hs9 : slots + 6 ≤ 7293034)
    (hop : OP_operations l D cI cJ cZ cO o Iv M H (xs (6 * i + 1)))
    (kk : ∀ (H1 : Heap) (locs1 : List Loc) (ls1 : Array Slot) (C1 : Nat → CoT) (M1 : MT) (fo1 : Nat → Int64), lv_has ls1 8 [(4, .int (nI (6 * i))), (0, .ref b), (1, .ref o), (2, .ref (o + 74)), (3, .ref (o + 89))] → LI D cI cJ cZ cO o C1 M1 fo1 H1 → va_S (fun q => s.heap.size ≤ q) s.heap H1 locs1 → Iv C1 M1 → W p l e room_1 s m #[Value.ref b] below meth c H1 locs1 (cells + 1) (slots + 6) Q (F0 m 1347 ls1 [])) : W p l e room_1 s m #[Value.ref b] below meth c H locs cells slots Q (F0 m 1211 ls []) := by
  obtain ⟨kap, r, r1, C1, M1, hkap, hCS, hMS, hcode, hans, hIv⟩ := hop
  obtain ⟨Pic, hPic, hpE, hM⟩ := hCS
  obtain ⟨hPC, hMw, hOw⟩ := hLI
  have hK := hKn.1
  refine lv_aload_n hx hb d_Lw_law_1211 rfl (lv_at hl 2 rfl) ?_
  refine lv_aload_n hx hb d_Lw_law_1212 rfl (lv_at hl 1 rfl) ?_
  refine lv_iload hx hb d_Lw_law_1213 (lv_at hl 0 rfl) ?_
  refine lv_iconst (v := 1) hx hb d_Lw_law_1215 (by decide) ?_
  refine lv_iadd hx hb d_Lw_law_1216 ?_
  refine lv_topi (fun z9 e_z9 => ?_)
  obtain rfl : z9 = nI (6 * i + 1) := by rw [e_z9]; exact (nI_add (6 * i) 1)
  refine ep_sld hx hb hX hbl (show ¬ s.heap.size ≤ b by omega) hS (i := (6 * i + 1)) (by omega) (by omega) d_Lw_law_1217 ?_
  refine lv_aload_n hx hb d_Lw_law_1218 rfl (lv_at hl 4 rfl) ?_
  refine ep_callC (ep_toC (vx_runSW (As := [.ref o, .int (xs (6 * i + 1)), .ref (o + 89)]) (rest := []) ⟨hx, hb, hml, hown, hg⟩ (lw_operations l D cI cJ cZ cO o (o + 89) fo (xs (6 * i + 1)) r kap (blk o 74) Pic (PC D cI cJ cZ cO o C1) hpE (by simp only [blk]; omega) (fun H9 H8 h9 hP9 => hP9.kept (A := fun q => q = o + 89) h9 (fun z hz => Or.inr (by omega))) hkap hM) (ep_cwX (hh := [(0, 9, 12, 13), (0, 9, 15, 15)]) 3 hg tw_684 tw_685 tw_0 tk_Lw_operations rfl rfl (by decide +kernel) ⟨(Nat.le_of_ble_eq_true rfl), (Nat.le_of_ble_eq_true rfl)⟩) ⟨ep_blindL, ep_preL hKn (Zs.kept hZ hS (fun q h9 => by show s.heap.size ≤ q; rcases h9 with h9 | h9; (simp only [blk] at h9; omega); omega)) hNx ⟨hPic, hOw⟩⟩ rfl rfl hl.1 rfl (lv_room (Nat.le_of_ble_eq_true rfl)) d_Lw_law_1219 ⟨hc9, hs9⟩)) hS (fun q h9 => by show s.heap.size ≤ q; rcases h9 with h9 | h9; (simp only [blk] at h9; omega); omega) (fun H locs hsz9 hk1 hP1 hS => ?_)
  refine W.eq (g2 := F0 m 1222 ls [.int (nI kap)]) rfl ?_
  have hMw := wo_kc hMw hk1 (off_in (A := (fun q => blk o 74 q ∨ q = o + 89)) (rng_of wMo_in) (by intro q h1 h2 h3; rcases h3 with h3 | h3; (simp only [blk] at h3; omega); omega))
  obtain ⟨hPC, fo1, hOw, hfo⟩ := hP1
  clear hsz9 hk1
  refine lv_istore (lv' := [(5, .int (nI kap)), (4, .int (nI (6 * i))), (0, .ref b), (1, .ref o), (2, .ref (o + 74)), (3, .ref (o + 89))]) hx hb d_Lw_law_1222 hl (by decide) rfl (fun ls hl => ?_)
  refine lv_aload_n hx hb d_Lw_law_1224 rfl (lv_at hl 4 rfl) ?_
  refine lv_aload_n hx hb d_Lw_law_1225 rfl (lv_at hl 2 rfl) ?_
  refine lv_iload hx hb d_Lw_law_1226 (lv_at hl 1 rfl) ?_
  refine lv_iconst (v := 1) hx hb d_Lw_law_1228 (by decide) ?_
  refine lv_iadd hx hb d_Lw_law_1229 ?_
  refine lv_topi (fun z9 e_z9 => ?_)
  obtain rfl : z9 = nI (6 * i + 1) := by rw [e_z9]; exact (nI_add (6 * i) 1)
  refine ep_sld hx hb hX hbl (show ¬ s.heap.size ≤ b by omega) hS (i := (6 * i + 1)) (by omega) (by omega) d_Lw_law_1230 ?_
  refine ep_callH (W.runV (As := [.int (xs (6 * i + 1))]) (rest := []) ⟨hx, hb, hml, hown, hg⟩ hMS (ep_cwV 1 hg tw_904 tw_905 tw_906 tw_12 tk_Md_operations rfl rfl (by decide +kernel) ⟨(Nat.le_of_ble_eq_true rfl), (Nat.le_of_ble_eq_true rfl)⟩) ⟨ep_blind, va_recv (q0 := 0) (ci := 9) hK hMw rfl rfl, ep_pre hKn hMw⟩ rfl rfl hl.1 rfl (lv_room (Nat.le_of_ble_eq_true rfl)) d_Lw_law_1231 ⟨by show cells + 1 + 0 ≤ 601024; omega, by show slots + 6 + 0 ≤ 7293034; omega⟩) hS (fun q h9 => by show s.heap.size ≤ q; simp only [blk] at h9; omega) (fun H locs hsz9 hk1 hMw hS => ?_)
  refine W.eq (g2 := F0 m 1234 ls [.int r1]) rfl ?_
  have hPC := hPC.kept hk1 (fun z h9 => by simp only [blk] at h9; omega)
  have hOw := wo_kc hOw hk1 (off_in (rng_of wOut_in) (by intro q h1 h2 h3; simp only [blk] at h3; omega))
  clear hsz9 hk1
  refine lv_istore (lv' := [(6, .int r1), (5, .int (nI kap)), (4, .int (nI (6 * i))), (0, .ref b), (1, .ref o), (2, .ref (o + 74)), (3, .ref (o + 89))]) hx hb d_Lw_law_1234 hl (by decide) rfl (fun ls hl => ?_)
  refine lv_aload_n hx hb d_Lw_law_1236 rfl (lv_at hl 5 rfl) ?_
  refine ep_callP (W.runV (As := []) (rest := []) ⟨hx, hb, hml, hown, hg⟩ (m_Mo_thrown l D cI cJ cZ cO (o + 74) (M1.1) (M1.2.1) (M1.2.2.1) (M1.2.2.2.1) (M1.2.2.2.2.1) (M1.2.2.2.2.2.1) (M1.2.2.2.2.2.2.1) (M1.2.2.2.2.2.2.2.1) (M1.2.2.2.2.2.2.2.2.1) (M1.2.2.2.2.2.2.2.2.2.1) (M1.2.2.2.2.2.2.2.2.2.2.1) (M1.2.2.2.2.2.2.2.2.2.2.2.1) (M1.2.2.2.2.2.2.2.2.2.2.2.2.1) (M1.2.2.2.2.2.2.2.2.2.2.2.2.2.1) (M1.2.2.2.2.2.2.2.2.2.2.2.2.2.2.1) (M1.2.2.2.2.2.2.2.2.2.2.2.2.2.2.2.1) (M1.2.2.2.2.2.2.2.2.2.2.2.2.2.2.2.2) _ rfl) (ep_cwV 0 hg tw_758 tw_759 tw_760 tw_12 tk_Md_thrown rfl rfl (by decide +kernel) ⟨(Nat.le_of_ble_eq_true rfl), (Nat.le_of_ble_eq_true rfl)⟩) ⟨ep_blind, va_recv (q0 := 0) (ci := 9) hK hMw rfl rfl, ep_pre hKn hMw⟩ rfl rfl hl.1 rfl (lv_room (Nat.le_of_ble_eq_true rfl)) d_Lw_law_1237 ⟨by show cells + 1 + 0 ≤ 601024; omega, by show slots + 6 + 0 ≤ 7293034; omega⟩) ?_
  refine W.eq (g2 := F0 m 1240 ls [.int (M_code M1)]) rfl ?_
  rw [hcode]
  refine lv_iload hx hb d_Lw_law_1240 (lv_at hl 1 rfl) ?_
  refine lv_icmp_eq (tgt := 1247) hx hb d_Lw_law_1242 (by decide) (fun hc => ?_) (fun hc => absurd rfl hc)
  refine lv_iload hx hb d_Lw_law_1247 (lv_at hl 1 rfl) ?_
  refine lv_if_ne (tgt := 1264) hx hb d_Lw_law_1249 (by decide) (fun hc => ?_) (fun hc => ?_)
  · refine lv_goto (tgt := 1347) hx hb d_Lw_law_1264 (by decide) ?_
    exact kk H locs ls C1 M1 fo1 (lv_sub hl [2, 3, 4, 5, 6] rfl) ⟨hPC, hMw, hOw⟩ hS hIv
  · have hk0 : kap = 0 := by rcases (show kap = 0 ∨ kap = 1 ∨ kap = 2 ∨ kap = 3 by omega) with h9 | h9 | h9 | h9; exact h9; all_goals (rw [h9] at hc; exact absurd hc (by decide))
    have hv := hfo hk0
    have hrr := hans hk0
    refine lv_aload_n hx hb d_Lw_law_1252 rfl (lv_at hl 6 rfl) ?_
    refine lv_iconst (v := 0) hx hb d_Lw_law_1253 (by decide) ?_
    refine lv_topi (fun z8 e_z8 => ?_)
    obtain rfl : z8 = nI 0 := by rw [e_z8]; exact nI_0.symm
    refine ep_lald hx hb hK hOw 0 1 rfl rfl (i := 0) (by decide) (by decide) d_Lw_law_1254 ?_
    rw [hv, hrr]
    refine lv_iload hx hb d_Lw_law_1255 (lv_at hl 0 rfl) ?_
    refine lv_i2l hx hb d_Lw_law_1257 rfl ?_
    refine W.lcmp hx hb d_Lw_law_1258 ?_
    refine lv_if_eq (tgt := 1264) hx hb d_Lw_law_1259 (by decide) (fun hc9 => ?_) (fun hc9 => absurd ((lg_cmp_eq _ _).mpr rfl) hc9)
    refine lv_goto (tgt := 1347) hx hb d_Lw_law_1264 (by decide) ?_
    exact kk H locs ls C1 M1 fo1 (lv_sub hl [2, 3, 4, 5, 6] rfl) ⟨hPC, hMw, hOw⟩ hS hIv

set_option maxHeartbeats 4000000 in
set_option maxRecDepth 100000 in
theorem lc_operation {p : Program} {l : Launch} {e : Env} {s : State} {m : MethodId} {below : List Frame} {meth : Method} {c : Code} {b L : Nat} {xs : Nat → Int32} {D : va_G} {cI cJ cZ cO : ClassId} {o : Nat} {Iv : (Nat → CoT) → MT → Prop} {H : Heap} {locs : List Loc} {cells slots : Nat} {Q : State → Prop} {C : Nat → CoT} {M : MT} {fo : Nat → Int64} {i : Nat} {ls : Array Slot} (hx : p.tables.exec = Jvm.exec) (hb : c.code = code) (hml : c.maxLocals = 8) (hown : s.vm.findClass R_Lw = some m.cls) (hg : ∀ w ∈ gt, w.before #[Value.ref b] s = true) (hKn : Kn D cI cJ cZ cO s) (hNx : Nx s) (hZ : Zs (fun q => s.heap.size ≤ q) s s.heap) (hX : va_X b L xs s s.heap) (hbl : b < s.heap.size) (ho : o = s.heap.size) (hL : L ≤ 3072) (hi : 6 * i + 6 ≤ L)
    (hl : lv_has ls 8 [(4, .int (nI (6 * i))), (0, .ref b), (1, .ref o), (2, .ref (o + 74)), (3, .ref (o + 89))]) (hLI : LI D cI cJ cZ cO o C M fo H) (hS : va_S (fun q => s.heap.size ≤ q) s.heap H locs) (hc9 : cells + 1 ≤ 601024) (hs9 : slots + 6 ≤ 7293034)
    (hop : OP_operation l D cI cJ cZ cO o Iv M H (xs (6 * i + 1)) (xs (6 * i + 2)) (xs (6 * i + 3)))
    (kk : ∀ (H1 : Heap) (locs1 : List Loc) (ls1 : Array Slot) (C1 : Nat → CoT) (M1 : MT) (fo1 : Nat → Int64), lv_has ls1 8 [(4, .int (nI (6 * i))), (0, .ref b), (1, .ref o), (2, .ref (o + 74)), (3, .ref (o + 89))] → LI D cI cJ cZ cO o C1 M1 fo1 H1 → va_S (fun q => s.heap.size ≤ q) s.heap H1 locs1 → Iv C1 M1 → W p l e room_1 s m #[Value.ref b] below meth c H1 locs1 (cells + 1) (slots + 6) Q (F0 m 1347 ls1 [])) : W p l e room_1 s m #[Value.ref b] below meth c H locs cells slots Q (F0 m 1267 ls []) := by
  obtain ⟨kap, r, r1, C1, M1, hkap, hCS, hMS, hcode, hans, hIv⟩ := hop
  obtain ⟨Pic, hPic, hpE, hM⟩ := hCS
  obtain ⟨hPC, hMw, hOw⟩ := hLI
  have hK := hKn.1
  refine lv_aload_n hx hb d_Lw_law_1267 rfl (lv_at hl 2 rfl) ?_
  refine lv_aload_n hx hb d_Lw_law_1268 rfl (lv_at hl 1 rfl) ?_
  refine lv_iload hx hb d_Lw_law_1269 (lv_at hl 0 rfl) ?_
  refine lv_iconst (v := 1) hx hb d_Lw_law_1271 (by decide) ?_
  refine lv_iadd hx hb d_Lw_law_1272 ?_
  refine lv_topi (fun z9 e_z9 => ?_)
  obtain rfl : z9 = nI (6 * i + 1) := by rw [e_z9]; exact (nI_add (6 * i) 1)
  refine ep_sld hx hb hX hbl (show ¬ s.heap.size ≤ b by omega) hS (i := (6 * i + 1)) (by omega) (by omega) d_Lw_law_1273 ?_
  refine lv_aload_n hx hb d_Lw_law_1274 rfl (lv_at hl 1 rfl) ?_
  refine lv_iload hx hb d_Lw_law_1275 (lv_at hl 0 rfl) ?_
  refine lv_iconst (v := 2) hx hb d_Lw_law_1277 (by decide) ?_
  refine lv_iadd hx hb d_Lw_law_1278 ?_
  refine lv_topi (fun z9 e_z9 => ?_)
  obtain rfl : z9 = nI (6 * i + 2) := by rw [e_z9]; exact (nI_add (6 * i) 2)
  refine ep_sld hx hb hX hbl (show ¬ s.heap.size ≤ b by omega) hS (i := (6 * i + 2)) (by omega) (by omega) d_Lw_law_1279 ?_
  refine lv_aload_n hx hb d_Lw_law_1280 rfl (lv_at hl 1 rfl) ?_
  refine lv_iload hx hb d_Lw_law_1281 (lv_at hl 0 rfl) ?_
  refine lv_iconst (v := 3) hx hb d_Lw_law_1283 (by decide) ?_
  refine lv_iadd hx hb d_Lw_law_1284 ?_
  refine lv_topi (fun z9 e_z9 => ?_)
  obtain rfl : z9 = nI (6 * i + 3) := by rw [e_z9]; exact (nI_add (6 * i) 3)
  refine ep_sld hx hb hX hbl (show ¬ s.heap.size ≤ b by omega) hS (i := (6 * i + 3)) (by omega) (by omega) d_Lw_law_1285 ?_
  refine lv_aload_n hx hb d_Lw_law_1286 rfl (lv_at hl 4 rfl) ?_
  refine ep_callC (ep_toC (vx_runSW (As := [.ref o, .int (xs (6 * i + 1)), .int (xs (6 * i + 2)), .int (xs (6 * i + 3)), .ref (o + 89)]) (rest := []) ⟨hx, hb, hml, hown, hg⟩ (lw_operation l D cI cJ cZ cO o (o + 89) fo (xs (6 * i + 1)) (xs (6 * i + 2)) (xs (6 * i + 3)) r kap (blk o 74) Pic (PC D cI cJ cZ cO o C1) hpE (by simp only [blk]; omega) (fun H9 H8 h9 hP9 => hP9.kept (A := fun q => q = o + 89) h9 (fun z hz => Or.inr (by omega))) hkap hM) (ep_cwX (hh := [(0, 12, 15, 13), (0, 12, 19, 15), (0, 12, 23, 51)]) 5 hg tw_691 tw_692 tw_0 tk_Lw_operation rfl rfl (by decide +kernel) ⟨(Nat.le_of_ble_eq_true rfl), (Nat.le_of_ble_eq_true rfl)⟩) ⟨ep_blindL, ep_preL hKn (Zs.kept hZ hS (fun q h9 => by show s.heap.size ≤ q; rcases h9 with h9 | h9; (simp only [blk] at h9; omega); omega)) hNx ⟨hPic, hOw⟩⟩ rfl rfl hl.1 rfl (lv_room (Nat.le_of_ble_eq_true rfl)) d_Lw_law_1287 ⟨hc9, hs9⟩)) hS (fun q h9 => by show s.heap.size ≤ q; rcases h9 with h9 | h9; (simp only [blk] at h9; omega); omega) (fun H locs hsz9 hk1 hP1 hS => ?_)
  refine W.eq (g2 := F0 m 1290 ls [.int (nI kap)]) rfl ?_
  have hMw := wo_kc hMw hk1 (off_in (A := (fun q => blk o 74 q ∨ q = o + 89)) (rng_of wMo_in) (by intro q h1 h2 h3; rcases h3 with h3 | h3; (simp only [blk] at h3; omega); omega))
  obtain ⟨hPC, fo1, hOw, hfo⟩ := hP1
  clear hsz9 hk1
  refine lv_istore (lv' := [(5, .int (nI kap)), (4, .int (nI (6 * i))), (0, .ref b), (1, .ref o), (2, .ref (o + 74)), (3, .ref (o + 89))]) hx hb d_Lw_law_1290 hl (by decide) rfl (fun ls hl => ?_)
  refine lv_aload_n hx hb d_Lw_law_1292 rfl (lv_at hl 4 rfl) ?_
  refine lv_aload_n hx hb d_Lw_law_1293 rfl (lv_at hl 2 rfl) ?_
  refine lv_iload hx hb d_Lw_law_1294 (lv_at hl 1 rfl) ?_
  refine lv_iconst (v := 1) hx hb d_Lw_law_1296 (by decide) ?_
  refine lv_iadd hx hb d_Lw_law_1297 ?_
  refine lv_topi (fun z9 e_z9 => ?_)
  obtain rfl : z9 = nI (6 * i + 1) := by rw [e_z9]; exact (nI_add (6 * i) 1)
  refine ep_sld hx hb hX hbl (show ¬ s.heap.size ≤ b by omega) hS (i := (6 * i + 1)) (by omega) (by omega) d_Lw_law_1298 ?_
  refine lv_aload_n hx hb d_Lw_law_1299 rfl (lv_at hl 2 rfl) ?_
  refine lv_iload hx hb d_Lw_law_1300 (lv_at hl 1 rfl) ?_
  refine lv_iconst (v := 2) hx hb d_Lw_law_1302 (by decide) ?_
  refine lv_iadd hx hb d_Lw_law_1303 ?_
  refine lv_topi (fun z9 e_z9 => ?_)
  obtain rfl : z9 = nI (6 * i + 2) := by rw [e_z9]; exact (nI_add (6 * i) 2)
  refine ep_sld hx hb hX hbl (show ¬ s.heap.size ≤ b by omega) hS (i := (6 * i + 2)) (by omega) (by omega) d_Lw_law_1304 ?_
  refine lv_aload_n hx hb d_Lw_law_1305 rfl (lv_at hl 2 rfl) ?_
  refine lv_iload hx hb d_Lw_law_1306 (lv_at hl 1 rfl) ?_
  refine lv_iconst (v := 3) hx hb d_Lw_law_1308 (by decide) ?_
  refine lv_iadd hx hb d_Lw_law_1309 ?_
  refine lv_topi (fun z9 e_z9 => ?_)
  obtain rfl : z9 = nI (6 * i + 3) := by rw [e_z9]; exact (nI_add (6 * i) 3)
  refine ep_sld hx hb hX hbl (show ¬ s.heap.size ≤ b by omega) hS (i := (6 * i + 3)) (by omega) (by omega) d_Lw_law_1310 ?_
  refine ep_callH (W.runV (As := [.int (xs (6 * i + 1)), .int (xs (6 * i + 2)), .int (xs (6 * i + 3))]) (rest := []) ⟨hx, hb, hml, hown, hg⟩ hMS (ep_cwV 3 hg tw_908 tw_909 tw_910 tw_12 tk_Md_operation rfl rfl (by decide +kernel) ⟨(Nat.le_of_ble_eq_true rfl), (Nat.le_of_ble_eq_true rfl)⟩) ⟨ep_blind, va_recv (q0 := 0) (ci := 9) hK hMw rfl rfl, ep_pre hKn hMw⟩ rfl rfl hl.1 rfl (lv_room (Nat.le_of_ble_eq_true rfl)) d_Lw_law_1311 ⟨by show cells + 1 + 0 ≤ 601024; omega, by show slots + 6 + 0 ≤ 7293034; omega⟩) hS (fun q h9 => by show s.heap.size ≤ q; simp only [blk] at h9; omega) (fun H locs hsz9 hk1 hMw hS => ?_)
  refine W.eq (g2 := F0 m 1314 ls [.int r1]) rfl ?_
  have hPC := hPC.kept hk1 (fun z h9 => by simp only [blk] at h9; omega)
  have hOw := wo_kc hOw hk1 (off_in (rng_of wOut_in) (by intro q h1 h2 h3; simp only [blk] at h3; omega))
  clear hsz9 hk1
  refine lv_istore (lv' := [(6, .int r1), (5, .int (nI kap)), (4, .int (nI (6 * i))), (0, .ref b), (1, .ref o), (2, .ref (o + 74)), (3, .ref (o + 89))]) hx hb d_Lw_law_1314 hl (by decide) rfl (fun ls hl => ?_)
  refine lv_aload_n hx hb d_Lw_law_1316 rfl (lv_at hl 5 rfl) ?_
  refine ep_callP (W.runV (As := []) (rest := []) ⟨hx, hb, hml, hown, hg⟩ (m_Mo_thrown l D cI cJ cZ cO (o + 74) (M1.1) (M1.2.1) (M1.2.2.1) (M1.2.2.2.1) (M1.2.2.2.2.1) (M1.2.2.2.2.2.1) (M1.2.2.2.2.2.2.1) (M1.2.2.2.2.2.2.2.1) (M1.2.2.2.2.2.2.2.2.1) (M1.2.2.2.2.2.2.2.2.2.1) (M1.2.2.2.2.2.2.2.2.2.2.1) (M1.2.2.2.2.2.2.2.2.2.2.2.1) (M1.2.2.2.2.2.2.2.2.2.2.2.2.1) (M1.2.2.2.2.2.2.2.2.2.2.2.2.2.1) (M1.2.2.2.2.2.2.2.2.2.2.2.2.2.2.1) (M1.2.2.2.2.2.2.2.2.2.2.2.2.2.2.2.1) (M1.2.2.2.2.2.2.2.2.2.2.2.2.2.2.2.2) _ rfl) (ep_cwV 0 hg tw_758 tw_759 tw_760 tw_12 tk_Md_thrown rfl rfl (by decide +kernel) ⟨(Nat.le_of_ble_eq_true rfl), (Nat.le_of_ble_eq_true rfl)⟩) ⟨ep_blind, va_recv (q0 := 0) (ci := 9) hK hMw rfl rfl, ep_pre hKn hMw⟩ rfl rfl hl.1 rfl (lv_room (Nat.le_of_ble_eq_true rfl)) d_Lw_law_1317 ⟨by show cells + 1 + 0 ≤ 601024; omega, by show slots + 6 + 0 ≤ 7293034; omega⟩) ?_
  refine W.eq (g2 := F0 m 1320 ls [.int (M_code M1)]) rfl ?_
  rw [hcode]
  refine lv_iload hx hb d_Lw_law_1320 (lv_at hl 1 rfl) ?_
  refine lv_icmp_eq (tgt := 1327) hx hb d_Lw_law_1322 (by decide) (fun hc => ?_) (fun hc => absurd rfl hc)
  refine lv_iload hx hb d_Lw_law_1327 (lv_at hl 1 rfl) ?_
  refine lv_if_ne (tgt := 1344) hx hb d_Lw_law_1329 (by decide) (fun hc => ?_) (fun hc => ?_)
  · refine lv_goto (tgt := 1347) hx hb d_Lw_law_1344 (by decide) ?_
    exact kk H locs ls C1 M1 fo1 (lv_sub hl [2, 3, 4, 5, 6] rfl) ⟨hPC, hMw, hOw⟩ hS hIv
  · have hk0 : kap = 0 := by rcases (show kap = 0 ∨ kap = 1 ∨ kap = 2 ∨ kap = 3 by omega) with h9 | h9 | h9 | h9; exact h9; all_goals (rw [h9] at hc; exact absurd hc (by decide))
    have hv := hfo hk0
    have hrr := hans hk0
    refine lv_aload_n hx hb d_Lw_law_1332 rfl (lv_at hl 6 rfl) ?_
    refine lv_iconst (v := 0) hx hb d_Lw_law_1333 (by decide) ?_
    refine lv_topi (fun z8 e_z8 => ?_)
    obtain rfl : z8 = nI 0 := by rw [e_z8]; exact nI_0.symm
    refine ep_lald hx hb hK hOw 0 1 rfl rfl (i := 0) (by decide) (by decide) d_Lw_law_1334 ?_
    rw [hv, hrr]
    refine lv_iload hx hb d_Lw_law_1335 (lv_at hl 0 rfl) ?_
    refine lv_i2l hx hb d_Lw_law_1337 rfl ?_
    refine W.lcmp hx hb d_Lw_law_1338 ?_
    refine lv_if_eq (tgt := 1344) hx hb d_Lw_law_1339 (by decide) (fun hc9 => ?_) (fun hc9 => absurd ((lg_cmp_eq _ _).mpr rfl) hc9)
    refine lv_goto (tgt := 1347) hx hb d_Lw_law_1344 (by decide) ?_
    exact kk H locs ls C1 M1 fo1 (lv_sub hl [2, 3, 4, 5, 6] rfl) ⟨hPC, hMw, hOw⟩ hS hIv
