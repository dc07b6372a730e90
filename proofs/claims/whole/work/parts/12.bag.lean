/-! by wip/whole/gen/contents.py -/
set_option maxHeartbeats 4000000 in
set_option maxRecDepth 100000 in
theorem m_Ct_noteEffect_Qu (l : Launch) (D : va_G) (cI cJ cZ cO : ClassId) (b n : Nat) (v : Nat → Int32) (r : Int64) (f : Int32) (x : Int64) : Met l y_Ct_noteEffect (k_Ct_noteEffect :: gt) rm_Ct_noteEffect (Pc0 D cI cJ cZ cO [.ref b, .long x] (fun H => va_P D cls (wBa cI 2 b n v r f) H)) (Qd (blk b 2) none (fun H => va_P D cls (wBa cI 2 b n v x 1) H)) 0 0 (blk b 2) := by
  refine Met.ofW (cc := c_Ct_noteEffect) (maxL := 3) (ret := none) (by decide) rfl ?_
  intro p e s m args below meth c s₁ B hml hv
  obtain ⟨rfl, hKn, hP⟩ := hv
  have hx := B.exec
  have hb := B.bytes
  have hr := B.returns
  have hts := atoms_spec (ws := k_Ct_noteEffect :: gt) B.pre
  have hg : ∀ w ∈ gt, w.before _ s = true := fun w h => hts w (List.mem_cons_of_mem _ h)
  have hown : s.vm.findClass R_Ct = some m.cls := findClass_of_methodNamed B.named
  have hlocks := B.notSynchronized
  have hK := hKn.1
  have hl := lv_entry ([.ref b, .long x]) (n := 3) (Nat.le_of_ble_eq_true rfl)
  rw [lg_entry_eq]
  generalize (lg_sl ([.ref b, .long x]) ++ List.replicate (3 - (lg_sl ([.ref b, .long x])).length) Slot.unset).toArray = ls at hl ⊢
  have hl : lv_has ls 3 [(0, .ref b), (1, .long x)] := hl
  have hS : va_S (blk b 2) s.heap s.heap [] := va_S.rf
  have hD : va_D (blk b 2) (wBa cI 2 b n v r f) := blk_D wBa_in
  refine lv_aload_n hx hb d_Ct_noteEffect_0 rfl (lv_at hl 0 rfl) ?_
  refine lv_lload_n hx hb d_Ct_noteEffect_1 rfl (lv_at hl 1 rfl) ?_
  refine va_put (D := D) (ci := 2) (v := .long x) (ty := .long) (C := R_Qu) (T := F_Qu) (N := 4) hx hb hg in_Qu t_Qu t_Qu_ok n_Qu hown hK hP hD hS 0 rfl rfl 2 (Nat.le_of_ble_eq_true rfl) (hg _ tw_118) (fun _ h9 => h9) rfl (by decide +kernel) rfl rfl (Nat.le_of_ble_eq_true rfl) d_Ct_noteEffect_2 (fun H locs hP hD hS => ?_)
  have hP : va_P D cls (wBa cI 2 b n v x f) H := hP
  have hD : va_D (blk b 2) (wBa cI 2 b n v x f) := hD
  refine lv_aload_n hx hb d_Ct_noteEffect_5 rfl (lv_at hl 0 rfl) ?_
  refine lv_iconst (v := 1) hx hb d_Ct_noteEffect_6 (by decide) ?_
  refine va_put (D := D) (ci := 2) (v := .int 1) (ty := .boolean) (C := R_Qu) (T := F_Qu) (N := 4) hx hb hg in_Qu t_Qu t_Qu_ok n_Qu hown hK hP hD hS 0 rfl rfl 3 (Nat.le_of_ble_eq_true rfl) (hg _ tw_120) (fun _ h9 => h9) rfl (by decide +kernel) rfl rfl (Nat.le_of_ble_eq_true rfl) d_Ct_noteEffect_7 (fun H locs hP hD hS => ?_)
  have hP : va_P D cls (wBa cI 2 b n v x 1) H := hP
  have hD : va_D (blk b 2) (wBa cI 2 b n v x 1) := hD
  exact W.vret hx hb hr (fun t9 ht hW => ⟨rfl, hS.F ht, by rw [ht]; exact hP⟩) hS.2.2 d_Ct_noteEffect_10

set_option maxHeartbeats 4000000 in
set_option maxRecDepth 100000 in
theorem m_Ct_noteNoEffect_Qu (l : Launch) (D : va_G) (cI cJ cZ cO : ClassId) (b n : Nat) (v : Nat → Int32) (r : Int64) (f : Int32) : Met l y_Ct_noteNoEffect (k_Ct_noteNoEffect :: gt) rm_Ct_noteNoEffect (Pc0 D cI cJ cZ cO [.ref b] (fun H => va_P D cls (wBa cI 2 b n v r f) H)) (Qd (blk b 2) none (fun H => va_P D cls (wBa cI 2 b n v 0 0) H)) 0 0 (blk b 2) := by
  refine Met.ofW (cc := c_Ct_noteNoEffect) (maxL := 1) (ret := none) (by decide) rfl ?_
  intro p e s m args below meth c s₁ B hml hv
  obtain ⟨rfl, hKn, hP⟩ := hv
  have hx := B.exec
  have hb := B.bytes
  have hr := B.returns
  have hts := atoms_spec (ws := k_Ct_noteNoEffect :: gt) B.pre
  have hg : ∀ w ∈ gt, w.before _ s = true := fun w h => hts w (List.mem_cons_of_mem _ h)
  have hown : s.vm.findClass R_Ct = some m.cls := findClass_of_methodNamed B.named
  have hlocks := B.notSynchronized
  have hK := hKn.1
  have hl := lv_entry ([.ref b]) (n := 1) (Nat.le_of_ble_eq_true rfl)
  rw [lg_entry_eq]
  generalize (lg_sl ([.ref b]) ++ List.replicate (1 - (lg_sl ([.ref b])).length) Slot.unset).toArray = ls at hl ⊢
  have hl : lv_has ls 1 [(0, .ref b)] := hl
  have hS : va_S (blk b 2) s.heap s.heap [] := va_S.rf
  have hD : va_D (blk b 2) (wBa cI 2 b n v r f) := blk_D wBa_in
  refine lv_aload_n hx hb d_Ct_noteNoEffect_0 rfl (lv_at hl 0 rfl) ?_
  refine lv_lconst (v := 0) hx hb d_Ct_noteNoEffect_1 (by decide) ?_
  refine va_put (D := D) (ci := 2) (v := .long 0) (ty := .long) (C := R_Qu) (T := F_Qu) (N := 4) hx hb hg in_Qu t_Qu t_Qu_ok n_Qu hown hK hP hD hS 0 rfl rfl 2 (Nat.le_of_ble_eq_true rfl) (hg _ tw_118) (fun _ h9 => h9) rfl (by decide +kernel) rfl rfl (Nat.le_of_ble_eq_true rfl) d_Ct_noteNoEffect_2 (fun H locs hP hD hS => ?_)
  have hP : va_P D cls (wBa cI 2 b n v 0 f) H := hP
  have hD : va_D (blk b 2) (wBa cI 2 b n v 0 f) := hD
  refine lv_aload_n hx hb d_Ct_noteNoEffect_5 rfl (lv_at hl 0 rfl) ?_
  refine lv_iconst (v := 0) hx hb d_Ct_noteNoEffect_6 (by decide) ?_
  refine va_put (D := D) (ci := 2) (v := .int 0) (ty := .boolean) (C := R_Qu) (T := F_Qu) (N := 4) hx hb hg in_Qu t_Qu t_Qu_ok n_Qu hown hK hP hD hS 0 rfl rfl 3 (Nat.le_of_ble_eq_true rfl) (hg _ tw_120) (fun _ h9 => h9) rfl (by decide +kernel) rfl rfl (Nat.le_of_ble_eq_true rfl) d_Ct_noteNoEffect_7 (fun H locs hP hD hS => ?_)
  have hP : va_P D cls (wBa cI 2 b n v 0 0) H := hP
  have hD : va_D (blk b 2) (wBa cI 2 b n v 0 0) := hD
  exact W.vret hx hb hr (fun t9 ht hW => ⟨rfl, hS.F ht, by rw [ht]; exact hP⟩) hS.2.2 d_Ct_noteNoEffect_10

set_option maxHeartbeats 4000000 in
set_option maxRecDepth 100000 in
theorem m_Ct_noteEffect_St (l : Launch) (D : va_G) (cI cJ cZ cO : ClassId) (b n : Nat) (v : Nat → Int32) (r : Int64) (f : Int32) (x : Int64) : Met l y_Ct_noteEffect (k_Ct_noteEffect :: gt) rm_Ct_noteEffect (Pc0 D cI cJ cZ cO [.ref b, .long x] (fun H => va_P D cls (wBa cI 3 b n v r f) H)) (Qd (blk b 2) none (fun H => va_P D cls (wBa cI 3 b n v x 1) H)) 0 0 (blk b 2) := by
  refine Met.ofW (cc := c_Ct_noteEffect) (maxL := 3) (ret := none) (by decide) rfl ?_
  intro p e s m args below meth c s₁ B hml hv
  obtain ⟨rfl, hKn, hP⟩ := hv
  have hx := B.exec
  have hb := B.bytes
  have hr := B.returns
  have hts := atoms_spec (ws := k_Ct_noteEffect :: gt) B.pre
  have hg : ∀ w ∈ gt, w.before _ s = true := fun w h => hts w (List.mem_cons_of_mem _ h)
  have hown : s.vm.findClass R_Ct = some m.cls := findClass_of_methodNamed B.named
  have hlocks := B.notSynchronized
  have hK := hKn.1
  have hl := lv_entry ([.ref b, .long x]) (n := 3) (Nat.le_of_ble_eq_true rfl)
  rw [lg_entry_eq]
  generalize (lg_sl ([.ref b, .long x]) ++ List.replicate (3 - (lg_sl ([.ref b, .long x])).length) Slot.unset).toArray = ls at hl ⊢
  have hl : lv_has ls 3 [(0, .ref b), (1, .long x)] := hl
  have hS : va_S (blk b 2) s.heap s.heap [] := va_S.rf
  have hD : va_D (blk b 2) (wBa cI 3 b n v r f) := blk_D wBa_in
  refine lv_aload_n hx hb d_Ct_noteEffect_0 rfl (lv_at hl 0 rfl) ?_
  refine lv_lload_n hx hb d_Ct_noteEffect_1 rfl (lv_at hl 1 rfl) ?_
  refine va_put (D := D) (ci := 3) (v := .long x) (ty := .long) (C := R_St) (T := F_St) (N := 4) hx hb hg in_St t_St t_St_ok n_St hown hK hP hD hS 0 rfl rfl 2 (Nat.le_of_ble_eq_true rfl) (hg _ tw_118) (fun _ h9 => h9) rfl (by decide +kernel) rfl rfl (Nat.le_of_ble_eq_true rfl) d_Ct_noteEffect_2 (fun H locs hP hD hS => ?_)
  have hP : va_P D cls (wBa cI 3 b n v x f) H := hP
  have hD : va_D (blk b 2) (wBa cI 3 b n v x f) := hD
  refine lv_aload_n hx hb d_Ct_noteEffect_5 rfl (lv_at hl 0 rfl) ?_
  refine lv_iconst (v := 1) hx hb d_Ct_noteEffect_6 (by decide) ?_
  refine va_put (D := D) (ci := 3) (v := .int 1) (ty := .boolean) (C := R_St) (T := F_St) (N := 4) hx hb hg in_St t_St t_St_ok n_St hown hK hP hD hS 0 rfl rfl 3 (Nat.le_of_ble_eq_true rfl) (hg _ tw_120) (fun _ h9 => h9) rfl (by decide +kernel) rfl rfl (Nat.le_of_ble_eq_true rfl) d_Ct_noteEffect_7 (fun H locs hP hD hS => ?_)
  have hP : va_P D cls (wBa cI 3 b n v x 1) H := hP
  have hD : va_D (blk b 2) (wBa cI 3 b n v x 1) := hD
  exact W.vret hx hb hr (fun t9 ht hW => ⟨rfl, hS.F ht, by rw [ht]; exact hP⟩) hS.2.2 d_Ct_noteEffect_10

set_option maxHeartbeats 4000000 in
set_option maxRecDepth 100000 in
theorem m_Ct_noteNoEffect_St (l : Launch) (D : va_G) (cI cJ cZ cO : ClassId) (b n : Nat) (v : Nat → Int32) (r : Int64) (f : Int32) : Met l y_Ct_noteNoEffect (k_Ct_noteNoEffect :: gt) rm_Ct_noteNoEffect (Pc0 D cI cJ cZ cO [.ref b] (fun H => va_P D cls (wBa cI 3 b n v r f) H)) (Qd (blk b 2) none (fun H => va_P D cls (wBa cI 3 b n v 0 0) H)) 0 0 (blk b 2) := by
  refine Met.ofW (cc := c_Ct_noteNoEffect) (maxL := 1) (ret := none) (by decide) rfl ?_
  intro p e s m args below meth c s₁ B hml hv
  obtain ⟨rfl, hKn, hP⟩ := hv
  have hx := B.exec
  have hb := B.bytes
  have hr := B.returns
  have hts := atoms_spec (ws := k_Ct_noteNoEffect :: gt) B.pre
  have hg : ∀ w ∈ gt, w.before _ s = true := fun w h => hts w (List.mem_cons_of_mem _ h)
  have hown : s.vm.findClass R_Ct = some m.cls := findClass_of_methodNamed B.named
  have hlocks := B.notSynchronized
  have hK := hKn.1
  have hl := lv_entry ([.ref b]) (n := 1) (Nat.le_of_ble_eq_true rfl)
  rw [lg_entry_eq]
  generalize (lg_sl ([.ref b]) ++ List.replicate (1 - (lg_sl ([.ref b])).length) Slot.unset).toArray = ls at hl ⊢
  have hl : lv_has ls 1 [(0, .ref b)] := hl
  have hS : va_S (blk b 2) s.heap s.heap [] := va_S.rf
  have hD : va_D (blk b 2) (wBa cI 3 b n v r f) := blk_D wBa_in
  refine lv_aload_n hx hb d_Ct_noteNoEffect_0 rfl (lv_at hl 0 rfl) ?_
  refine lv_lconst (v := 0) hx hb d_Ct_noteNoEffect_1 (by decide) ?_
  refine va_put (D := D) (ci := 3) (v := .long 0) (ty := .long) (C := R_St) (T := F_St) (N := 4) hx hb hg in_St t_St t_St_ok n_St hown hK hP hD hS 0 rfl rfl 2 (Nat.le_of_ble_eq_true rfl) (hg _ tw_118) (fun _ h9 => h9) rfl (by decide +kernel) rfl rfl (Nat.le_of_ble_eq_true rfl) d_Ct_noteNoEffect_2 (fun H locs hP hD hS => ?_)
  have hP : va_P D cls (wBa cI 3 b n v 0 f) H := hP
  have hD : va_D (blk b 2) (wBa cI 3 b n v 0 f) := hD
  refine lv_aload_n hx hb d_Ct_noteNoEffect_5 rfl (lv_at hl 0 rfl) ?_
  refine lv_iconst (v := 0) hx hb d_Ct_noteNoEffect_6 (by decide) ?_
  refine va_put (D := D) (ci := 3) (v := .int 0) (ty := .boolean) (C := R_St) (T := F_St) (N := 4) hx hb hg in_St t_St t_St_ok n_St hown hK hP hD hS 0 rfl rfl 3 (Nat.le_of_ble_eq_true rfl) (hg _ tw_120) (fun _ h9 => h9) rfl (by decide +kernel) rfl rfl (Nat.le_of_ble_eq_true rfl) d_Ct_noteNoEffect_7 (fun H locs hP hD hS => ?_)
  have hP : va_P D cls (wBa cI 3 b n v 0 0) H := hP
  have hD : va_D (blk b 2) (wBa cI 3 b n v 0 0) := hD
  exact W.vret hx hb hr (fun t9 ht hW => ⟨rfl, hS.F ht, by rw [ht]; exact hP⟩) hS.2.2 d_Ct_noteNoEffect_10

set_option maxHeartbeats 4000000 in
set_option maxRecDepth 100000 in
theorem m_Ct_noteEffect_He (l : Launch) (D : va_G) (cI cJ cZ cO : ClassId) (b n : Nat) (v : Nat → Int32) (r : Int64) (f : Int32) (x : Int64) : Met l y_Ct_noteEffect (k_Ct_noteEffect :: gt) rm_Ct_noteEffect (Pc0 D cI cJ cZ cO [.ref b, .long x] (fun H => va_P D cls (wBa cI 4 b n v r f) H)) (Qd (blk b 2) none (fun H => va_P D cls (wBa cI 4 b n v x 1) H)) 0 0 (blk b 2) := by
  refine Met.ofW (cc := c_Ct_noteEffect) (maxL := 3) (ret := none) (by decide) rfl ?_
  intro p e s m args below meth c s₁ B hml hv
  obtain ⟨rfl, hKn, hP⟩ := hv
  have hx := B.exec
  have hb := B.bytes
  have hr := B.returns
  have hts := atoms_spec (ws := k_Ct_noteEffect :: gt) B.pre
  have hg : ∀ w ∈ gt, w.before _ s = true := fun w h => hts w (List.mem_cons_of_mem _ h)
  have hown : s.vm.findClass R_Ct = some m.cls := findClass_of_methodNamed B.named
  have hlocks := B.notSynchronized
  have hK := hKn.1
  have hl := lv_entry ([.ref b, .long x]) (n := 3) (Nat.le_of_ble_eq_true rfl)
  rw [lg_entry_eq]
  generalize (lg_sl ([.ref b, .long x]) ++ List.replicate (3 - (lg_sl ([.ref b, .long x])).length) Slot.unset).toArray = ls at hl ⊢
  have hl : lv_has ls 3 [(0, .ref b), (1, .long x)] := hl
  have hS : va_S (blk b 2) s.heap s.heap [] := va_S.rf
  have hD : va_D (blk b 2) (wBa cI 4 b n v r f) := blk_D wBa_in
  refine lv_aload_n hx hb d_Ct_noteEffect_0 rfl (lv_at hl 0 rfl) ?_
  refine lv_lload_n hx hb d_Ct_noteEffect_1 rfl (lv_at hl 1 rfl) ?_
  refine va_put (D := D) (ci := 4) (v := .long x) (ty := .long) (C := R_He) (T := F_He) (N := 4) hx hb hg in_He t_He t_He_ok n_He hown hK hP hD hS 0 rfl rfl 2 (Nat.le_of_ble_eq_true rfl) (hg _ tw_118) (fun _ h9 => h9) rfl (by decide +kernel) rfl rfl (Nat.le_of_ble_eq_true rfl) d_Ct_noteEffect_2 (fun H locs hP hD hS => ?_)
  have hP : va_P D cls (wBa cI 4 b n v x f) H := hP
  have hD : va_D (blk b 2) (wBa cI 4 b n v x f) := hD
  refine lv_aload_n hx hb d_Ct_noteEffect_5 rfl (lv_at hl 0 rfl) ?_
  refine lv_iconst (v := 1) hx hb d_Ct_noteEffect_6 (by decide) ?_
  refine va_put (D := D) (ci := 4) (v := .int 1) (ty := .boolean) (C := R_He) (T := F_He) (N := 4) hx hb hg in_He t_He t_He_ok n_He hown hK hP hD hS 0 rfl rfl 3 (Nat.le_of_ble_eq_true rfl) (hg _ tw_120) (fun _ h9 => h9) rfl (by decide +kernel) rfl rfl (Nat.le_of_ble_eq_true rfl) d_Ct_noteEffect_7 (fun H locs hP hD hS => ?_)
  have hP : va_P D cls (wBa cI 4 b n v x 1) H := hP
  have hD : va_D (blk b 2) (wBa cI 4 b n v x 1) := hD
  exact W.vret hx hb hr (fun t9 ht hW => ⟨rfl, hS.F ht, by rw [ht]; exact hP⟩) hS.2.2 d_Ct_noteEffect_10

set_option maxHeartbeats 4000000 in
set_option maxRecDepth 100000 in
theorem m_Ct_noteNoEffect_He (l : Launch) (D : va_G) (cI cJ cZ cO : ClassId) (b n : Nat) (v : Nat → Int32) (r : Int64) (f : Int32) : Met l y_Ct_noteNoEffect (k_Ct_noteNoEffect :: gt) rm_Ct_noteNoEffect (Pc0 D cI cJ cZ cO [.ref b] (fun H => va_P D cls (wBa cI 4 b n v r f) H)) (Qd (blk b 2) none (fun H => va_P D cls (wBa cI 4 b n v 0 0) H)) 0 0 (blk b 2) := by
  refine Met.ofW (cc := c_Ct_noteNoEffect) (maxL := 1) (ret := none) (by decide) rfl ?_
  intro p e s m args below meth c s₁ B hml hv
  obtain ⟨rfl, hKn, hP⟩ := hv
  have hx := B.exec
  have hb := B.bytes
  have hr := B.returns
  have hts := atoms_spec (ws := k_Ct_noteNoEffect :: gt) B.pre
  have hg : ∀ w ∈ gt, w.before _ s = true := fun w h => hts w (List.mem_cons_of_mem _ h)
  have hown : s.vm.findClass R_Ct = some m.cls := findClass_of_methodNamed B.named
  have hlocks := B.notSynchronized
  have hK := hKn.1
  have hl := lv_entry ([.ref b]) (n := 1) (Nat.le_of_ble_eq_true rfl)
  rw [lg_entry_eq]
  generalize (lg_sl ([.ref b]) ++ List.replicate (1 - (lg_sl ([.ref b])).length) Slot.unset).toArray = ls at hl ⊢
  have hl : lv_has ls 1 [(0, .ref b)] := hl
  have hS : va_S (blk b 2) s.heap s.heap [] := va_S.rf
  have hD : va_D (blk b 2) (wBa cI 4 b n v r f) := blk_D wBa_in
  refine lv_aload_n hx hb d_Ct_noteNoEffect_0 rfl (lv_at hl 0 rfl) ?_
  refine lv_lconst (v := 0) hx hb d_Ct_noteNoEffect_1 (by decide) ?_
  refine va_put (D := D) (ci := 4) (v := .long 0) (ty := .long) (C := R_He) (T := F_He) (N := 4) hx hb hg in_He t_He t_He_ok n_He hown hK hP hD hS 0 rfl rfl 2 (Nat.le_of_ble_eq_true rfl) (hg _ tw_118) (fun _ h9 => h9) rfl (by decide +kernel) rfl rfl (Nat.le_of_ble_eq_true rfl) d_Ct_noteNoEffect_2 (fun H locs hP hD hS => ?_)
  have hP : va_P D cls (wBa cI 4 b n v 0 f) H := hP
  have hD : va_D (blk b 2) (wBa cI 4 b n v 0 f) := hD
  refine lv_aload_n hx hb d_Ct_noteNoEffect_5 rfl (lv_at hl 0 rfl) ?_
  refine lv_iconst (v := 0) hx hb d_Ct_noteNoEffect_6 (by decide) ?_
  refine va_put (D := D) (ci := 4) (v := .int 0) (ty := .boolean) (C := R_He) (T := F_He) (N := 4) hx hb hg in_He t_He t_He_ok n_He hown hK hP hD hS 0 rfl rfl 3 (Nat.le_of_ble_eq_true rfl) (hg _ tw_120) (fun _ h9 => h9) rfl (by decide +kernel) rfl rfl (Nat.le_of_ble_eq_true rfl) d_Ct_noteNoEffect_7 (fun H locs hP hD hS => ?_)
  have hP : va_P D cls (wBa cI 4 b n v 0 0) H := hP
  have hD : va_D (blk b 2) (wBa cI 4 b n v 0 0) := hD
  exact W.vret hx hb hr (fun t9 ht hW => ⟨rfl, hS.F ht, by rw [ht]; exact hP⟩) hS.2.2 d_Ct_noteNoEffect_10

set_option maxHeartbeats 4000000 in
set_option maxRecDepth 100000 in
theorem m_Ba_clear_Qu (l : Launch) (D : va_G) (cI cJ cZ cO : ClassId) (b n : Nat) (v : Nat → Int32) (r : Int64) (f : Int32) : Met l y_Ba_clear (k_Ba_clear :: gt) rm_Ba_clear (Pc0 D cI cJ cZ cO [.ref b] (fun H => va_P D cls (wBa cI 2 b n v r f) H)) (Qd (blk b 2) none (fun H => va_P D cls (wBa cI 2 b 0 v r f) H)) 0 0 (blk b 2) := by
  refine Met.ofW (cc := c_Ba_clear) (maxL := 1) (ret := none) (by decide) rfl ?_
  intro p e s m args below meth c s₁ B hml hv
  obtain ⟨rfl, hKn, hP⟩ := hv
  have hx := B.exec
  have hb := B.bytes
  have hr := B.returns
  have hts := atoms_spec (ws := k_Ba_clear :: gt) B.pre
  have hg : ∀ w ∈ gt, w.before _ s = true := fun w h => hts w (List.mem_cons_of_mem _ h)
  have hown : s.vm.findClass R_Ba = some m.cls := findClass_of_methodNamed B.named
  have hlocks := B.notSynchronized
  have hK := hKn.1
  have hl := lv_entry ([.ref b]) (n := 1) (Nat.le_of_ble_eq_true rfl)
  rw [lg_entry_eq]
  generalize (lg_sl ([.ref b]) ++ List.replicate (1 - (lg_sl ([.ref b])).length) Slot.unset).toArray = ls at hl ⊢
  have hl : lv_has ls 1 [(0, .ref b)] := hl
  have hS : va_S (blk b 2) s.heap s.heap [] := va_S.rf
  have hD : va_D (blk b 2) (wBa cI 2 b n v r f) := blk_D wBa_in
  refine lv_aload_n hx hb d_Ba_clear_0 rfl (lv_at hl 0 rfl) ?_
  refine lv_iconst (v := 0) hx hb d_Ba_clear_1 (by decide) ?_
  refine lv_topi (fun z0 e_z0 => ?_)
  obtain rfl : z0 = nI 0 := by rw [e_z0]; exact nI_0.symm
  refine va_put (D := D) (ci := 2) (v := .int (nI 0)) (ty := .int) (C := R_Qu) (T := F_Qu) (N := 4) hx hb hg in_Qu t_Qu t_Qu_ok n_Qu hown hK hP hD hS 0 rfl rfl 1 (Nat.le_of_ble_eq_true rfl) (hg _ tw_113) (fun x9 h9 => u_same (hg _ tw_114) x9 h9) rfl (by decide +kernel) rfl rfl (Nat.le_of_ble_eq_true rfl) d_Ba_clear_2 (fun H locs hP hD hS => ?_)
  have hP : va_P D cls (wBa cI 2 b 0 v r f) H := hP
  have hD : va_D (blk b 2) (wBa cI 2 b 0 v r f) := hD
  exact W.vret hx hb hr (fun t9 ht hW => ⟨rfl, hS.F ht, by rw [ht]; exact hP⟩) hS.2.2 d_Ba_clear_5

set_option maxHeartbeats 4000000 in
set_option maxRecDepth 100000 in
theorem m_Ba_insert_Qu (l : Launch) (D : va_G) (cI cJ cZ cO : ClassId) (b n : Nat) (v : Nat → Int32) (r : Int64) (f : Int32) (o : Nat) (x : Int32) (hn : n < 32) (ho : o ≤ n) : Met l y_Ba_insert (k_Ba_insert :: gt) rm_Ba_insert (Pc0 D cI cJ cZ cO [.ref b, .int (nI o), .int x] (fun H => va_P D cls (wBa cI 2 b n v r f) H)) (Qd (blk b 2) none (fun H => va_P D cls (wBa cI 2 b (n + 1) (upd (shu v (n - o) n) o x) r f) H)) 0 0 (blk b 2) := by
  refine Met.ofW (cc := c_Ba_insert) (maxL := 4) (ret := none) (by decide) rfl ?_
  intro p e s m args below meth c s₁ B hml hv
  obtain ⟨rfl, hKn, hP⟩ := hv
  have hx := B.exec
  have hb := B.bytes
  have hr := B.returns
  have hts := atoms_spec (ws := k_Ba_insert :: gt) B.pre
  have hg : ∀ w ∈ gt, w.before _ s = true := fun w h => hts w (List.mem_cons_of_mem _ h)
  have hown : s.vm.findClass R_Ba = some m.cls := findClass_of_methodNamed B.named
  have hlocks := B.notSynchronized
  have hK := hKn.1
  have hl := lv_entry ([.ref b, .int (nI o), .int x]) (n := 4) (Nat.le_of_ble_eq_true rfl)
  rw [lg_entry_eq]
  generalize (lg_sl ([.ref b, .int (nI o), .int x]) ++ List.replicate (4 - (lg_sl ([.ref b, .int (nI o), .int x])).length) Slot.unset).toArray = ls at hl ⊢
  have hl : lv_has ls 4 [(0, .ref b), (1, .int (nI o)), (2, .int x)] := hl
  have hS : va_S (blk b 2) s.heap s.heap [] := va_S.rf
  have hD : va_D (blk b 2) (wBa cI 2 b n v r f) := blk_D wBa_in
  refine lv_aload_n hx hb d_Ba_insert_0 rfl (lv_at hl 0 rfl) ?_
  refine va_get (D := D) (ci := 2) (v := .int (nI n)) (C := R_Qu) (T := F_Qu) (N := 4) hx hb hg in_Qu hown hK hP 0 rfl rfl 1 (Nat.le_of_ble_eq_true rfl) (hg _ tw_113) (fun x9 h9 => u_same (hg _ tw_114) x9 h9) rfl d_Ba_insert_1 ?_
  refine lv_istore_n (lv' := [(3, .int (nI n)), (0, .ref b), (1, .int (nI o)), (2, .int x)]) hx hb d_Ba_insert_4 rfl hl (by decide) rfl (fun ls hl => ?_)
  generalize hf0 : shu v (n - o) n = M
  have key : ∀ (k i : Nat) (v1 : Nat → Int32) (H : Heap) (locs : List Loc) (ls : Array Slot), i = o + k → i ≤ n → shu v1 k i = M → lv_has ls 4 [(3, .int (nI i)), (0, .ref b), (1, .int (nI o)), (2, .int x)] → va_P D cls (wBa cI 2 b n v1 r f) H → va_S (blk b 2) s.heap H locs → W p l e (headSpec (k_Ba_insert :: gt) rm_Ba_insert).room s m ([.ref b, .int (nI o), .int x] : List Value).toArray below meth c H locs 0 0 (MQ below (Qd (blk b 2) none (fun H => va_P D cls (wBa cI 2 b (n + 1) (upd M o x) r f) H)) ([.ref b, .int (nI o), .int x] : List Value).toArray s 0 0 (blk b 2)) (F0 m 5 ls []) := by
    intro k
    induction k with
    | zero =>
      intro i v1 H locs ls hi hin q0 hl hP hS
      obtain rfl : v1 = M := q0
      have hD : va_D (blk b 2) (wBa cI 2 b n v1 r f) := blk_D wBa_in
      refine lv_iload_n hx hb d_Ba_insert_5 rfl (lv_at hl 0 rfl) ?_
      refine lv_iload_n hx hb d_Ba_insert_6 rfl (lv_at hl 2 rfl) ?_
      refine lv_icmp_le (tgt := 30) hx hb d_Ba_insert_7 (by decide) (fun hc => ?_) (fun hc => absurd (nI_le (by omega) (by omega)) hc)
      refine lv_aload_n hx hb d_Ba_insert_30 rfl (lv_at hl 1 rfl) ?_
      refine va_get (D := D) (ci := 2) (v := .ref (b + 1)) (C := R_Qu) (T := F_Qu) (N := 4) hx hb hg in_Qu hown hK hP 0 rfl rfl 0 (Nat.le_of_ble_eq_true rfl) (hg _ tw_100) (fun _ h9 => h9) rfl d_Ba_insert_31 ?_
      refine lv_iload_n hx hb d_Ba_insert_34 rfl (lv_at hl 2 rfl) ?_
      refine lv_iload_n hx hb d_Ba_insert_35 rfl (lv_at hl 3 rfl) ?_
      refine ep_iast hx hb hK hP hD hS 1 0 rfl rfl (i := o) (x := x) (by omega) (by decide) d_Ba_insert_36 (fun H locs hP hD hS => ?_)
      have hP : va_P D cls (wBa cI 2 b n (upd v1 o x) r f) H := hP
      have hD : va_D (blk b 2) (wBa cI 2 b n (upd v1 o x) r f) := hD
      refine lv_aload_n hx hb d_Ba_insert_37 rfl (lv_at hl 1 rfl) ?_
      refine lv_dup hx hb d_Ba_insert_38 rfl ?_
      refine va_get (D := D) (ci := 2) (v := .int (nI n)) (C := R_Qu) (T := F_Qu) (N := 4) hx hb hg in_Qu hown hK hP 0 rfl rfl 1 (Nat.le_of_ble_eq_true rfl) (hg _ tw_113) (fun x9 h9 => u_same (hg _ tw_114) x9 h9) rfl d_Ba_insert_39 ?_
      refine lv_iconst (v := 1) hx hb d_Ba_insert_42 (by decide) ?_
      refine lv_iadd hx hb d_Ba_insert_43 ?_
      refine lv_topi (fun z1 e_z1 => ?_)
      obtain rfl : z1 = nI (n + 1) := by rw [e_z1]; exact (nI_1 n)
      refine va_put (D := D) (ci := 2) (v := .int (nI (n + 1))) (ty := .int) (C := R_Qu) (T := F_Qu) (N := 4) hx hb hg in_Qu t_Qu t_Qu_ok n_Qu hown hK hP hD hS 0 rfl rfl 1 (Nat.le_of_ble_eq_true rfl) (hg _ tw_113) (fun x9 h9 => u_same (hg _ tw_114) x9 h9) rfl (by decide +kernel) rfl rfl (Nat.le_of_ble_eq_true rfl) d_Ba_insert_44 (fun H locs hP hD hS => ?_)
      have hP : va_P D cls (wBa cI 2 b (n + 1) (upd v1 o x) r f) H := hP
      have hD : va_D (blk b 2) (wBa cI 2 b (n + 1) (upd v1 o x) r f) := hD
      exact W.vret hx hb hr (fun t9 ht hW => ⟨rfl, hS.F ht, by rw [ht]; exact hP⟩) hS.2.2 d_Ba_insert_47
    | succ k ih =>
      intro i v1 H locs ls hi hin q0 hl hP hS
      have hD : va_D (blk b 2) (wBa cI 2 b n v1 r f) := blk_D wBa_in
      refine lv_iload_n hx hb d_Ba_insert_5 rfl (lv_at hl 0 rfl) ?_
      refine lv_iload_n hx hb d_Ba_insert_6 rfl (lv_at hl 2 rfl) ?_
      refine lv_icmp_le (tgt := 30) hx hb d_Ba_insert_7 (by decide) (fun hc => absurd hc (nI_ge (by omega) (by omega))) (fun hc => ?_)
      refine lv_aload_n hx hb d_Ba_insert_10 rfl (lv_at hl 1 rfl) ?_
      refine va_get (D := D) (ci := 2) (v := .ref (b + 1)) (C := R_Qu) (T := F_Qu) (N := 4) hx hb hg in_Qu hown hK hP 0 rfl rfl 0 (Nat.le_of_ble_eq_true rfl) (hg _ tw_100) (fun _ h9 => h9) rfl d_Ba_insert_11 ?_
      refine lv_iload_n hx hb d_Ba_insert_14 rfl (lv_at hl 0 rfl) ?_
      refine lv_aload_n hx hb d_Ba_insert_15 rfl (lv_at hl 1 rfl) ?_
      refine va_get (D := D) (ci := 2) (v := .ref (b + 1)) (C := R_Qu) (T := F_Qu) (N := 4) hx hb hg in_Qu hown hK hP 0 rfl rfl 0 (Nat.le_of_ble_eq_true rfl) (hg _ tw_100) (fun _ h9 => h9) rfl d_Ba_insert_16 ?_
      refine lv_iload_n hx hb d_Ba_insert_19 rfl (lv_at hl 0 rfl) ?_
      refine lv_iconst (v := 1) hx hb d_Ba_insert_20 (by decide) ?_
      refine lv_isub hx hb d_Ba_insert_21 ?_
      refine lv_topi (fun z1 e_z1 => ?_)
      obtain rfl : z1 = nI (i - 1) := by rw [e_z1]; exact (sub1 (by omega))
      refine ep_iald hx hb hK hP 1 0 rfl rfl (i := (i - 1)) (by omega) (by decide) d_Ba_insert_22 ?_
      refine ep_iast hx hb hK hP hD hS 1 0 rfl rfl (i := i) (x := (v1 (i - 1))) (by omega) (by decide) d_Ba_insert_23 (fun H locs hP hD hS => ?_)
      have hP : va_P D cls (wBa cI 2 b n (upd v1 i (v1 (i - 1))) r f) H := hP
      have hD : va_D (blk b 2) (wBa cI 2 b n (upd v1 i (v1 (i - 1))) r f) := hD
      refine lv_iinc (k := 0) (lv' := [(3, .int (nI (i - 1))), (0, .ref b), (1, .int (nI o)), (2, .int x)]) hx hb d_Ba_insert_24 hl rfl (dec1 (by omega)) (by decide) rfl (fun ls hl => ?_)
      refine lv_goto (tgt := 5) hx hb d_Ba_insert_27 (by decide) ?_
      exact ih (i - 1) _ H locs ls (by omega) (by omega) q0 (lv_sub hl [0, 1, 2, 3] rfl) hP hS
  exact key (n - o) n v s.heap [] ls (by omega) (by omega) hf0 hl hP hS

set_option maxHeartbeats 4000000 in
set_option maxRecDepth 100000 in
theorem m_Ba_removeFirst_Qu (l : Launch) (D : va_G) (cI cJ cZ cO : ClassId) (b n : Nat) (v : Nat → Int32) (r : Int64) (f : Int32) (hn : n ≤ 32) (h0 : 0 < n) : Met l y_Ba_removeFirst (k_Ba_removeFirst :: gt) rm_Ba_removeFirst (Pc0 D cI cJ cZ cO [.ref b] (fun H => va_P D cls (wBa cI 2 b n v r f) H)) (Qd (blk b 2) (some (.int (v 0))) (fun H => va_P D cls (wBa cI 2 b (n - 1) (shd v (n - 1) 0) r f) H)) 0 0 (blk b 2) := by
  refine Met.ofW (cc := c_Ba_removeFirst) (maxL := 3) (ret := (Option.some FieldType.int)) (by decide) rfl ?_
  intro p e s m args below meth c s₁ B hml hv
  obtain ⟨rfl, hKn, hP⟩ := hv
  have hx := B.exec
  have hb := B.bytes
  have hr := B.returns
  have hts := atoms_spec (ws := k_Ba_removeFirst :: gt) B.pre
  have hg : ∀ w ∈ gt, w.before _ s = true := fun w h => hts w (List.mem_cons_of_mem _ h)
  have hown : s.vm.findClass R_Ba = some m.cls := findClass_of_methodNamed B.named
  have hlocks := B.notSynchronized
  have hK := hKn.1
  have hl := lv_entry ([.ref b]) (n := 3) (Nat.le_of_ble_eq_true rfl)
  rw [lg_entry_eq]
  generalize (lg_sl ([.ref b]) ++ List.replicate (3 - (lg_sl ([.ref b])).length) Slot.unset).toArray = ls at hl ⊢
  have hl : lv_has ls 3 [(0, .ref b)] := hl
  have hS : va_S (blk b 2) s.heap s.heap [] := va_S.rf
  have hD : va_D (blk b 2) (wBa cI 2 b n v r f) := blk_D wBa_in
  refine lv_aload_n hx hb d_Ba_removeFirst_0 rfl (lv_at hl 0 rfl) ?_
  refine va_get (D := D) (ci := 2) (v := .ref (b + 1)) (C := R_Qu) (T := F_Qu) (N := 4) hx hb hg in_Qu hown hK hP 0 rfl rfl 0 (Nat.le_of_ble_eq_true rfl) (hg _ tw_100) (fun _ h9 => h9) rfl d_Ba_removeFirst_1 ?_
  refine lv_iconst (v := 0) hx hb d_Ba_removeFirst_4 (by decide) ?_
  refine lv_topi (fun z0 e_z0 => ?_)
  obtain rfl : z0 = nI 0 := by rw [e_z0]; exact nI_0.symm
  refine ep_iald hx hb hK hP 1 0 rfl rfl (i := 0) (by omega) (by decide) d_Ba_removeFirst_5 ?_
  refine lv_istore_n (lv' := [(1, .int (v 0)), (0, .ref b)]) hx hb d_Ba_removeFirst_6 rfl hl (by decide) rfl (fun ls hl => ?_)
  refine lv_aload_n hx hb d_Ba_removeFirst_7 rfl (lv_at hl 1 rfl) ?_
  refine lv_dup hx hb d_Ba_removeFirst_8 rfl ?_
  refine va_get (D := D) (ci := 2) (v := .int (nI n)) (C := R_Qu) (T := F_Qu) (N := 4) hx hb hg in_Qu hown hK hP 0 rfl rfl 1 (Nat.le_of_ble_eq_true rfl) (hg _ tw_113) (fun x9 h9 => u_same (hg _ tw_114) x9 h9) rfl d_Ba_removeFirst_9 ?_
  refine lv_iconst (v := 1) hx hb d_Ba_removeFirst_12 (by decide) ?_
  refine lv_isub hx hb d_Ba_removeFirst_13 ?_
  refine lv_topi (fun z1 e_z1 => ?_)
  obtain rfl : z1 = nI (n - 1) := by rw [e_z1]; exact (sub1 h0)
  refine va_put (D := D) (ci := 2) (v := .int (nI (n - 1))) (ty := .int) (C := R_Qu) (T := F_Qu) (N := 4) hx hb hg in_Qu t_Qu t_Qu_ok n_Qu hown hK hP hD hS 0 rfl rfl 1 (Nat.le_of_ble_eq_true rfl) (hg _ tw_113) (fun x9 h9 => u_same (hg _ tw_114) x9 h9) rfl (by decide +kernel) rfl rfl (Nat.le_of_ble_eq_true rfl) d_Ba_removeFirst_14 (fun H locs hP hD hS => ?_)
  have hP : va_P D cls (wBa cI 2 b (n - 1) v r f) H := hP
  have hD : va_D (blk b 2) (wBa cI 2 b (n - 1) v r f) := hD
  refine lv_iconst (v := 0) hx hb d_Ba_removeFirst_17 (by decide) ?_
  refine lv_topi (fun z2 e_z2 => ?_)
  obtain rfl : z2 = nI 0 := by rw [e_z2]; exact nI_0.symm
  refine lv_istore_n (lv' := [(2, .int (nI 0)), (1, .int (v 0)), (0, .ref b)]) hx hb d_Ba_removeFirst_18 rfl hl (by decide) rfl (fun ls hl => ?_)
  generalize hx0 : v 0 = x0 at hl ⊢
  generalize hf0 : shd v (n - 1) 0 = M
  have key : ∀ (k i : Nat) (v1 : Nat → Int32) (H : Heap) (locs : List Loc) (ls : Array Slot), i + k = n - 1 → shd v1 k i = M → lv_has ls 3 [(2, .int (nI i)), (1, .int x0), (0, .ref b)] → va_P D cls (wBa cI 2 b (n - 1) v1 r f) H → va_S (blk b 2) s.heap H locs → W p l e (headSpec (k_Ba_removeFirst :: gt) rm_Ba_removeFirst).room s m ([.ref b] : List Value).toArray below meth c H locs 0 0 (MQ below (Qd (blk b 2) (some (.int x0)) (fun H => va_P D cls (wBa cI 2 b (n - 1) M r f) H)) ([.ref b] : List Value).toArray s 0 0 (blk b 2)) (F0 m 19 ls []) := by
    intro k
    induction k with
    | zero =>
      intro i v1 H locs ls hi q0 hl hP hS
      obtain rfl : v1 = M := q0
      refine lv_iload_n hx hb d_Ba_removeFirst_19 rfl (lv_at hl 0 rfl) ?_
      refine lv_aload_n hx hb d_Ba_removeFirst_20 rfl (lv_at hl 2 rfl) ?_
      refine va_get (D := D) (ci := 2) (v := .int (nI (n - 1))) (C := R_Qu) (T := F_Qu) (N := 4) hx hb hg in_Qu hown hK hP 0 rfl rfl 1 (Nat.le_of_ble_eq_true rfl) (hg _ tw_113) (fun x9 h9 => u_same (hg _ tw_114) x9 h9) rfl d_Ba_removeFirst_21 ?_
      refine lv_icmp_ge (tgt := 47) hx hb d_Ba_removeFirst_24 (by decide) (fun hc => ?_) (fun hc => absurd (nI_le (by omega) (by omega)) hc)
      refine lv_iload_n hx hb d_Ba_removeFirst_47 rfl (lv_at hl 1 rfl) ?_
      exact W.iret (v := x0) hx hb hr (fun t9 ht hW => ⟨rfl, hS.F ht, by rw [ht]; exact hP⟩) hS.2.2 d_Ba_removeFirst_48
    | succ k ih =>
      intro i v1 H locs ls hi q0 hl hP hS
      have hD : va_D (blk b 2) (wBa cI 2 b (n - 1) v1 r f) := blk_D wBa_in
      refine lv_iload_n hx hb d_Ba_removeFirst_19 rfl (lv_at hl 0 rfl) ?_
      refine lv_aload_n hx hb d_Ba_removeFirst_20 rfl (lv_at hl 2 rfl) ?_
      refine va_get (D := D) (ci := 2) (v := .int (nI (n - 1))) (C := R_Qu) (T := F_Qu) (N := 4) hx hb hg in_Qu hown hK hP 0 rfl rfl 1 (Nat.le_of_ble_eq_true rfl) (hg _ tw_113) (fun x9 h9 => u_same (hg _ tw_114) x9 h9) rfl d_Ba_removeFirst_21 ?_
      refine lv_icmp_ge (tgt := 47) hx hb d_Ba_removeFirst_24 (by decide) (fun hc => absurd hc (nI_ge (by omega) (by omega))) (fun hc => ?_)
      refine lv_aload_n hx hb d_Ba_removeFirst_27 rfl (lv_at hl 2 rfl) ?_
      refine va_get (D := D) (ci := 2) (v := .ref (b + 1)) (C := R_Qu) (T := F_Qu) (N := 4) hx hb hg in_Qu hown hK hP 0 rfl rfl 0 (Nat.le_of_ble_eq_true rfl) (hg _ tw_100) (fun _ h9 => h9) rfl d_Ba_removeFirst_28 ?_
      refine lv_iload_n hx hb d_Ba_removeFirst_31 rfl (lv_at hl 0 rfl) ?_
      refine lv_aload_n hx hb d_Ba_removeFirst_32 rfl (lv_at hl 2 rfl) ?_
      refine va_get (D := D) (ci := 2) (v := .ref (b + 1)) (C := R_Qu) (T := F_Qu) (N := 4) hx hb hg in_Qu hown hK hP 0 rfl rfl 0 (Nat.le_of_ble_eq_true rfl) (hg _ tw_100) (fun _ h9 => h9) rfl d_Ba_removeFirst_33 ?_
      refine lv_iload_n hx hb d_Ba_removeFirst_36 rfl (lv_at hl 0 rfl) ?_
      refine lv_iconst (v := 1) hx hb d_Ba_removeFirst_37 (by decide) ?_
      refine lv_iadd hx hb d_Ba_removeFirst_38 ?_
      refine lv_topi (fun z1 e_z1 => ?_)
      obtain rfl : z1 = nI (i + 1) := by rw [e_z1]; exact (nI_1 i)
      refine ep_iald hx hb hK hP 1 0 rfl rfl (i := (i + 1)) (by omega) (by decide) d_Ba_removeFirst_39 ?_
      refine ep_iast hx hb hK hP hD hS 1 0 rfl rfl (i := i) (x := (v1 (i + 1))) (by omega) (by decide) d_Ba_removeFirst_40 (fun H locs hP hD hS => ?_)
      have hP : va_P D cls (wBa cI 2 b (n - 1) (upd v1 i (v1 (i + 1))) r f) H := hP
      have hD : va_D (blk b 2) (wBa cI 2 b (n - 1) (upd v1 i (v1 (i + 1))) r f) := hD
      refine lv_iinc (k := 0) (lv' := [(2, .int (nI (i + 1))), (1, .int x0), (0, .ref b)]) hx hb d_Ba_removeFirst_41 hl rfl (inc1 _) (by decide) rfl (fun ls hl => ?_)
      refine lv_goto (tgt := 19) hx hb d_Ba_removeFirst_44 (by decide) ?_
      exact ih (i + 1) _ H locs ls (by omega) q0 (lv_sub hl [0, 1, 2] rfl) hP hS
  exact key (n - 1) 0 v H locs ls (by omega) hf0 hl hP hS

set_option maxHeartbeats 4000000 in
set_option maxRecDepth 100000 in
theorem m_Qu_placeFor (l : Launch) (D : va_G) (cI cJ cZ cO : ClassId) (b n : Nat) (v : Nat → Int32) (r : Int64) (f : Int32) (x : Int32) : Met l y_Qu_placeFor (k_Qu_placeFor :: gt) rm_Qu_placeFor (Pc0 D cI cJ cZ cO [.ref b, .int x] (fun H => va_P D cls (wBa cI 2 b n v r f) H)) (Qp (some (.int (nI n)))) 0 0 (fun _ => False) := by
  refine Met.ofW (cc := c_Qu_placeFor) (maxL := 2) (ret := (Option.some FieldType.int)) (by decide) rfl ?_
  intro p e s m args below meth c s₁ B hml hv
  obtain ⟨rfl, hKn, hP⟩ := hv
  have hx := B.exec
  have hb := B.bytes
  have hr := B.returns
  have hts := atoms_spec (ws := k_Qu_placeFor :: gt) B.pre
  have hg : ∀ w ∈ gt, w.before _ s = true := fun w h => hts w (List.mem_cons_of_mem _ h)
  have hown : s.vm.findClass R_Qu = some m.cls := findClass_of_methodNamed B.named
  have hlocks := B.notSynchronized
  have hK := hKn.1
  have hl := lv_entry ([.ref b, .int x]) (n := 2) (Nat.le_of_ble_eq_true rfl)
  rw [lg_entry_eq]
  generalize (lg_sl ([.ref b, .int x]) ++ List.replicate (2 - (lg_sl ([.ref b, .int x])).length) Slot.unset).toArray = ls at hl ⊢
  have hl : lv_has ls 2 [(0, .ref b), (1, .int x)] := hl
  refine lv_aload_n hx hb d_Qu_placeFor_0 rfl (lv_at hl 0 rfl) ?_
  refine va_get (D := D) (ci := 2) (v := .int (nI n)) (C := R_Qu) (T := F_Qu) (N := 4) hx hb hg in_Qu hown hK hP 0 rfl rfl 1 (Nat.le_of_ble_eq_true rfl) (hg _ tw_105) (fun x9 h9 => u_same (hg _ tw_106) x9 h9) rfl d_Qu_placeFor_1 ?_
  exact W.iret (v := nI n) hx hb hr (fun t9 ht hW => ⟨rfl, ht⟩) (fun q h => nomatch h) d_Qu_placeFor_4

set_option maxHeartbeats 4000000 in
set_option maxRecDepth 100000 in
theorem m_Ba_perform_Qu_1 (l : Launch) (D : va_G) (cI cJ cZ cO : ClassId) (b n : Nat) (v : Nat → Int32) (r : Int64) (f : Int32) (x y : Int32) (hn : n < 32) : Met l y_Ba_perform (k_Ba_perform :: gt) rm_Ba_perform (Pc0 D cI cJ cZ cO [.ref b, .int 1, .int x, .int y] (fun H => va_P D cls (wBa cI 2 b n v r f) H)) (Qd (blk b 2) none (fun H => va_P D cls (wBa cI 2 b (n + 1) (upd (shu v (n - n) n) n x) 0 1) H)) 0 0 (blk b 2) := by
  refine Met.ofW (cc := c_Ba_perform) (maxL := 4) (ret := none) (by decide) rfl ?_
  intro p e s m args below meth c s₁ B hml hv
  obtain ⟨rfl, hKn, hP⟩ := hv
  have hx := B.exec
  have hb := B.bytes
  have hr := B.returns
  have hts := atoms_spec (ws := k_Ba_perform :: gt) B.pre
  have hg : ∀ w ∈ gt, w.before _ s = true := fun w h => hts w (List.mem_cons_of_mem _ h)
  have hown : s.vm.findClass R_Ba = some m.cls := findClass_of_methodNamed B.named
  have hlocks := B.notSynchronized
  have hK := hKn.1
  have hl := lv_entry ([.ref b, .int 1, .int x, .int y]) (n := 4) (Nat.le_of_ble_eq_true rfl)
  rw [lg_entry_eq]
  generalize (lg_sl ([.ref b, .int 1, .int x, .int y]) ++ List.replicate (4 - (lg_sl ([.ref b, .int 1, .int x, .int y])).length) Slot.unset).toArray = ls at hl ⊢
  have hl : lv_has ls 4 [(0, .ref b), (1, .int 1), (2, .int x), (3, .int y)] := hl
  have hS : va_S (blk b 2) s.heap s.heap [] := va_S.rf
  have hD : va_D (blk b 2) (wBa cI 2 b n v r f) := blk_D wBa_in
  refine lv_iload_n hx hb d_Ba_perform_0 rfl (lv_at hl 1 rfl) ?_
  refine lv_iconst (v := 1) hx hb d_Ba_perform_1 (by decide) ?_
  refine lv_icmp_ne (tgt := 23) hx hb d_Ba_perform_2 (by decide) (fun hc => absurd (rfl) hc) (fun hc => ?_)
  refine lv_aload_n hx hb d_Ba_perform_5 rfl (lv_at hl 0 rfl) ?_
  refine lv_aload_n hx hb d_Ba_perform_6 rfl (lv_at hl 0 rfl) ?_
  refine lv_iload_n hx hb d_Ba_perform_7 rfl (lv_at hl 2 rfl) ?_
  refine ep_callP (ep_toC (va_runU (As := [.int x]) (rest := [.ref b]) ⟨hx, hb, hml, hown, hg⟩ (m_Qu_placeFor l D cI cJ cZ cO b n v r f x) (ep_cwA (owner := "EditablePast$Bag") 1 hg tw_443 tw_445 tw_449 tw_450 tw_6 tk_Qu_placeFor rfl rfl (hKn.2.2.1 _ (by decide +kernel)) (by decide +kernel) ⟨(Nat.le_of_ble_eq_true rfl), (Nat.le_of_ble_eq_true rfl)⟩) ⟨ep_blind, va_recv (q0 := 0) (ci := 2) hK hP rfl rfl, ep_pre hKn (hP)⟩ rfl rfl hl.1 rfl (lv_room (Nat.le_of_ble_eq_true rfl)) d_Ba_perform_8 ⟨Nat.zero_le _, Nat.zero_le _⟩)) ?_
  refine W.eq (g2 := F0 m 11 ls [.int (nI n), .ref b]) rfl ?_
  refine lv_iload_n hx hb d_Ba_perform_11 rfl (lv_at hl 2 rfl) ?_
  refine ep_callH (ep_toC (va_runU (As := [.int (nI n), .int x]) (rest := []) ⟨hx, hb, hml, hown, hg⟩ (m_Ba_insert_Qu l D cI cJ cZ cO b n v r f n x hn (by omega)) (ep_cwP 2 hg tw_455 tw_913 (ep_selP (by decide +kernel) (hg _ tw_371) rfl (va_Nw.use rfl (hKn.2.2.2.2.1 _ (by decide +kernel))) (hg _ tw_457)) tw_457 tw_5 tk_Ba_insert rfl rfl (by decide +kernel) ⟨(Nat.le_of_ble_eq_true rfl), (Nat.le_of_ble_eq_true rfl)⟩) ⟨ep_blind, va_recv (q0 := 0) (ci := 2) hK hP rfl rfl, ep_pre hKn (hP)⟩ rfl rfl hl.1 rfl (lv_room (Nat.le_of_ble_eq_true rfl)) d_Ba_perform_12 ⟨Nat.zero_le _, Nat.zero_le _⟩)) hS (fun q h => h) (fun H locs hsz9 hk1 hP1 hS => ?_)
  refine W.eq (g2 := F0 m 15 ls []) rfl ?_
  have hP : va_P D cls (wBa cI 2 b (n + 1) (upd (shu v (n - n) n) n x) r f) H := hP1
  have hD : va_D (blk b 2) (wBa cI 2 b (n + 1) (upd (shu v (n - n) n) n x) r f) := blk_D wBa_in
  refine lv_aload_n hx hb d_Ba_perform_15 rfl (lv_at hl 0 rfl) ?_
  refine lv_lconst (v := 0) hx hb d_Ba_perform_16 (by decide) ?_
  refine ep_callH (ep_toC (va_runU (As := [.long 0]) (rest := []) ⟨hx, hb, hml, hown, hg⟩ (m_Ct_noteEffect_Qu l D cI cJ cZ cO b (n + 1) (upd (shu v (n - n) n) n x) r f 0) (ep_cwU (owner := "EditablePast$Contents") 1 hg tw_459 tw_460 tw_463 tw_465 tw_4 tk_Ct_noteEffect rfl rfl rfl (by decide +kernel) ⟨(Nat.le_of_ble_eq_true rfl), (Nat.le_of_ble_eq_true rfl)⟩) ⟨ep_blind, va_recv (q0 := 0) (ci := 2) hK hP rfl rfl, ep_pre hKn (hP)⟩ rfl rfl hl.1 rfl (lv_room (Nat.le_of_ble_eq_true rfl)) d_Ba_perform_17 ⟨Nat.zero_le _, Nat.zero_le _⟩)) hS (fun q h => h) (fun H locs hsz9 hk1 hP1 hS => ?_)
  refine W.eq (g2 := F0 m 20 ls []) rfl ?_
  have hP : va_P D cls (wBa cI 2 b (n + 1) (upd (shu v (n - n) n) n x) 0 1) H := hP1
  have hD : va_D (blk b 2) (wBa cI 2 b (n + 1) (upd (shu v (n - n) n) n x) 0 1) := blk_D wBa_in
  refine lv_goto (tgt := 46) hx hb d_Ba_perform_20 (by decide) ?_
  exact W.vret hx hb hr (fun t9 ht hW => ⟨rfl, hS.F ht, by rw [ht]; exact hP⟩) hS.2.2 d_Ba_perform_46

set_option maxHeartbeats 4000000 in
set_option maxRecDepth 100000 in
theorem m_Ba_perform_Qu_2 (l : Launch) (D : va_G) (cI cJ cZ cO : ClassId) (b n : Nat) (v : Nat → Int32) (r : Int64) (f : Int32) (nm x y : Int32) (hnm : ¬ nm = 1) (hn : n ≤ 32) (h0 : 0 < n) : Met l y_Ba_perform (k_Ba_perform :: gt) rm_Ba_perform (Pc0 D cI cJ cZ cO [.ref b, .int nm, .int x, .int y] (fun H => va_P D cls (wBa cI 2 b n v r f) H)) (Qd (blk b 2) none (fun H => va_P D cls (wBa cI 2 b (n - 1) (shd v (n - 1) 0) ((v 0).toInt64) 1) H)) 0 0 (blk b 2) := by
  refine Met.ofW (cc := c_Ba_perform) (maxL := 4) (ret := none) (by decide) rfl ?_
  intro p e s m args below meth c s₁ B hml hv
  obtain ⟨rfl, hKn, hP⟩ := hv
  have hx := B.exec
  have hb := B.bytes
  have hr := B.returns
  have hts := atoms_spec (ws := k_Ba_perform :: gt) B.pre
  have hg : ∀ w ∈ gt, w.before _ s = true := fun w h => hts w (List.mem_cons_of_mem _ h)
  have hown : s.vm.findClass R_Ba = some m.cls := findClass_of_methodNamed B.named
  have hlocks := B.notSynchronized
  have hK := hKn.1
  have hl := lv_entry ([.ref b, .int nm, .int x, .int y]) (n := 4) (Nat.le_of_ble_eq_true rfl)
  rw [lg_entry_eq]
  generalize (lg_sl ([.ref b, .int nm, .int x, .int y]) ++ List.replicate (4 - (lg_sl ([.ref b, .int nm, .int x, .int y])).length) Slot.unset).toArray = ls at hl ⊢
  have hl : lv_has ls 4 [(0, .ref b), (1, .int nm), (2, .int x), (3, .int y)] := hl
  have hS : va_S (blk b 2) s.heap s.heap [] := va_S.rf
  have hD : va_D (blk b 2) (wBa cI 2 b n v r f) := blk_D wBa_in
  refine lv_iload_n hx hb d_Ba_perform_0 rfl (lv_at hl 1 rfl) ?_
  refine lv_iconst (v := 1) hx hb d_Ba_perform_1 (by decide) ?_
  refine lv_icmp_ne (tgt := 23) hx hb d_Ba_perform_2 (by decide) (fun hc => ?_) (fun hc => absurd hc (hnm))
  refine lv_aload_n hx hb d_Ba_perform_23 rfl (lv_at hl 0 rfl) ?_
  refine va_get (D := D) (ci := 2) (v := .int (nI n)) (C := R_Qu) (T := F_Qu) (N := 4) hx hb hg in_Qu hown hK hP 0 rfl rfl 1 (Nat.le_of_ble_eq_true rfl) (hg _ tw_113) (fun x9 h9 => u_same (hg _ tw_114) x9 h9) rfl d_Ba_perform_24 ?_
  refine lv_if_le (tgt := 42) hx hb d_Ba_perform_27 (by decide) (fun hc => absurd hc (nI_nle h0 (by omega))) (fun hc => ?_)
  refine lv_aload_n hx hb d_Ba_perform_30 rfl (lv_at hl 0 rfl) ?_
  refine lv_aload_n hx hb d_Ba_perform_31 rfl (lv_at hl 0 rfl) ?_
  refine ep_callH (ep_toC (va_runU (As := []) (rest := [.ref b]) ⟨hx, hb, hml, hown, hg⟩ (m_Ba_removeFirst_Qu l D cI cJ cZ cO b n v r f hn h0) (ep_cwP 0 hg tw_467 tw_914 (ep_selP (by decide +kernel) (hg _ tw_371) rfl (va_Nw.use rfl (hKn.2.2.2.2.1 _ (by decide +kernel))) (hg _ tw_469)) tw_469 tw_5 tk_Ba_removeFirst rfl rfl (by decide +kernel) ⟨(Nat.le_of_ble_eq_true rfl), (Nat.le_of_ble_eq_true rfl)⟩) ⟨ep_blind, va_recv (q0 := 0) (ci := 2) hK hP rfl rfl, ep_pre hKn (hP)⟩ rfl rfl hl.1 rfl (lv_room (Nat.le_of_ble_eq_true rfl)) d_Ba_perform_32 ⟨Nat.zero_le _, Nat.zero_le _⟩)) hS (fun q h => h) (fun H locs hsz9 hk1 hP1 hS => ?_)
  refine W.eq (g2 := F0 m 35 ls [.int (v 0), .ref b]) rfl ?_
  have hP : va_P D cls (wBa cI 2 b (n - 1) (shd v (n - 1) 0) r f) H := hP1
  have hD : va_D (blk b 2) (wBa cI 2 b (n - 1) (shd v (n - 1) 0) r f) := blk_D wBa_in
  refine lv_i2l hx hb d_Ba_perform_35 rfl ?_
  refine ep_callH (ep_toC (va_runU (As := [.long ((v 0).toInt64)]) (rest := []) ⟨hx, hb, hml, hown, hg⟩ (m_Ct_noteEffect_Qu l D cI cJ cZ cO b (n - 1) (shd v (n - 1) 0) r f (v 0).toInt64) (ep_cwU (owner := "EditablePast$Contents") 1 hg tw_459 tw_460 tw_463 tw_465 tw_4 tk_Ct_noteEffect rfl rfl rfl (by decide +kernel) ⟨(Nat.le_of_ble_eq_true rfl), (Nat.le_of_ble_eq_true rfl)⟩) ⟨ep_blind, va_recv (q0 := 0) (ci := 2) hK hP rfl rfl, ep_pre hKn (hP)⟩ rfl rfl hl.1 rfl (lv_room (Nat.le_of_ble_eq_true rfl)) d_Ba_perform_36 ⟨Nat.zero_le _, Nat.zero_le _⟩)) hS (fun q h => h) (fun H locs hsz9 hk1 hP1 hS => ?_)
  refine W.eq (g2 := F0 m 39 ls []) rfl ?_
  have hP : va_P D cls (wBa cI 2 b (n - 1) (shd v (n - 1) 0) ((v 0).toInt64) 1) H := hP1
  have hD : va_D (blk b 2) (wBa cI 2 b (n - 1) (shd v (n - 1) 0) ((v 0).toInt64) 1) := blk_D wBa_in
  refine lv_goto (tgt := 46) hx hb d_Ba_perform_39 (by decide) ?_
  exact W.vret hx hb hr (fun t9 ht hW => ⟨rfl, hS.F ht, by rw [ht]; exact hP⟩) hS.2.2 d_Ba_perform_46

set_option maxHeartbeats 4000000 in
set_option maxRecDepth 100000 in
theorem m_Ba_perform_Qu_0 (l : Launch) (D : va_G) (cI cJ cZ cO : ClassId) (b n : Nat) (v : Nat → Int32) (r : Int64) (f : Int32) (nm x y : Int32) (hnm : ¬ nm = 1) (h0 : n = 0) : Met l y_Ba_perform (k_Ba_perform :: gt) rm_Ba_perform (Pc0 D cI cJ cZ cO [.ref b, .int nm, .int x, .int y] (fun H => va_P D cls (wBa cI 2 b n v r f) H)) (Qd (blk b 2) none (fun H => va_P D cls (wBa cI 2 b n v 0 0) H)) 0 0 (blk b 2) := by
  refine Met.ofW (cc := c_Ba_perform) (maxL := 4) (ret := none) (by decide) rfl ?_
  intro p e s m args below meth c s₁ B hml hv
  obtain ⟨rfl, hKn, hP⟩ := hv
  have hx := B.exec
  have hb := B.bytes
  have hr := B.returns
  have hts := atoms_spec (ws := k_Ba_perform :: gt) B.pre
  have hg : ∀ w ∈ gt, w.before _ s = true := fun w h => hts w (List.mem_cons_of_mem _ h)
  have hown : s.vm.findClass R_Ba = some m.cls := findClass_of_methodNamed B.named
  have hlocks := B.notSynchronized
  have hK := hKn.1
  have hl := lv_entry ([.ref b, .int nm, .int x, .int y]) (n := 4) (Nat.le_of_ble_eq_true rfl)
  rw [lg_entry_eq]
  generalize (lg_sl ([.ref b, .int nm, .int x, .int y]) ++ List.replicate (4 - (lg_sl ([.ref b, .int nm, .int x, .int y])).length) Slot.unset).toArray = ls at hl ⊢
  have hl : lv_has ls 4 [(0, .ref b), (1, .int nm), (2, .int x), (3, .int y)] := hl
  have hS : va_S (blk b 2) s.heap s.heap [] := va_S.rf
  have hD : va_D (blk b 2) (wBa cI 2 b n v r f) := blk_D wBa_in
  subst h0
  refine lv_iload_n hx hb d_Ba_perform_0 rfl (lv_at hl 1 rfl) ?_
  refine lv_iconst (v := 1) hx hb d_Ba_perform_1 (by decide) ?_
  refine lv_icmp_ne (tgt := 23) hx hb d_Ba_perform_2 (by decide) (fun hc => ?_) (fun hc => absurd hc (hnm))
  refine lv_aload_n hx hb d_Ba_perform_23 rfl (lv_at hl 0 rfl) ?_
  refine va_get (D := D) (ci := 2) (v := .int (nI 0)) (C := R_Qu) (T := F_Qu) (N := 4) hx hb hg in_Qu hown hK hP 0 rfl rfl 1 (Nat.le_of_ble_eq_true rfl) (hg _ tw_113) (fun x9 h9 => u_same (hg _ tw_114) x9 h9) rfl d_Ba_perform_24 ?_
  refine lv_if_le (tgt := 42) hx hb d_Ba_perform_27 (by decide) (fun hc => ?_) (fun hc => absurd (by rw [nI_0]; decide) hc)
  refine lv_aload_n hx hb d_Ba_perform_42 rfl (lv_at hl 0 rfl) ?_
  refine ep_callH (ep_toC (va_runU (As := []) (rest := []) ⟨hx, hb, hml, hown, hg⟩ (m_Ct_noteNoEffect_Qu l D cI cJ cZ cO b 0 v r f) (ep_cwU (owner := "EditablePast$Contents") 0 hg tw_471 tw_472 tw_475 tw_477 tw_4 tk_Ct_noteNoEffect rfl rfl rfl (by decide +kernel) ⟨(Nat.le_of_ble_eq_true rfl), (Nat.le_of_ble_eq_true rfl)⟩) ⟨ep_blind, va_recv (q0 := 0) (ci := 2) hK hP rfl rfl, ep_pre hKn (hP)⟩ rfl rfl hl.1 rfl (lv_room (Nat.le_of_ble_eq_true rfl)) d_Ba_perform_43 ⟨Nat.zero_le _, Nat.zero_le _⟩)) hS (fun q h => h) (fun H locs hsz9 hk1 hP1 hS => ?_)
  refine W.eq (g2 := F0 m 46 ls []) rfl ?_
  have hP : va_P D cls (wBa cI 2 b 0 v 0 0) H := hP1
  have hD : va_D (blk b 2) (wBa cI 2 b 0 v 0 0) := blk_D wBa_in
  exact W.vret hx hb hr (fun t9 ht hW => ⟨rfl, hS.F ht, by rw [ht]; exact hP⟩) hS.2.2 d_Ba_perform_46

set_option maxHeartbeats 4000000 in
set_option maxRecDepth 100000 in
theorem m_Ba_clear_St (l : Launch) (D : va_G) (cI cJ cZ cO : ClassId) (b n : Nat) (v : Nat → Int32) (r : Int64) (f : Int32) : Met l y_Ba_clear (k_Ba_clear :: gt) rm_Ba_clear (Pc0 D cI cJ cZ cO [.ref b] (fun H => va_P D cls (wBa cI 3 b n v r f) H)) (Qd (blk b 2) none (fun H => va_P D cls (wBa cI 3 b 0 v r f) H)) 0 0 (blk b 2) := by
  refine Met.ofW (cc := c_Ba_clear) (maxL := 1) (ret := none) (by decide) rfl ?_
  intro p e s m args below meth c s₁ B hml hv
  obtain ⟨rfl, hKn, hP⟩ := hv
  have hx := B.exec
  have hb := B.bytes
  have hr := B.returns
  have hts := atoms_spec (ws := k_Ba_clear :: gt) B.pre
  have hg : ∀ w ∈ gt, w.before _ s = true := fun w h => hts w (List.mem_cons_of_mem _ h)
  have hown : s.vm.findClass R_Ba = some m.cls := findClass_of_methodNamed B.named
  have hlocks := B.notSynchronized
  have hK := hKn.1
  have hl := lv_entry ([.ref b]) (n := 1) (Nat.le_of_ble_eq_true rfl)
  rw [lg_entry_eq]
  generalize (lg_sl ([.ref b]) ++ List.replicate (1 - (lg_sl ([.ref b])).length) Slot.unset).toArray = ls at hl ⊢
  have hl : lv_has ls 1 [(0, .ref b)] := hl
  have hS : va_S (blk b 2) s.heap s.heap [] := va_S.rf
  have hD : va_D (blk b 2) (wBa cI 3 b n v r f) := blk_D wBa_in
  refine lv_aload_n hx hb d_Ba_clear_0 rfl (lv_at hl 0 rfl) ?_
  refine lv_iconst (v := 0) hx hb d_Ba_clear_1 (by decide) ?_
  refine lv_topi (fun z0 e_z0 => ?_)
  obtain rfl : z0 = nI 0 := by rw [e_z0]; exact nI_0.symm
  refine va_put (D := D) (ci := 3) (v := .int (nI 0)) (ty := .int) (C := R_St) (T := F_St) (N := 4) hx hb hg in_St t_St t_St_ok n_St hown hK hP hD hS 0 rfl rfl 1 (Nat.le_of_ble_eq_true rfl) (hg _ tw_113) (fun x9 h9 => u_same (hg _ tw_114) x9 h9) rfl (by decide +kernel) rfl rfl (Nat.le_of_ble_eq_true rfl) d_Ba_clear_2 (fun H locs hP hD hS => ?_)
  have hP : va_P D cls (wBa cI 3 b 0 v r f) H := hP
  have hD : va_D (blk b 2) (wBa cI 3 b 0 v r f) := hD
  exact W.vret hx hb hr (fun t9 ht hW => ⟨rfl, hS.F ht, by rw [ht]; exact hP⟩) hS.2.2 d_Ba_clear_5

set_option maxHeartbeats 4000000 in
set_option maxRecDepth 100000 in
theorem m_Ba_insert_St (l : Launch) (D : va_G) (cI cJ cZ cO : ClassId) (b n : Nat) (v : Nat → Int32) (r : Int64) (f : Int32) (o : Nat) (x : Int32) (hn : n < 32) (ho : o ≤ n) : Met l y_Ba_insert (k_Ba_insert :: gt) rm_Ba_insert (Pc0 D cI cJ cZ cO [.ref b, .int (nI o), .int x] (fun H => va_P D cls (wBa cI 3 b n v r f) H)) (Qd (blk b 2) none (fun H => va_P D cls (wBa cI 3 b (n + 1) (upd (shu v (n - o) n) o x) r f) H)) 0 0 (blk b 2) := by
  refine Met.ofW (cc := c_Ba_insert) (maxL := 4) (ret := none) (by decide) rfl ?_
  intro p e s m args below meth c s₁ B hml hv
  obtain ⟨rfl, hKn, hP⟩ := hv
  have hx := B.exec
  have hb := B.bytes
  have hr := B.returns
  have hts := atoms_spec (ws := k_Ba_insert :: gt) B.pre
  have hg : ∀ w ∈ gt, w.before _ s = true := fun w h => hts w (List.mem_cons_of_mem _ h)
  have hown : s.vm.findClass R_Ba = some m.cls := findClass_of_methodNamed B.named
  have hlocks := B.notSynchronized
  have hK := hKn.1
  have hl := lv_entry ([.ref b, .int (nI o), .int x]) (n := 4) (Nat.le_of_ble_eq_true rfl)
  rw [lg_entry_eq]
  generalize (lg_sl ([.ref b, .int (nI o), .int x]) ++ List.replicate (4 - (lg_sl ([.ref b, .int (nI o), .int x])).length) Slot.unset).toArray = ls at hl ⊢
  have hl : lv_has ls 4 [(0, .ref b), (1, .int (nI o)), (2, .int x)] := hl
  have hS : va_S (blk b 2) s.heap s.heap [] := va_S.rf
  have hD : va_D (blk b 2) (wBa cI 3 b n v r f) := blk_D wBa_in
  refine lv_aload_n hx hb d_Ba_insert_0 rfl (lv_at hl 0 rfl) ?_
  refine va_get (D := D) (ci := 3) (v := .int (nI n)) (C := R_St) (T := F_St) (N := 4) hx hb hg in_St hown hK hP 0 rfl rfl 1 (Nat.le_of_ble_eq_true rfl) (hg _ tw_113) (fun x9 h9 => u_same (hg _ tw_114) x9 h9) rfl d_Ba_insert_1 ?_
  refine lv_istore_n (lv' := [(3, .int (nI n)), (0, .ref b), (1, .int (nI o)), (2, .int x)]) hx hb d_Ba_insert_4 rfl hl (by decide) rfl (fun ls hl => ?_)
  generalize hf0 : shu v (n - o) n = M
  have key : ∀ (k i : Nat) (v1 : Nat → Int32) (H : Heap) (locs : List Loc) (ls : Array Slot), i = o + k → i ≤ n → shu v1 k i = M → lv_has ls 4 [(3, .int (nI i)), (0, .ref b), (1, .int (nI o)), (2, .int x)] → va_P D cls (wBa cI 3 b n v1 r f) H → va_S (blk b 2) s.heap H locs → W p l e (headSpec (k_Ba_insert :: gt) rm_Ba_insert).room s m ([.ref b, .int (nI o), .int x] : List Value).toArray below meth c H locs 0 0 (MQ below (Qd (blk b 2) none (fun H => va_P D cls (wBa cI 3 b (n + 1) (upd M o x) r f) H)) ([.ref b, .int (nI o), .int x] : List Value).toArray s 0 0 (blk b 2)) (F0 m 5 ls []) := by
    intro k
    induction k with
    | zero =>
      intro i v1 H locs ls hi hin q0 hl hP hS
      obtain rfl : v1 = M := q0
      have hD : va_D (blk b 2) (wBa cI 3 b n v1 r f) := blk_D wBa_in
      refine lv_iload_n hx hb d_Ba_insert_5 rfl (lv_at hl 0 rfl) ?_
      refine lv_iload_n hx hb d_Ba_insert_6 rfl (lv_at hl 2 rfl) ?_
      refine lv_icmp_le (tgt := 30) hx hb d_Ba_insert_7 (by decide) (fun hc => ?_) (fun hc => absurd (nI_le (by omega) (by omega)) hc)
      refine lv_aload_n hx hb d_Ba_insert_30 rfl (lv_at hl 1 rfl) ?_
      refine va_get (D := D) (ci := 3) (v := .ref (b + 1)) (C := R_St) (T := F_St) (N := 4) hx hb hg in_St hown hK hP 0 rfl rfl 0 (Nat.le_of_ble_eq_true rfl) (hg _ tw_100) (fun _ h9 => h9) rfl d_Ba_insert_31 ?_
      refine lv_iload_n hx hb d_Ba_insert_34 rfl (lv_at hl 2 rfl) ?_
      refine lv_iload_n hx hb d_Ba_insert_35 rfl (lv_at hl 3 rfl) ?_
      refine ep_iast hx hb hK hP hD hS 1 0 rfl rfl (i := o) (x := x) (by omega) (by decide) d_Ba_insert_36 (fun H locs hP hD hS => ?_)
      have hP : va_P D cls (wBa cI 3 b n (upd v1 o x) r f) H := hP
      have hD : va_D (blk b 2) (wBa cI 3 b n (upd v1 o x) r f) := hD
      refine lv_aload_n hx hb d_Ba_insert_37 rfl (lv_at hl 1 rfl) ?_
      refine lv_dup hx hb d_Ba_insert_38 rfl ?_
      refine va_get (D := D) (ci := 3) (v := .int (nI n)) (C := R_St) (T := F_St) (N := 4) hx hb hg in_St hown hK hP 0 rfl rfl 1 (Nat.le_of_ble_eq_true rfl) (hg _ tw_113) (fun x9 h9 => u_same (hg _ tw_114) x9 h9) rfl d_Ba_insert_39 ?_
      refine lv_iconst (v := 1) hx hb d_Ba_insert_42 (by decide) ?_
      refine lv_iadd hx hb d_Ba_insert_43 ?_
      refine lv_topi (fun z1 e_z1 => ?_)
      obtain rfl : z1 = nI (n + 1) := by rw [e_z1]; exact (nI_1 n)
      refine va_put (D := D) (ci := 3) (v := .int (nI (n + 1))) (ty := .int) (C := R_St) (T := F_St) (N := 4) hx hb hg in_St t_St t_St_ok n_St hown hK hP hD hS 0 rfl rfl 1 (Nat.le_of_ble_eq_true rfl) (hg _ tw_113) (fun x9 h9 => u_same (hg _ tw_114) x9 h9) rfl (by decide +kernel) rfl rfl (Nat.le_of_ble_eq_true rfl) d_Ba_insert_44 (fun H locs hP hD hS => ?_)
      have hP : va_P D cls (wBa cI 3 b (n + 1) (upd v1 o x) r f) H := hP
      have hD : va_D (blk b 2) (wBa cI 3 b (n + 1) (upd v1 o x) r f) := hD
      exact W.vret hx hb hr (fun t9 ht hW => ⟨rfl, hS.F ht, by rw [ht]; exact hP⟩) hS.2.2 d_Ba_insert_47
    | succ k ih =>
      intro i v1 H locs ls hi hin q0 hl hP hS
      have hD : va_D (blk b 2) (wBa cI 3 b n v1 r f) := blk_D wBa_in
      refine lv_iload_n hx hb d_Ba_insert_5 rfl (lv_at hl 0 rfl) ?_
      refine lv_iload_n hx hb d_Ba_insert_6 rfl (lv_at hl 2 rfl) ?_
      refine lv_icmp_le (tgt := 30) hx hb d_Ba_insert_7 (by decide) (fun hc => absurd hc (nI_ge (by omega) (by omega))) (fun hc => ?_)
      refine lv_aload_n hx hb d_Ba_insert_10 rfl (lv_at hl 1 rfl) ?_
      refine va_get (D := D) (ci := 3) (v := .ref (b + 1)) (C := R_St) (T := F_St) (N := 4) hx hb hg in_St hown hK hP 0 rfl rfl 0 (Nat.le_of_ble_eq_true rfl) (hg _ tw_100) (fun _ h9 => h9) rfl d_Ba_insert_11 ?_
      refine lv_iload_n hx hb d_Ba_insert_14 rfl (lv_at hl 0 rfl) ?_
      refine lv_aload_n hx hb d_Ba_insert_15 rfl (lv_at hl 1 rfl) ?_
      refine va_get (D := D) (ci := 3) (v := .ref (b + 1)) (C := R_St) (T := F_St) (N := 4) hx hb hg in_St hown hK hP 0 rfl rfl 0 (Nat.le_of_ble_eq_true rfl) (hg _ tw_100) (fun _ h9 => h9) rfl d_Ba_insert_16 ?_
      refine lv_iload_n hx hb d_Ba_insert_19 rfl (lv_at hl 0 rfl) ?_
      refine lv_iconst (v := 1) hx hb d_Ba_insert_20 (by decide) ?_
      refine lv_isub hx hb d_Ba_insert_21 ?_
      refine lv_topi (fun z1 e_z1 => ?_)
      obtain rfl : z1 = nI (i - 1) := by rw [e_z1]; exact (sub1 (by omega))
      refine ep_iald hx hb hK hP 1 0 rfl rfl (i := (i - 1)) (by omega) (by decide) d_Ba_insert_22 ?_
      refine ep_iast hx hb hK hP hD hS 1 0 rfl rfl (i := i) (x := (v1 (i - 1))) (by omega) (by decide) d_Ba_insert_23 (fun H locs hP hD hS => ?_)
      have hP : va_P D cls (wBa cI 3 b n (upd v1 i (v1 (i - 1))) r f) H := hP
      have hD : va_D (blk b 2) (wBa cI 3 b n (upd v1 i (v1 (i - 1))) r f) := hD
      refine lv_iinc (k := 0) (lv' := [(3, .int (nI (i - 1))), (0, .ref b), (1, .int (nI o)), (2, .int x)]) hx hb d_Ba_insert_24 hl rfl (dec1 (by omega)) (by decide) rfl (fun ls hl => ?_)
      refine lv_goto (tgt := 5) hx hb d_Ba_insert_27 (by decide) ?_
      exact ih (i - 1) _ H locs ls (by omega) (by omega) q0 (lv_sub hl [0, 1, 2, 3] rfl) hP hS
  exact key (n - o) n v s.heap [] ls (by omega) (by omega) hf0 hl hP hS

set_option maxHeartbeats 4000000 in
set_option maxRecDepth 100000 in
theorem m_Ba_removeFirst_St (l : Launch) (D : va_G) (cI cJ cZ cO : ClassId) (b n : Nat) (v : Nat → Int32) (r : Int64) (f : Int32) (hn : n ≤ 32) (h0 : 0 < n) : Met l y_Ba_removeFirst (k_Ba_removeFirst :: gt) rm_Ba_removeFirst (Pc0 D cI cJ cZ cO [.ref b] (fun H => va_P D cls (wBa cI 3 b n v r f) H)) (Qd (blk b 2) (some (.int (v 0))) (fun H => va_P D cls (wBa cI 3 b (n - 1) (shd v (n - 1) 0) r f) H)) 0 0 (blk b 2) := by
  refine Met.ofW (cc := c_Ba_removeFirst) (maxL := 3) (ret := (Option.some FieldType.int)) (by decide) rfl ?_
  intro p e s m args below meth c s₁ B hml hv
  obtain ⟨rfl, hKn, hP⟩ := hv
  have hx := B.exec
  have hb := B.bytes
  have hr := B.returns
  have hts := atoms_spec (ws := k_Ba_removeFirst :: gt) B.pre
  have hg : ∀ w ∈ gt, w.before _ s = true := fun w h => hts w (List.mem_cons_of_mem _ h)
  have hown : s.vm.findClass R_Ba = some m.cls := findClass_of_methodNamed B.named
  have hlocks := B.notSynchronized
  have hK := hKn.1
  have hl := lv_entry ([.ref b]) (n := 3) (Nat.le_of_ble_eq_true rfl)
  rw [lg_entry_eq]
  generalize (lg_sl ([.ref b]) ++ List.replicate (3 - (lg_sl ([.ref b])).length) Slot.unset).toArray = ls at hl ⊢
  have hl : lv_has ls 3 [(0, .ref b)] := hl
  have hS : va_S (blk b 2) s.heap s.heap [] := va_S.rf
  have hD : va_D (blk b 2) (wBa cI 3 b n v r f) := blk_D wBa_in
  refine lv_aload_n hx hb d_Ba_removeFirst_0 rfl (lv_at hl 0 rfl) ?_
  refine va_get (D := D) (ci := 3) (v := .ref (b + 1)) (C := R_St) (T := F_St) (N := 4) hx hb hg in_St hown hK hP 0 rfl rfl 0 (Nat.le_of_ble_eq_true rfl) (hg _ tw_100) (fun _ h9 => h9) rfl d_Ba_removeFirst_1 ?_
  refine lv_iconst (v := 0) hx hb d_Ba_removeFirst_4 (by decide) ?_
  refine lv_topi (fun z0 e_z0 => ?_)
  obtain rfl : z0 = nI 0 := by rw [e_z0]; exact nI_0.symm
  refine ep_iald hx hb hK hP 1 0 rfl rfl (i := 0) (by omega) (by decide) d_Ba_removeFirst_5 ?_
  refine lv_istore_n (lv' := [(1, .int (v 0)), (0, .ref b)]) hx hb d_Ba_removeFirst_6 rfl hl (by decide) rfl (fun ls hl => ?_)
  refine lv_aload_n hx hb d_Ba_removeFirst_7 rfl (lv_at hl 1 rfl) ?_
  refine lv_dup hx hb d_Ba_removeFirst_8 rfl ?_
  refine va_get (D := D) (ci := 3) (v := .int (nI n)) (C := R_St) (T := F_St) (N := 4) hx hb hg in_St hown hK hP 0 rfl rfl 1 (Nat.le_of_ble_eq_true rfl) (hg _ tw_113) (fun x9 h9 => u_same (hg _ tw_114) x9 h9) rfl d_Ba_removeFirst_9 ?_
  refine lv_iconst (v := 1) hx hb d_Ba_removeFirst_12 (by decide) ?_
  refine lv_isub hx hb d_Ba_removeFirst_13 ?_
  refine lv_topi (fun z1 e_z1 => ?_)
  obtain rfl : z1 = nI (n - 1) := by rw [e_z1]; exact (sub1 h0)
  refine va_put (D := D) (ci := 3) (v := .int (nI (n - 1))) (ty := .int) (C := R_St) (T := F_St) (N := 4) hx hb hg in_St t_St t_St_ok n_St hown hK hP hD hS 0 rfl rfl 1 (Nat.le_of_ble_eq_true rfl) (hg _ tw_113) (fun x9 h9 => u_same (hg _ tw_114) x9 h9) rfl (by decide +kernel) rfl rfl (Nat.le_of_ble_eq_true rfl) d_Ba_removeFirst_14 (fun H locs hP hD hS => ?_)
  have hP : va_P D cls (wBa cI 3 b (n - 1) v r f) H := hP
  have hD : va_D (blk b 2) (wBa cI 3 b (n - 1) v r f) := hD
  refine lv_iconst (v := 0) hx hb d_Ba_removeFirst_17 (by decide) ?_
  refine lv_topi (fun z2 e_z2 => ?_)
  obtain rfl : z2 = nI 0 := by rw [e_z2]; exact nI_0.symm
  refine lv_istore_n (lv' := [(2, .int (nI 0)), (1, .int (v 0)), (0, .ref b)]) hx hb d_Ba_removeFirst_18 rfl hl (by decide) rfl (fun ls hl => ?_)
  generalize hx0 : v 0 = x0 at hl ⊢
  generalize hf0 : shd v (n - 1) 0 = M
  have key : ∀ (k i : Nat) (v1 : Nat → Int32) (H : Heap) (locs : List Loc) (ls : Array Slot), i + k = n - 1 → shd v1 k i = M → lv_has ls 3 [(2, .int (nI i)), (1, .int x0), (0, .ref b)] → va_P D cls (wBa cI 3 b (n - 1) v1 r f) H → va_S (blk b 2) s.heap H locs → W p l e (headSpec (k_Ba_removeFirst :: gt) rm_Ba_removeFirst).room s m ([.ref b] : List Value).toArray below meth c H locs 0 0 (MQ below (Qd (blk b 2) (some (.int x0)) (fun H => va_P D cls (wBa cI 3 b (n - 1) M r f) H)) ([.ref b] : List Value).toArray s 0 0 (blk b 2)) (F0 m 19 ls []) := by
    intro k
    induction k with
    | zero =>
      intro i v1 H locs ls hi q0 hl hP hS
      obtain rfl : v1 = M := q0
      refine lv_iload_n hx hb d_Ba_removeFirst_19 rfl (lv_at hl 0 rfl) ?_
      refine lv_aload_n hx hb d_Ba_removeFirst_20 rfl (lv_at hl 2 rfl) ?_
      refine va_get (D := D) (ci := 3) (v := .int (nI (n - 1))) (C := R_St) (T := F_St) (N := 4) hx hb hg in_St hown hK hP 0 rfl rfl 1 (Nat.le_of_ble_eq_true rfl) (hg _ tw_113) (fun x9 h9 => u_same (hg _ tw_114) x9 h9) rfl d_Ba_removeFirst_21 ?_
      refine lv_icmp_ge (tgt := 47) hx hb d_Ba_removeFirst_24 (by decide) (fun hc => ?_) (fun hc => absurd (nI_le (by omega) (by omega)) hc)
      refine lv_iload_n hx hb d_Ba_removeFirst_47 rfl (lv_at hl 1 rfl) ?_
      exact W.iret (v := x0) hx hb hr (fun t9 ht hW => ⟨rfl, hS.F ht, by rw [ht]; exact hP⟩) hS.2.2 d_Ba_removeFirst_48
    | succ k ih =>
      intro i v1 H locs ls hi q0 hl hP hS
      have hD : va_D (blk b 2) (wBa cI 3 b (n - 1) v1 r f) := blk_D wBa_in
      refine lv_iload_n hx hb d_Ba_removeFirst_19 rfl (lv_at hl 0 rfl) ?_
      refine lv_aload_n hx hb d_Ba_removeFirst_20 rfl (lv_at hl 2 rfl) ?_
      refine va_get (D := D) (ci := 3) (v := .int (nI (n - 1))) (C := R_St) (T := F_St) (N := 4) hx hb hg in_St hown hK hP 0 rfl rfl 1 (Nat.le_of_ble_eq_true rfl) (hg _ tw_113) (fun x9 h9 => u_same (hg _ tw_114) x9 h9) rfl d_Ba_removeFirst_21 ?_
      refine lv_icmp_ge (tgt := 47) hx hb d_Ba_removeFirst_24 (by decide) (fun hc => absurd hc (nI_ge (by omega) (by omega))) (fun hc => ?_)
      refine lv_aload_n hx hb d_Ba_removeFirst_27 rfl (lv_at hl 2 rfl) ?_
      refine va_get (D := D) (ci := 3) (v := .ref (b + 1)) (C := R_St) (T := F_St) (N := 4) hx hb hg in_St hown hK hP 0 rfl rfl 0 (Nat.le_of_ble_eq_true rfl) (hg _ tw_100) (fun _ h9 => h9) rfl d_Ba_removeFirst_28 ?_
      refine lv_iload_n hx hb d_Ba_removeFirst_31 rfl (lv_at hl 0 rfl) ?_
      refine lv_aload_n hx hb d_Ba_removeFirst_32 rfl (lv_at hl 2 rfl) ?_
      refine va_get (D := D) (ci := 3) (v := .ref (b + 1)) (C := R_St) (T := F_St) (N := 4) hx hb hg in_St hown hK hP 0 rfl rfl 0 (Nat.le_of_ble_eq_true rfl) (hg _ tw_100) (fun _ h9 => h9) rfl d_Ba_removeFirst_33 ?_
      refine lv_iload_n hx hb d_Ba_removeFirst_36 rfl (lv_at hl 0 rfl) ?_
      refine lv_iconst (v := 1) hx hb d_Ba_removeFirst_37 (by decide) ?_
      refine lv_iadd hx hb d_Ba_removeFirst_38 ?_
      refine lv_topi (fun z1 e_z1 => ?_)
      obtain rfl : z1 = nI (i + 1) := by rw [e_z1]; exact (nI_1 i)
      refine ep_iald hx hb hK hP 1 0 rfl rfl (i := (i + 1)) (by omega) (by decide) d_Ba_removeFirst_39 ?_
      refine ep_iast hx hb hK hP hD hS 1 0 rfl rfl (i := i) (x := (v1 (i + 1))) (by omega) (by decide) d_Ba_removeFirst_40 (fun H locs hP hD hS => ?_)
      have hP : va_P D cls (wBa cI 3 b (n - 1) (upd v1 i (v1 (i + 1))) r f) H := hP
      have hD : va_D (blk b 2) (wBa cI 3 b (n - 1) (upd v1 i (v1 (i + 1))) r f) := hD
      refine lv_iinc (k := 0) (lv' := [(2, .int (nI (i + 1))), (1, .int x0), (0, .ref b)]) hx hb d_Ba_removeFirst_41 hl rfl (inc1 _) (by decide) rfl (fun ls hl => ?_)
      refine lv_goto (tgt := 19) hx hb d_Ba_removeFirst_44 (by decide) ?_
      exact ih (i + 1) _ H locs ls (by omega) q0 (lv_sub hl [0, 1, 2] rfl) hP hS
  exact key (n - 1) 0 v H locs ls (by omega) hf0 hl hP hS

set_option maxHeartbeats 4000000 in
set_option maxRecDepth 100000 in
theorem m_St_placeFor (l : Launch) (D : va_G) (cI cJ cZ cO : ClassId) (b n : Nat) (v : Nat → Int32) (r : Int64) (f : Int32) (x : Int32) : Met l y_St_placeFor (k_St_placeFor :: gt) rm_St_placeFor (Pc0 D cI cJ cZ cO [.ref b, .int x] (fun H => va_P D cls (wBa cI 3 b n v r f) H)) (Qp (some (.int (nI 0)))) 0 0 (fun _ => False) := by
  refine Met.ofW (cc := c_St_placeFor) (maxL := 2) (ret := (Option.some FieldType.int)) (by decide) rfl ?_
  intro p e s m args below meth c s₁ B hml hv
  obtain ⟨rfl, hKn, hP⟩ := hv
  have hx := B.exec
  have hb := B.bytes
  have hr := B.returns
  have hts := atoms_spec (ws := k_St_placeFor :: gt) B.pre
  have hg : ∀ w ∈ gt, w.before _ s = true := fun w h => hts w (List.mem_cons_of_mem _ h)
  have hown : s.vm.findClass R_St = some m.cls := findClass_of_methodNamed B.named
  have hlocks := B.notSynchronized
  have hK := hKn.1
  have hl := lv_entry ([.ref b, .int x]) (n := 2) (Nat.le_of_ble_eq_true rfl)
  rw [lg_entry_eq]
  generalize (lg_sl ([.ref b, .int x]) ++ List.replicate (2 - (lg_sl ([.ref b, .int x])).length) Slot.unset).toArray = ls at hl ⊢
  have hl : lv_has ls 2 [(0, .ref b), (1, .int x)] := hl
  refine lv_iconst (v := 0) hx hb d_St_placeFor_0 (by decide) ?_
  exact W.iret (v := 0) hx hb hr (fun t9 ht hW => ⟨by rw [nI_0], ht⟩) (fun q h => nomatch h) d_St_placeFor_1

set_option maxHeartbeats 4000000 in
set_option maxRecDepth 100000 in
theorem m_Ba_perform_St_1 (l : Launch) (D : va_G) (cI cJ cZ cO : ClassId) (b n : Nat) (v : Nat → Int32) (r : Int64) (f : Int32) (x y : Int32) (hn : n < 32) : Met l y_Ba_perform (k_Ba_perform :: gt) rm_Ba_perform (Pc0 D cI cJ cZ cO [.ref b, .int 1, .int x, .int y] (fun H => va_P D cls (wBa cI 3 b n v r f) H)) (Qd (blk b 2) none (fun H => va_P D cls (wBa cI 3 b (n + 1) (upd (shu v (n - 0) n) 0 x) 0 1) H)) 0 0 (blk b 2) := by
  refine Met.ofW (cc := c_Ba_perform) (maxL := 4) (ret := none) (by decide) rfl ?_
  intro p e s m args below meth c s₁ B hml hv
  obtain ⟨rfl, hKn, hP⟩ := hv
  have hx := B.exec
  have hb := B.bytes
  have hr := B.returns
  have hts := atoms_spec (ws := k_Ba_perform :: gt) B.pre
  have hg : ∀ w ∈ gt, w.before _ s = true := fun w h => hts w (List.mem_cons_of_mem _ h)
  have hown : s.vm.findClass R_Ba = some m.cls := findClass_of_methodNamed B.named
  have hlocks := B.notSynchronized
  have hK := hKn.1
  have hl := lv_entry ([.ref b, .int 1, .int x, .int y]) (n := 4) (Nat.le_of_ble_eq_true rfl)
  rw [lg_entry_eq]
  generalize (lg_sl ([.ref b, .int 1, .int x, .int y]) ++ List.replicate (4 - (lg_sl ([.ref b, .int 1, .int x, .int y])).length) Slot.unset).toArray = ls at hl ⊢
  have hl : lv_has ls 4 [(0, .ref b), (1, .int 1), (2, .int x), (3, .int y)] := hl
  have hS : va_S (blk b 2) s.heap s.heap [] := va_S.rf
  have hD : va_D (blk b 2) (wBa cI 3 b n v r f) := blk_D wBa_in
  refine lv_iload_n hx hb d_Ba_perform_0 rfl (lv_at hl 1 rfl) ?_
  refine lv_iconst (v := 1) hx hb d_Ba_perform_1 (by decide) ?_
  refine lv_icmp_ne (tgt := 23) hx hb d_Ba_perform_2 (by decide) (fun hc => absurd (rfl) hc) (fun hc => ?_)
  refine lv_aload_n hx hb d_Ba_perform_5 rfl (lv_at hl 0 rfl) ?_
  refine lv_aload_n hx hb d_Ba_perform_6 rfl (lv_at hl 0 rfl) ?_
  refine lv_iload_n hx hb d_Ba_perform_7 rfl (lv_at hl 2 rfl) ?_
  refine ep_callP (ep_toC (va_runU (As := [.int x]) (rest := [.ref b]) ⟨hx, hb, hml, hown, hg⟩ (m_St_placeFor l D cI cJ cZ cO b n v r f x) (ep_cwA (owner := "EditablePast$Bag") 1 hg tw_443 tw_445 tw_452 tw_453 tw_7 tk_St_placeFor rfl rfl (hKn.2.2.1 _ (by decide +kernel)) (by decide +kernel) ⟨(Nat.le_of_ble_eq_true rfl), (Nat.le_of_ble_eq_true rfl)⟩) ⟨ep_blind, va_recv (q0 := 0) (ci := 3) hK hP rfl rfl, ep_pre hKn (hP)⟩ rfl rfl hl.1 rfl (lv_room (Nat.le_of_ble_eq_true rfl)) d_Ba_perform_8 ⟨Nat.zero_le _, Nat.zero_le _⟩)) ?_
  refine W.eq (g2 := F0 m 11 ls [.int (nI 0), .ref b]) rfl ?_
  refine lv_iload_n hx hb d_Ba_perform_11 rfl (lv_at hl 2 rfl) ?_
  refine ep_callH (ep_toC (va_runU (As := [.int (nI 0), .int x]) (rest := []) ⟨hx, hb, hml, hown, hg⟩ (m_Ba_insert_St l D cI cJ cZ cO b n v r f 0 x hn (by omega)) (ep_cwP 2 hg tw_455 tw_913 (ep_selP (by decide +kernel) (hg _ tw_383) rfl (va_Nw.use rfl (hKn.2.2.2.2.1 _ (by decide +kernel))) (hg _ tw_457)) tw_457 tw_5 tk_Ba_insert rfl rfl (by decide +kernel) ⟨(Nat.le_of_ble_eq_true rfl), (Nat.le_of_ble_eq_true rfl)⟩) ⟨ep_blind, va_recv (q0 := 0) (ci := 3) hK hP rfl rfl, ep_pre hKn (hP)⟩ rfl rfl hl.1 rfl (lv_room (Nat.le_of_ble_eq_true rfl)) d_Ba_perform_12 ⟨Nat.zero_le _, Nat.zero_le _⟩)) hS (fun q h => h) (fun H locs hsz9 hk1 hP1 hS => ?_)
  refine W.eq (g2 := F0 m 15 ls []) rfl ?_
  have hP : va_P D cls (wBa cI 3 b (n + 1) (upd (shu v (n - 0) n) 0 x) r f) H := hP1
  have hD : va_D (blk b 2) (wBa cI 3 b (n + 1) (upd (shu v (n - 0) n) 0 x) r f) := blk_D wBa_in
  refine lv_aload_n hx hb d_Ba_perform_15 rfl (lv_at hl 0 rfl) ?_
  refine lv_lconst (v := 0) hx hb d_Ba_perform_16 (by decide) ?_
  refine ep_callH (ep_toC (va_runU (As := [.long 0]) (rest := []) ⟨hx, hb, hml, hown, hg⟩ (m_Ct_noteEffect_St l D cI cJ cZ cO b (n + 1) (upd (shu v (n - 0) n) 0 x) r f 0) (ep_cwU (owner := "EditablePast$Contents") 1 hg tw_459 tw_460 tw_464 tw_465 tw_4 tk_Ct_noteEffect rfl rfl rfl (by decide +kernel) ⟨(Nat.le_of_ble_eq_true rfl), (Nat.le_of_ble_eq_true rfl)⟩) ⟨ep_blind, va_recv (q0 := 0) (ci := 3) hK hP rfl rfl, ep_pre hKn (hP)⟩ rfl rfl hl.1 rfl (lv_room (Nat.le_of_ble_eq_true rfl)) d_Ba_perform_17 ⟨Nat.zero_le _, Nat.zero_le _⟩)) hS (fun q h => h) (fun H locs hsz9 hk1 hP1 hS => ?_)
  refine W.eq (g2 := F0 m 20 ls []) rfl ?_
  have hP : va_P D cls (wBa cI 3 b (n + 1) (upd (shu v (n - 0) n) 0 x) 0 1) H := hP1
  have hD : va_D (blk b 2) (wBa cI 3 b (n + 1) (upd (shu v (n - 0) n) 0 x) 0 1) := blk_D wBa_in
  refine lv_goto (tgt := 46) hx hb d_Ba_perform_20 (by decide) ?_
  exact W.vret hx hb hr (fun t9 ht hW => ⟨rfl, hS.F ht, by rw [ht]; exact hP⟩) hS.2.2 d_Ba_perform_46

set_option maxHeartbeats 4000000 in
set_option maxRecDepth 100000 in
theorem m_Ba_perform_St_2 (l : Launch) (D : va_G) (cI cJ cZ cO : ClassId) (b n : Nat) (v : Nat → Int32) (r : Int64) (f : Int32) (nm x y : Int32) (hnm : ¬ nm = 1) (hn : n ≤ 32) (h0 : 0 < n) : Met l y_Ba_perform (k_Ba_perform :: gt) rm_Ba_perform (Pc0 D cI cJ cZ cO [.ref b, .int nm, .int x, .int y] (fun H => va_P D cls (wBa cI 3 b n v r f) H)) (Qd (blk b 2) none (fun H => va_P D cls (wBa cI 3 b (n - 1) (shd v (n - 1) 0) ((v 0).toInt64) 1) H)) 0 0 (blk b 2) := by
  refine Met.ofW (cc := c_Ba_perform) (maxL := 4) (ret := none) (by decide) rfl ?_
  intro p e s m args below meth c s₁ B hml hv
  obtain ⟨rfl, hKn, hP⟩ := hv
  have hx := B.exec
  have hb := B.bytes
  have hr := B.returns
  have hts := atoms_spec (ws := k_Ba_perform :: gt) B.pre
  have hg : ∀ w ∈ gt, w.before _ s = true := fun w h => hts w (List.mem_cons_of_mem _ h)
  have hown : s.vm.findClass R_Ba = some m.cls := findClass_of_methodNamed B.named
  have hlocks := B.notSynchronized
  have hK := hKn.1
  have hl := lv_entry ([.ref b, .int nm, .int x, .int y]) (n := 4) (Nat.le_of_ble_eq_true rfl)
  rw [lg_entry_eq]
  generalize (lg_sl ([.ref b, .int nm, .int x, .int y]) ++ List.replicate (4 - (lg_sl ([.ref b, .int nm, .int x, .int y])).length) Slot.unset).toArray = ls at hl ⊢
  have hl : lv_has ls 4 [(0, .ref b), (1, .int nm), (2, .int x), (3, .int y)] := hl
  have hS : va_S (blk b 2) s.heap s.heap [] := va_S.rf
  have hD : va_D (blk b 2) (wBa cI 3 b n v r f) := blk_D wBa_in
  refine lv_iload_n hx hb d_Ba_perform_0 rfl (lv_at hl 1 rfl) ?_
  refine lv_iconst (v := 1) hx hb d_Ba_perform_1 (by decide) ?_
  refine lv_icmp_ne (tgt := 23) hx hb d_Ba_perform_2 (by decide) (fun hc => ?_) (fun hc => absurd hc (hnm))
  refine lv_aload_n hx hb d_Ba_perform_23 rfl (lv_at hl 0 rfl) ?_
  refine va_get (D := D) (ci := 3) (v := .int (nI n)) (C := R_St) (T := F_St) (N := 4) hx hb hg in_St hown hK hP 0 rfl rfl 1 (Nat.le_of_ble_eq_true rfl) (hg _ tw_113) (fun x9 h9 => u_same (hg _ tw_114) x9 h9) rfl d_Ba_perform_24 ?_
  refine lv_if_le (tgt := 42) hx hb d_Ba_perform_27 (by decide) (fun hc => absurd hc (nI_nle h0 (by omega))) (fun hc => ?_)
  refine lv_aload_n hx hb d_Ba_perform_30 rfl (lv_at hl 0 rfl) ?_
  refine lv_aload_n hx hb d_Ba_perform_31 rfl (lv_at hl 0 rfl) ?_
  refine ep_callH (ep_toC (va_runU (As := []) (rest := [.ref b]) ⟨hx, hb, hml, hown, hg⟩ (m_Ba_removeFirst_St l D cI cJ cZ cO b n v r f hn h0) (ep_cwP 0 hg tw_467 tw_914 (ep_selP (by decide +kernel) (hg _ tw_383) rfl (va_Nw.use rfl (hKn.2.2.2.2.1 _ (by decide +kernel))) (hg _ tw_469)) tw_469 tw_5 tk_Ba_removeFirst rfl rfl (by decide +kernel) ⟨(Nat.le_of_ble_eq_true rfl), (Nat.le_of_ble_eq_true rfl)⟩) ⟨ep_blind, va_recv (q0 := 0) (ci := 3) hK hP rfl rfl, ep_pre hKn (hP)⟩ rfl rfl hl.1 rfl (lv_room (Nat.le_of_ble_eq_true rfl)) d_Ba_perform_32 ⟨Nat.zero_le _, Nat.zero_le _⟩)) hS (fun q h => h) (fun H locs hsz9 hk1 hP1 hS => ?_)
  refine W.eq (g2 := F0 m 35 ls [.int (v 0), .ref b]) rfl ?_
  have hP : va_P D cls (wBa cI 3 b (n - 1) (shd v (n - 1) 0) r f) H := hP1
  have hD : va_D (blk b 2) (wBa cI 3 b (n - 1) (shd v (n - 1) 0) r f) := blk_D wBa_in
  refine lv_i2l hx hb d_Ba_perform_35 rfl ?_
  refine ep_callH (ep_toC (va_runU (As := [.long ((v 0).toInt64)]) (rest := []) ⟨hx, hb, hml, hown, hg⟩ (m_Ct_noteEffect_St l D cI cJ cZ cO b (n - 1) (shd v (n - 1) 0) r f (v 0).toInt64) (ep_cwU (owner := "EditablePast$Contents") 1 hg tw_459 tw_460 tw_464 tw_465 tw_4 tk_Ct_noteEffect rfl rfl rfl (by decide +kernel) ⟨(Nat.le_of_ble_eq_true rfl), (Nat.le_of_ble_eq_true rfl)⟩) ⟨ep_blind, va_recv (q0 := 0) (ci := 3) hK hP rfl rfl, ep_pre hKn (hP)⟩ rfl rfl hl.1 rfl (lv_room (Nat.le_of_ble_eq_true rfl)) d_Ba_perform_36 ⟨Nat.zero_le _, Nat.zero_le _⟩)) hS (fun q h => h) (fun H locs hsz9 hk1 hP1 hS => ?_)
  refine W.eq (g2 := F0 m 39 ls []) rfl ?_
  have hP : va_P D cls (wBa cI 3 b (n - 1) (shd v (n - 1) 0) ((v 0).toInt64) 1) H := hP1
  have hD : va_D (blk b 2) (wBa cI 3 b (n - 1) (shd v (n - 1) 0) ((v 0).toInt64) 1) := blk_D wBa_in
  refine lv_goto (tgt := 46) hx hb d_Ba_perform_39 (by decide) ?_
  exact W.vret hx hb hr (fun t9 ht hW => ⟨rfl, hS.F ht, by rw [ht]; exact hP⟩) hS.2.2 d_Ba_perform_46

set_option maxHeartbeats 4000000 in
set_option maxRecDepth 100000 in
theorem m_Ba_perform_St_0 (l : Launch) (D : va_G) (cI cJ cZ cO : ClassId) (b n : Nat) (v : Nat → Int32) (r : Int64) (f : Int32) (nm x y : Int32) (hnm : ¬ nm = 1) (h0 : n = 0) : Met l y_Ba_perform (k_Ba_perform :: gt) rm_Ba_perform (Pc0 D cI cJ cZ cO [.ref b, .int nm, .int x, .int y] (fun H => va_P D cls (wBa cI 3 b n v r f) H)) (Qd (blk b 2) none (fun H => va_P D cls (wBa cI 3 b n v 0 0) H)) 0 0 (blk b 2) := by
  refine Met.ofW (cc := c_Ba_perform) (maxL := 4) (ret := none) (by decide) rfl ?_
  intro p e s m args below meth c s₁ B hml hv
  obtain ⟨rfl, hKn, hP⟩ := hv
  have hx := B.exec
  have hb := B.bytes
  have hr := B.returns
  have hts := atoms_spec (ws := k_Ba_perform :: gt) B.pre
  have hg : ∀ w ∈ gt, w.before _ s = true := fun w h => hts w (List.mem_cons_of_mem _ h)
  have hown : s.vm.findClass R_Ba = some m.cls := findClass_of_methodNamed B.named
  have hlocks := B.notSynchronized
  have hK := hKn.1
  have hl := lv_entry ([.ref b, .int nm, .int x, .int y]) (n := 4) (Nat.le_of_ble_eq_true rfl)
  rw [lg_entry_eq]
  generalize (lg_sl ([.ref b, .int nm, .int x, .int y]) ++ List.replicate (4 - (lg_sl ([.ref b, .int nm, .int x, .int y])).length) Slot.unset).toArray = ls at hl ⊢
  have hl : lv_has ls 4 [(0, .ref b), (1, .int nm), (2, .int x), (3, .int y)] := hl
  have hS : va_S (blk b 2) s.heap s.heap [] := va_S.rf
  have hD : va_D (blk b 2) (wBa cI 3 b n v r f) := blk_D wBa_in
  subst h0
  refine lv_iload_n hx hb d_Ba_perform_0 rfl (lv_at hl 1 rfl) ?_
  refine lv_iconst (v := 1) hx hb d_Ba_perform_1 (by decide) ?_
  refine lv_icmp_ne (tgt := 23) hx hb d_Ba_perform_2 (by decide) (fun hc => ?_) (fun hc => absurd hc (hnm))
  refine lv_aload_n hx hb d_Ba_perform_23 rfl (lv_at hl 0 rfl) ?_
  refine va_get (D := D) (ci := 3) (v := .int (nI 0)) (C := R_St) (T := F_St) (N := 4) hx hb hg in_St hown hK hP 0 rfl rfl 1 (Nat.le_of_ble_eq_true rfl) (hg _ tw_113) (fun x9 h9 => u_same (hg _ tw_114) x9 h9) rfl d_Ba_perform_24 ?_
  refine lv_if_le (tgt := 42) hx hb d_Ba_perform_27 (by decide) (fun hc => ?_) (fun hc => absurd (by rw [nI_0]; decide) hc)
  refine lv_aload_n hx hb d_Ba_perform_42 rfl (lv_at hl 0 rfl) ?_
  refine ep_callH (ep_toC (va_runU (As := []) (rest := []) ⟨hx, hb, hml, hown, hg⟩ (m_Ct_noteNoEffect_St l D cI cJ cZ cO b 0 v r f) (ep_cwU (owner := "EditablePast$Contents") 0 hg tw_471 tw_472 tw_476 tw_477 tw_4 tk_Ct_noteNoEffect rfl rfl rfl (by decide +kernel) ⟨(Nat.le_of_ble_eq_true rfl), (Nat.le_of_ble_eq_true rfl)⟩) ⟨ep_blind, va_recv (q0 := 0) (ci := 3) hK hP rfl rfl, ep_pre hKn (hP)⟩ rfl rfl hl.1 rfl (lv_room (Nat.le_of_ble_eq_true rfl)) d_Ba_perform_43 ⟨Nat.zero_le _, Nat.zero_le _⟩)) hS (fun q h => h) (fun H locs hsz9 hk1 hP1 hS => ?_)
  refine W.eq (g2 := F0 m 46 ls []) rfl ?_
  have hP : va_P D cls (wBa cI 3 b 0 v 0 0) H := hP1
  have hD : va_D (blk b 2) (wBa cI 3 b 0 v 0 0) := blk_D wBa_in
  exact W.vret hx hb hr (fun t9 ht hW => ⟨rfl, hS.F ht, by rw [ht]; exact hP⟩) hS.2.2 d_Ba_perform_46

set_option maxHeartbeats 4000000 in
set_option maxRecDepth 100000 in
theorem m_Ba_clear_He (l : Launch) (D : va_G) (cI cJ cZ cO : ClassId) (b n : Nat) (v : Nat → Int32) (r : Int64) (f : Int32) : Met l y_Ba_clear (k_Ba_clear :: gt) rm_Ba_clear (Pc0 D cI cJ cZ cO [.ref b] (fun H => va_P D cls (wBa cI 4 b n v r f) H)) (Qd (blk b 2) none (fun H => va_P D cls (wBa cI 4 b 0 v r f) H)) 0 0 (blk b 2) := by
  refine Met.ofW (cc := c_Ba_clear) (maxL := 1) (ret := none) (by decide) rfl ?_
  intro p e s m args below meth c s₁ B hml hv
  obtain ⟨rfl, hKn, hP⟩ := hv
  have hx := B.exec
  have hb := B.bytes
  have hr := B.returns
  have hts := atoms_spec (ws := k_Ba_clear :: gt) B.pre
  have hg : ∀ w ∈ gt, w.before _ s = true := fun w h => hts w (List.mem_cons_of_mem _ h)
  have hown : s.vm.findClass R_Ba = some m.cls := findClass_of_methodNamed B.named
  have hlocks := B.notSynchronized
  have hK := hKn.1
  have hl := lv_entry ([.ref b]) (n := 1) (Nat.le_of_ble_eq_true rfl)
  rw [lg_entry_eq]
  generalize (lg_sl ([.ref b]) ++ List.replicate (1 - (lg_sl ([.ref b])).length) Slot.unset).toArray = ls at hl ⊢
  have hl : lv_has ls 1 [(0, .ref b)] := hl
  have hS : va_S (blk b 2) s.heap s.heap [] := va_S.rf
  have hD : va_D (blk b 2) (wBa cI 4 b n v r f) := blk_D wBa_in
  refine lv_aload_n hx hb d_Ba_clear_0 rfl (lv_at hl 0 rfl) ?_
  refine lv_iconst (v := 0) hx hb d_Ba_clear_1 (by decide) ?_
  refine lv_topi (fun z0 e_z0 => ?_)
  obtain rfl : z0 = nI 0 := by rw [e_z0]; exact nI_0.symm
  refine va_put (D := D) (ci := 4) (v := .int (nI 0)) (ty := .int) (C := R_He) (T := F_He) (N := 4) hx hb hg in_He t_He t_He_ok n_He hown hK hP hD hS 0 rfl rfl 1 (Nat.le_of_ble_eq_true rfl) (hg _ tw_113) (fun x9 h9 => u_same (hg _ tw_114) x9 h9) rfl (by decide +kernel) rfl rfl (Nat.le_of_ble_eq_true rfl) d_Ba_clear_2 (fun H locs hP hD hS => ?_)
  have hP : va_P D cls (wBa cI 4 b 0 v r f) H := hP
  have hD : va_D (blk b 2) (wBa cI 4 b 0 v r f) := hD
  exact W.vret hx hb hr (fun t9 ht hW => ⟨rfl, hS.F ht, by rw [ht]; exact hP⟩) hS.2.2 d_Ba_clear_5

set_option maxHeartbeats 4000000 in
set_option maxRecDepth 100000 in
theorem m_Ba_insert_He (l : Launch) (D : va_G) (cI cJ cZ cO : ClassId) (b n : Nat) (v : Nat → Int32) (r : Int64) (f : Int32) (o : Nat) (x : Int32) (hn : n < 32) (ho : o ≤ n) : Met l y_Ba_insert (k_Ba_insert :: gt) rm_Ba_insert (Pc0 D cI cJ cZ cO [.ref b, .int (nI o), .int x] (fun H => va_P D cls (wBa cI 4 b n v r f) H)) (Qd (blk b 2) none (fun H => va_P D cls (wBa cI 4 b (n + 1) (upd (shu v (n - o) n) o x) r f) H)) 0 0 (blk b 2) := by
  refine Met.ofW (cc := c_Ba_insert) (maxL := 4) (ret := none) (by decide) rfl ?_
  intro p e s m args below meth c s₁ B hml hv
  obtain ⟨rfl, hKn, hP⟩ := hv
  have hx := B.exec
  have hb := B.bytes
  have hr := B.returns
  have hts := atoms_spec (ws := k_Ba_insert :: gt) B.pre
  have hg : ∀ w ∈ gt, w.before _ s = true := fun w h => hts w (List.mem_cons_of_mem _ h)
  have hown : s.vm.findClass R_Ba = some m.cls := findClass_of_methodNamed B.named
  have hlocks := B.notSynchronized
  have hK := hKn.1
  have hl := lv_entry ([.ref b, .int (nI o), .int x]) (n := 4) (Nat.le_of_ble_eq_true rfl)
  rw [lg_entry_eq]
  generalize (lg_sl ([.ref b, .int (nI o), .int x]) ++ List.replicate (4 - (lg_sl ([.ref b, .int (nI o), .int x])).length) Slot.unset).toArray = ls at hl ⊢
  have hl : lv_has ls 4 [(0, .ref b), (1, .int (nI o)), (2, .int x)] := hl
  have hS : va_S (blk b 2) s.heap s.heap [] := va_S.rf
  have hD : va_D (blk b 2) (wBa cI 4 b n v r f) := blk_D wBa_in
  refine lv_aload_n hx hb d_Ba_insert_0 rfl (lv_at hl 0 rfl) ?_
  refine va_get (D := D) (ci := 4) (v := .int (nI n)) (C := R_He) (T := F_He) (N := 4) hx hb hg in_He hown hK hP 0 rfl rfl 1 (Nat.le_of_ble_eq_true rfl) (hg _ tw_113) (fun x9 h9 => u_same (hg _ tw_114) x9 h9) rfl d_Ba_insert_1 ?_
  refine lv_istore_n (lv' := [(3, .int (nI n)), (0, .ref b), (1, .int (nI o)), (2, .int x)]) hx hb d_Ba_insert_4 rfl hl (by decide) rfl (fun ls hl => ?_)
  generalize hf0 : shu v (n - o) n = M
  have key : ∀ (k i : Nat) (v1 : Nat → Int32) (H : Heap) (locs : List Loc) (ls : Array Slot), i = o + k → i ≤ n → shu v1 k i = M → lv_has ls 4 [(3, .int (nI i)), (0, .ref b), (1, .int (nI o)), (2, .int x)] → va_P D cls (wBa cI 4 b n v1 r f) H → va_S (blk b 2) s.heap H locs → W p l e (headSpec (k_Ba_insert :: gt) rm_Ba_insert).room s m ([.ref b, .int (nI o), .int x] : List Value).toArray below meth c H locs 0 0 (MQ below (Qd (blk b 2) none (fun H => va_P D cls (wBa cI 4 b (n + 1) (upd M o x) r f) H)) ([.ref b, .int (nI o), .int x] : List Value).toArray s 0 0 (blk b 2)) (F0 m 5 ls []) := by
    intro k
    induction k with
    | zero =>
      intro i v1 H locs ls hi hin q0 hl hP hS
      obtain rfl : v1 = M := q0
      have hD : va_D (blk b 2) (wBa cI 4 b n v1 r f) := blk_D wBa_in
      refine lv_iload_n hx hb d_Ba_insert_5 rfl (lv_at hl 0 rfl) ?_
      refine lv_iload_n hx hb d_Ba_insert_6 rfl (lv_at hl 2 rfl) ?_
      refine lv_icmp_le (tgt := 30) hx hb d_Ba_insert_7 (by decide) (fun hc => ?_) (fun hc => absurd (nI_le (by omega) (by omega)) hc)
      refine lv_aload_n hx hb d_Ba_insert_30 rfl (lv_at hl 1 rfl) ?_
      refine va_get (D := D) (ci := 4) (v := .ref (b + 1)) (C := R_He) (T := F_He) (N := 4) hx hb hg in_He hown hK hP 0 rfl rfl 0 (Nat.le_of_ble_eq_true rfl) (hg _ tw_100) (fun _ h9 => h9) rfl d_Ba_insert_31 ?_
      refine lv_iload_n hx hb d_Ba_insert_34 rfl (lv_at hl 2 rfl) ?_
      refine lv_iload_n hx hb d_Ba_insert_35 rfl (lv_at hl 3 rfl) ?_
      refine ep_iast hx hb hK hP hD hS 1 0 rfl rfl (i := o) (x := x) (by omega) (by decide) d_Ba_insert_36 (fun H locs hP hD hS => ?_)
      have hP : va_P D cls (wBa cI 4 b n (upd v1 o x) r f) H := hP
      have hD : va_D (blk b 2) (wBa cI 4 b n (upd v1 o x) r f) := hD
      refine lv_aload_n hx hb d_Ba_insert_37 rfl (lv_at hl 1 rfl) ?_
      refine lv_dup hx hb d_Ba_insert_38 rfl ?_
      refine va_get (D := D) (ci := 4) (v := .int (nI n)) (C := R_He) (T := F_He) (N := 4) hx hb hg in_He hown hK hP 0 rfl rfl 1 (Nat.le_of_ble_eq_true rfl) (hg _ tw_113) (fun x9 h9 => u_same (hg _ tw_114) x9 h9) rfl d_Ba_insert_39 ?_
      refine lv_iconst (v := 1) hx hb d_Ba_insert_42 (by decide) ?_
      refine lv_iadd hx hb d_Ba_insert_43 ?_
      refine lv_topi (fun z1 e_z1 => ?_)
      obtain rfl : z1 = nI (n + 1) := by rw [e_z1]; exact (nI_1 n)
      refine va_put (D := D) (ci := 4) (v := .int (nI (n + 1))) (ty := .int) (C := R_He) (T := F_He) (N := 4) hx hb hg in_He t_He t_He_ok n_He hown hK hP hD hS 0 rfl rfl 1 (Nat.le_of_ble_eq_true rfl) (hg _ tw_113) (fun x9 h9 => u_same (hg _ tw_114) x9 h9) rfl (by decide +kernel) rfl rfl (Nat.le_of_ble_eq_true rfl) d_Ba_insert_44 (fun H locs hP hD hS => ?_)
      have hP : va_P D cls (wBa cI 4 b (n + 1) (upd v1 o x) r f) H := hP
      have hD : va_D (blk b 2) (wBa cI 4 b (n + 1) (upd v1 o x) r f) := hD
      exact W.vret hx hb hr (fun t9 ht hW => ⟨rfl, hS.F ht, by rw [ht]; exact hP⟩) hS.2.2 d_Ba_insert_47
    | succ k ih =>
      intro i v1 H locs ls hi hin q0 hl hP hS
      have hD : va_D (blk b 2) (wBa cI 4 b n v1 r f) := blk_D wBa_in
      refine lv_iload_n hx hb d_Ba_insert_5 rfl (lv_at hl 0 rfl) ?_
      refine lv_iload_n hx hb d_Ba_insert_6 rfl (lv_at hl 2 rfl) ?_
      refine lv_icmp_le (tgt := 30) hx hb d_Ba_insert_7 (by decide) (fun hc => absurd hc (nI_ge (by omega) (by omega))) (fun hc => ?_)
      refine lv_aload_n hx hb d_Ba_insert_10 rfl (lv_at hl 1 rfl) ?_
      refine va_get (D := D) (ci := 4) (v := .ref (b + 1)) (C := R_He) (T := F_He) (N := 4) hx hb hg in_He hown hK hP 0 rfl rfl 0 (Nat.le_of_ble_eq_true rfl) (hg _ tw_100) (fun _ h9 => h9) rfl d_Ba_insert_11 ?_
      refine lv_iload_n hx hb d_Ba_insert_14 rfl (lv_at hl 0 rfl) ?_
      refine lv_aload_n hx hb d_Ba_insert_15 rfl (lv_at hl 1 rfl) ?_
      refine va_get (D := D) (ci := 4) (v := .ref (b + 1)) (C := R_He) (T := F_He) (N := 4) hx hb hg in_He hown hK hP 0 rfl rfl 0 (Nat.le_of_ble_eq_true rfl) (hg _ tw_100) (fun _ h9 => h9) rfl d_Ba_insert_16 ?_
      refine lv_iload_n hx hb d_Ba_insert_19 rfl (lv_at hl 0 rfl) ?_
      refine lv_iconst (v := 1) hx hb d_Ba_insert_20 (by decide) ?_
      refine lv_isub hx hb d_Ba_insert_21 ?_
      refine lv_topi (fun z1 e_z1 => ?_)
      obtain rfl : z1 = nI (i - 1) := by rw [e_z1]; exact (sub1 (by omega))
      refine ep_iald hx hb hK hP 1 0 rfl rfl (i := (i - 1)) (by omega) (by decide) d_Ba_insert_22 ?_
      refine ep_iast hx hb hK hP hD hS 1 0 rfl rfl (i := i) (x := (v1 (i - 1))) (by omega) (by decide) d_Ba_insert_23 (fun H locs hP hD hS => ?_)
      have hP : va_P D cls (wBa cI 4 b n (upd v1 i (v1 (i - 1))) r f) H := hP
      have hD : va_D (blk b 2) (wBa cI 4 b n (upd v1 i (v1 (i - 1))) r f) := hD
      refine lv_iinc (k := 0) (lv' := [(3, .int (nI (i - 1))), (0, .ref b), (1, .int (nI o)), (2, .int x)]) hx hb d_Ba_insert_24 hl rfl (dec1 (by omega)) (by decide) rfl (fun ls hl => ?_)
      refine lv_goto (tgt := 5) hx hb d_Ba_insert_27 (by decide) ?_
      exact ih (i - 1) _ H locs ls (by omega) (by omega) q0 (lv_sub hl [0, 1, 2, 3] rfl) hP hS
  exact key (n - o) n v s.heap [] ls (by omega) (by omega) hf0 hl hP hS

set_option maxHeartbeats 4000000 in
set_option maxRecDepth 100000 in
theorem m_Ba_removeFirst_He (l : Launch) (D : va_G) (cI cJ cZ cO : ClassId) (b n : Nat) (v : Nat → Int32) (r : Int64) (f : Int32) (hn : n ≤ 32) (h0 : 0 < n) : Met l y_Ba_removeFirst (k_Ba_removeFirst :: gt) rm_Ba_removeFirst (Pc0 D cI cJ cZ cO [.ref b] (fun H => va_P D cls (wBa cI 4 b n v r f) H)) (Qd (blk b 2) (some (.int (v 0))) (fun H => va_P D cls (wBa cI 4 b (n - 1) (shd v (n - 1) 0) r f) H)) 0 0 (blk b 2) := by
  refine Met.ofW (cc := c_Ba_removeFirst) (maxL := 3) (ret := (Option.some FieldType.int)) (by decide) rfl ?_
  intro p e s m args below meth c s₁ B hml hv
  obtain ⟨rfl, hKn, hP⟩ := hv
  have hx := B.exec
  have hb := B.bytes
  have hr := B.returns
  have hts := atoms_spec (ws := k_Ba_removeFirst :: gt) B.pre
  have hg : ∀ w ∈ gt, w.before _ s = true := fun w h => hts w (List.mem_cons_of_mem _ h)
  have hown : s.vm.findClass R_Ba = some m.cls := findClass_of_methodNamed B.named
  have hlocks := B.notSynchronized
  have hK := hKn.1
  have hl := lv_entry ([.ref b]) (n := 3) (Nat.le_of_ble_eq_true rfl)
  rw [lg_entry_eq]
  generalize (lg_sl ([.ref b]) ++ List.replicate (3 - (lg_sl ([.ref b])).length) Slot.unset).toArray = ls at hl ⊢
  have hl : lv_has ls 3 [(0, .ref b)] := hl
  have hS : va_S (blk b 2) s.heap s.heap [] := va_S.rf
  have hD : va_D (blk b 2) (wBa cI 4 b n v r f) := blk_D wBa_in
  refine lv_aload_n hx hb d_Ba_removeFirst_0 rfl (lv_at hl 0 rfl) ?_
  refine va_get (D := D) (ci := 4) (v := .ref (b + 1)) (C := R_He) (T := F_He) (N := 4) hx hb hg in_He hown hK hP 0 rfl rfl 0 (Nat.le_of_ble_eq_true rfl) (hg _ tw_100) (fun _ h9 => h9) rfl d_Ba_removeFirst_1 ?_
  refine lv_iconst (v := 0) hx hb d_Ba_removeFirst_4 (by decide) ?_
  refine lv_topi (fun z0 e_z0 => ?_)
  obtain rfl : z0 = nI 0 := by rw [e_z0]; exact nI_0.symm
  refine ep_iald hx hb hK hP 1 0 rfl rfl (i := 0) (by omega) (by decide) d_Ba_removeFirst_5 ?_
  refine lv_istore_n (lv' := [(1, .int (v 0)), (0, .ref b)]) hx hb d_Ba_removeFirst_6 rfl hl (by decide) rfl (fun ls hl => ?_)
  refine lv_aload_n hx hb d_Ba_removeFirst_7 rfl (lv_at hl 1 rfl) ?_
  refine lv_dup hx hb d_Ba_removeFirst_8 rfl ?_
  refine va_get (D := D) (ci := 4) (v := .int (nI n)) (C := R_He) (T := F_He) (N := 4) hx hb hg in_He hown hK hP 0 rfl rfl 1 (Nat.le_of_ble_eq_true rfl) (hg _ tw_113) (fun x9 h9 => u_same (hg _ tw_114) x9 h9) rfl d_Ba_removeFirst_9 ?_
  refine lv_iconst (v := 1) hx hb d_Ba_removeFirst_12 (by decide) ?_
  refine lv_isub hx hb d_Ba_removeFirst_13 ?_
  refine lv_topi (fun z1 e_z1 => ?_)
  obtain rfl : z1 = nI (n - 1) := by rw [e_z1]; exact (sub1 h0)
  refine va_put (D := D) (ci := 4) (v := .int (nI (n - 1))) (ty := .int) (C := R_He) (T := F_He) (N := 4) hx hb hg in_He t_He t_He_ok n_He hown hK hP hD hS 0 rfl rfl 1 (Nat.le_of_ble_eq_true rfl) (hg _ tw_113) (fun x9 h9 => u_same (hg _ tw_114) x9 h9) rfl (by decide +kernel) rfl rfl (Nat.le_of_ble_eq_true rfl) d_Ba_removeFirst_14 (fun H locs hP hD hS => ?_)
  have hP : va_P D cls (wBa cI 4 b (n - 1) v r f) H := hP
  have hD : va_D (blk b 2) (wBa cI 4 b (n - 1) v r f) := hD
  refine lv_iconst (v := 0) hx hb d_Ba_removeFirst_17 (by decide) ?_
  refine lv_topi (fun z2 e_z2 => ?_)
  obtain rfl : z2 = nI 0 := by rw [e_z2]; exact nI_0.symm
  refine lv_istore_n (lv' := [(2, .int (nI 0)), (1, .int (v 0)), (0, .ref b)]) hx hb d_Ba_removeFirst_18 rfl hl (by decide) rfl (fun ls hl => ?_)
  generalize hx0 : v 0 = x0 at hl ⊢
  generalize hf0 : shd v (n - 1) 0 = M
  have key : ∀ (k i : Nat) (v1 : Nat → Int32) (H : Heap) (locs : List Loc) (ls : Array Slot), i + k = n - 1 → shd v1 k i = M → lv_has ls 3 [(2, .int (nI i)), (1, .int x0), (0, .ref b)] → va_P D cls (wBa cI 4 b (n - 1) v1 r f) H → va_S (blk b 2) s.heap H locs → W p l e (headSpec (k_Ba_removeFirst :: gt) rm_Ba_removeFirst).room s m ([.ref b] : List Value).toArray below meth c H locs 0 0 (MQ below (Qd (blk b 2) (some (.int x0)) (fun H => va_P D cls (wBa cI 4 b (n - 1) M r f) H)) ([.ref b] : List Value).toArray s 0 0 (blk b 2)) (F0 m 19 ls []) := by
    intro k
    induction k with
    | zero =>
      intro i v1 H locs ls hi q0 hl hP hS
      obtain rfl : v1 = M := q0
      refine lv_iload_n hx hb d_Ba_removeFirst_19 rfl (lv_at hl 0 rfl) ?_
      refine lv_aload_n hx hb d_Ba_removeFirst_20 rfl (lv_at hl 2 rfl) ?_
      refine va_get (D := D) (ci := 4) (v := .int (nI (n - 1))) (C := R_He) (T := F_He) (N := 4) hx hb hg in_He hown hK hP 0 rfl rfl 1 (Nat.le_of_ble_eq_true rfl) (hg _ tw_113) (fun x9 h9 => u_same (hg _ tw_114) x9 h9) rfl d_Ba_removeFirst_21 ?_
      refine lv_icmp_ge (tgt := 47) hx hb d_Ba_removeFirst_24 (by decide) (fun hc => ?_) (fun hc => absurd (nI_le (by omega) (by omega)) hc)
      refine lv_iload_n hx hb d_Ba_removeFirst_47 rfl (lv_at hl 1 rfl) ?_
      exact W.iret (v := x0) hx hb hr (fun t9 ht hW => ⟨rfl, hS.F ht, by rw [ht]; exact hP⟩) hS.2.2 d_Ba_removeFirst_48
    | succ k ih =>
      intro i v1 H locs ls hi q0 hl hP hS
      have hD : va_D (blk b 2) (wBa cI 4 b (n - 1) v1 r f) := blk_D wBa_in
      refine lv_iload_n hx hb d_Ba_removeFirst_19 rfl (lv_at hl 0 rfl) ?_
      refine lv_aload_n hx hb d_Ba_removeFirst_20 rfl (lv_at hl 2 rfl) ?_
      refine va_get (D := D) (ci := 4) (v := .int (nI (n - 1))) (C := R_He) (T := F_He) (N := 4) hx hb hg in_He hown hK hP 0 rfl rfl 1 (Nat.le_of_ble_eq_true rfl) (hg _ tw_113) (fun x9 h9 => u_same (hg _ tw_114) x9 h9) rfl d_Ba_removeFirst_21 ?_
      refine lv_icmp_ge (tgt := 47) hx hb d_Ba_removeFirst_24 (by decide) (fun hc => absurd hc (nI_ge (by omega) (by omega))) (fun hc => ?_)
      refine lv_aload_n hx hb d_Ba_removeFirst_27 rfl (lv_at hl 2 rfl) ?_
      refine va_get (D := D) (ci := 4) (v := .ref (b + 1)) (C := R_He) (T := F_He) (N := 4) hx hb hg in_He hown hK hP 0 rfl rfl 0 (Nat.le_of_ble_eq_true rfl) (hg _ tw_100) (fun _ h9 => h9) rfl d_Ba_removeFirst_28 ?_
      refine lv_iload_n hx hb d_Ba_removeFirst_31 rfl (lv_at hl 0 rfl) ?_
      refine lv_aload_n hx hb d_Ba_removeFirst_32 rfl (lv_at hl 2 rfl) ?_
      refine va_get (D := D) (ci := 4) (v := .ref (b + 1)) (C := R_He) (T := F_He) (N := 4) hx hb hg in_He hown hK hP 0 rfl rfl 0 (Nat.le_of_ble_eq_true rfl) (hg _ tw_100) (fun _ h9 => h9) rfl d_Ba_removeFirst_33 ?_
      refine lv_iload_n hx hb d_Ba_removeFirst_36 rfl (lv_at hl 0 rfl) ?_
      refine lv_iconst (v := 1) hx hb d_Ba_removeFirst_37 (by decide) ?_
      refine lv_iadd hx hb d_Ba_removeFirst_38 ?_
      refine lv_topi (fun z1 e_z1 => ?_)
      obtain rfl : z1 = nI (i + 1) := by rw [e_z1]; exact (nI_1 i)
      refine ep_iald hx hb hK hP 1 0 rfl rfl (i := (i + 1)) (by omega) (by decide) d_Ba_removeFirst_39 ?_
      refine ep_iast hx hb hK hP hD hS 1 0 rfl rfl (i := i) (x := (v1 (i + 1))) (by omega) (by decide) d_Ba_removeFirst_40 (fun H locs hP hD hS => ?_)
      have hP : va_P D cls (wBa cI 4 b (n - 1) (upd v1 i (v1 (i + 1))) r f) H := hP
      have hD : va_D (blk b 2) (wBa cI 4 b (n - 1) (upd v1 i (v1 (i + 1))) r f) := hD
      refine lv_iinc (k := 0) (lv' := [(2, .int (nI (i + 1))), (1, .int x0), (0, .ref b)]) hx hb d_Ba_removeFirst_41 hl rfl (inc1 _) (by decide) rfl (fun ls hl => ?_)
      refine lv_goto (tgt := 19) hx hb d_Ba_removeFirst_44 (by decide) ?_
      exact ih (i + 1) _ H locs ls (by omega) q0 (lv_sub hl [0, 1, 2] rfl) hP hS
  exact key (n - 1) 0 v H locs ls (by omega) hf0 hl hP hS

set_option maxHeartbeats 4000000 in
set_option maxRecDepth 100000 in
theorem m_He_placeFor (l : Launch) (D : va_G) (cI cJ cZ cO : ClassId) (b n : Nat) (v : Nat → Int32) (r : Int64) (f : Int32) (x : Int32) (hn : n ≤ 32) : Met l y_He_placeFor (k_He_placeFor :: gt) rm_He_placeFor (Pc0 D cI cJ cZ cO [.ref b, .int x] (fun H => va_P D cls (wBa cI 4 b n v r f) H)) (Qp (some (.int (nI (pfr v x n 0))))) 0 0 (fun _ => False) := by
  refine Met.ofW (cc := c_He_placeFor) (maxL := 3) (ret := (Option.some FieldType.int)) (by decide) rfl ?_
  intro p e s m args below meth c s₁ B hml hv
  obtain ⟨rfl, hKn, hP⟩ := hv
  have hx := B.exec
  have hb := B.bytes
  have hr := B.returns
  have hts := atoms_spec (ws := k_He_placeFor :: gt) B.pre
  have hg : ∀ w ∈ gt, w.before _ s = true := fun w h => hts w (List.mem_cons_of_mem _ h)
  have hown : s.vm.findClass R_He = some m.cls := findClass_of_methodNamed B.named
  have hlocks := B.notSynchronized
  have hK := hKn.1
  have hl := lv_entry ([.ref b, .int x]) (n := 3) (Nat.le_of_ble_eq_true rfl)
  rw [lg_entry_eq]
  generalize (lg_sl ([.ref b, .int x]) ++ List.replicate (3 - (lg_sl ([.ref b, .int x])).length) Slot.unset).toArray = ls at hl ⊢
  have hl : lv_has ls 3 [(0, .ref b), (1, .int x)] := hl
  refine lv_iconst (v := 0) hx hb d_He_placeFor_0 (by decide) ?_
  refine lv_topi (fun z0 e_z0 => ?_)
  obtain rfl : z0 = nI 0 := by rw [e_z0]; exact nI_0.symm
  refine lv_istore_n (lv' := [(2, .int (nI 0)), (0, .ref b), (1, .int x)]) hx hb d_He_placeFor_1 rfl hl (by decide) rfl (fun ls hl => ?_)
  have key : ∀ (k i : Nat) (ls : Array Slot), i + k = n → pfr v x k i = pfr v x n 0 → lv_has ls 3 [(2, .int (nI i)), (0, .ref b), (1, .int x)] → W p l e (headSpec (k_He_placeFor :: gt) rm_He_placeFor).room s m ([.ref b, .int x] : List Value).toArray below meth c s.heap [] 0 0 (MQ below (Qp (some (.int (nI (pfr v x n 0))))) ([.ref b, .int x] : List Value).toArray s 0 0 (fun _ => False)) (F0 m 2 ls []) := by
    intro k
    induction k with
    | zero =>
      intro i ls hi hq hl
      refine lv_iload_n hx hb d_He_placeFor_2 rfl (lv_at hl 0 rfl) ?_
      refine lv_aload_n hx hb d_He_placeFor_3 rfl (lv_at hl 1 rfl) ?_
      refine va_get (D := D) (ci := 4) (v := .int (nI n)) (C := R_He) (T := F_He) (N := 4) hx hb hg in_He hown hK hP 0 rfl rfl 1 (Nat.le_of_ble_eq_true rfl) (hg _ tw_107) (fun x9 h9 => u_same (hg _ tw_108) x9 h9) rfl d_He_placeFor_4 ?_
      refine lv_icmp_ge (tgt := 26) hx hb d_He_placeFor_7 (by decide) (fun hc => ?_) (fun hc => absurd (nI_le (by omega) (by omega)) hc)
      refine lv_iload_n hx hb d_He_placeFor_26 rfl (lv_at hl 0 rfl) ?_
      exact W.iret (v := nI i) hx hb hr (fun t9 ht hW => ⟨by rw [← hq]; rfl, ht⟩) (fun q h => nomatch h) d_He_placeFor_27
    | succ k ih =>
      intro i ls hi hq hl
      have hq : (if v i < x then pfr v x k (i + 1) else i) = pfr v x n 0 := hq
      refine lv_iload_n hx hb d_He_placeFor_2 rfl (lv_at hl 0 rfl) ?_
      refine lv_aload_n hx hb d_He_placeFor_3 rfl (lv_at hl 1 rfl) ?_
      refine va_get (D := D) (ci := 4) (v := .int (nI n)) (C := R_He) (T := F_He) (N := 4) hx hb hg in_He hown hK hP 0 rfl rfl 1 (Nat.le_of_ble_eq_true rfl) (hg _ tw_107) (fun x9 h9 => u_same (hg _ tw_108) x9 h9) rfl d_He_placeFor_4 ?_
      refine lv_icmp_ge (tgt := 26) hx hb d_He_placeFor_7 (by decide) (fun hc => absurd hc (nI_ge (by omega) (by omega))) (fun hc => ?_)
      refine lv_aload_n hx hb d_He_placeFor_10 rfl (lv_at hl 1 rfl) ?_
      refine va_get (D := D) (ci := 4) (v := .ref (b + 1)) (C := R_He) (T := F_He) (N := 4) hx hb hg in_He hown hK hP 0 rfl rfl 0 (Nat.le_of_ble_eq_true rfl) (hg _ tw_101) (fun x9 h9 => u_same (hg _ tw_102) x9 h9) rfl d_He_placeFor_11 ?_
      refine lv_iload_n hx hb d_He_placeFor_14 rfl (lv_at hl 0 rfl) ?_
      refine ep_iald hx hb hK hP 1 0 rfl rfl (i := i) (by omega) (by decide) d_He_placeFor_15 ?_
      refine lv_iload_n hx hb d_He_placeFor_16 rfl (lv_at hl 2 rfl) ?_
      refine lv_icmp_ge (tgt := 26) hx hb d_He_placeFor_17 (by decide) (fun hc => ?_) (fun hc => ?_)
      · rw [if_neg (k2_nlt hc)] at hq
        refine lv_iload_n hx hb d_He_placeFor_26 rfl (lv_at hl 0 rfl) ?_
        exact W.iret (v := nI i) hx hb hr (fun t9 ht hW => ⟨by rw [← hq], ht⟩) (fun q h => nomatch h) d_He_placeFor_27
      · rw [if_pos (k2_lt hc)] at hq
        refine lv_iinc (k := 0) (lv' := [(2, .int (nI (i + 1))), (0, .ref b), (1, .int x)]) hx hb d_He_placeFor_20 hl rfl (inc1 _) (by decide) rfl (fun ls hl => ?_)
        refine lv_goto (tgt := 2) hx hb d_He_placeFor_23 (by decide) ?_
        exact ih (i + 1) ls (by omega) hq hl
  exact key n 0 ls (by omega) rfl hl

set_option maxHeartbeats 4000000 in
set_option maxRecDepth 100000 in
theorem m_Ba_perform_He_1 (l : Launch) (D : va_G) (cI cJ cZ cO : ClassId) (b n : Nat) (v : Nat → Int32) (r : Int64) (f : Int32) (x y : Int32) (hn : n < 32) : Met l y_Ba_perform (k_Ba_perform :: gt) rm_Ba_perform (Pc0 D cI cJ cZ cO [.ref b, .int 1, .int x, .int y] (fun H => va_P D cls (wBa cI 4 b n v r f) H)) (Qd (blk b 2) none (fun H => va_P D cls (wBa cI 4 b (n + 1) (upd (shu v (n - (pfr v x n 0)) n) (pfr v x n 0) x) 0 1) H)) 0 0 (blk b 2) := by
  refine Met.ofW (cc := c_Ba_perform) (maxL := 4) (ret := none) (by decide) rfl ?_
  intro p e s m args below meth c s₁ B hml hv
  obtain ⟨rfl, hKn, hP⟩ := hv
  have hx := B.exec
  have hb := B.bytes
  have hr := B.returns
  have hts := atoms_spec (ws := k_Ba_perform :: gt) B.pre
  have hg : ∀ w ∈ gt, w.before _ s = true := fun w h => hts w (List.mem_cons_of_mem _ h)
  have hown : s.vm.findClass R_Ba = some m.cls := findClass_of_methodNamed B.named
  have hlocks := B.notSynchronized
  have hK := hKn.1
  have hl := lv_entry ([.ref b, .int 1, .int x, .int y]) (n := 4) (Nat.le_of_ble_eq_true rfl)
  rw [lg_entry_eq]
  generalize (lg_sl ([.ref b, .int 1, .int x, .int y]) ++ List.replicate (4 - (lg_sl ([.ref b, .int 1, .int x, .int y])).length) Slot.unset).toArray = ls at hl ⊢
  have hl : lv_has ls 4 [(0, .ref b), (1, .int 1), (2, .int x), (3, .int y)] := hl
  have hS : va_S (blk b 2) s.heap s.heap [] := va_S.rf
  have hD : va_D (blk b 2) (wBa cI 4 b n v r f) := blk_D wBa_in
  refine lv_iload_n hx hb d_Ba_perform_0 rfl (lv_at hl 1 rfl) ?_
  refine lv_iconst (v := 1) hx hb d_Ba_perform_1 (by decide) ?_
  refine lv_icmp_ne (tgt := 23) hx hb d_Ba_perform_2 (by decide) (fun hc => absurd (rfl) hc) (fun hc => ?_)
  refine lv_aload_n hx hb d_Ba_perform_5 rfl (lv_at hl 0 rfl) ?_
  refine lv_aload_n hx hb d_Ba_perform_6 rfl (lv_at hl 0 rfl) ?_
  refine lv_iload_n hx hb d_Ba_perform_7 rfl (lv_at hl 2 rfl) ?_
  refine ep_callP (ep_toC (va_runU (As := [.int x]) (rest := [.ref b]) ⟨hx, hb, hml, hown, hg⟩ (m_He_placeFor l D cI cJ cZ cO b n v r f x (by omega)) (ep_cwA (owner := "EditablePast$Bag") 1 hg tw_443 tw_445 tw_446 tw_447 tw_9 tk_He_placeFor rfl rfl (hKn.2.2.1 _ (by decide +kernel)) (by decide +kernel) ⟨(Nat.le_of_ble_eq_true rfl), (Nat.le_of_ble_eq_true rfl)⟩) ⟨ep_blind, va_recv (q0 := 0) (ci := 4) hK hP rfl rfl, ep_pre hKn (hP)⟩ rfl rfl hl.1 rfl (lv_room (Nat.le_of_ble_eq_true rfl)) d_Ba_perform_8 ⟨Nat.zero_le _, Nat.zero_le _⟩)) ?_
  refine W.eq (g2 := F0 m 11 ls [.int (nI (pfr v x n 0)), .ref b]) rfl ?_
  refine lv_iload_n hx hb d_Ba_perform_11 rfl (lv_at hl 2 rfl) ?_
  have hp0 := pfr_le v x n 0
  refine ep_callH (ep_toC (va_runU (As := [.int (nI (pfr v x n 0)), .int x]) (rest := []) ⟨hx, hb, hml, hown, hg⟩ (m_Ba_insert_He l D cI cJ cZ cO b n v r f (pfr v x n 0) x hn (by omega)) (ep_cwP 2 hg tw_455 tw_913 (ep_selP (by decide +kernel) (hg _ tw_365) rfl (va_Nw.use rfl (hKn.2.2.2.2.1 _ (by decide +kernel))) (hg _ tw_457)) tw_457 tw_5 tk_Ba_insert rfl rfl (by decide +kernel) ⟨(Nat.le_of_ble_eq_true rfl), (Nat.le_of_ble_eq_true rfl)⟩) ⟨ep_blind, va_recv (q0 := 0) (ci := 4) hK hP rfl rfl, ep_pre hKn (hP)⟩ rfl rfl hl.1 rfl (lv_room (Nat.le_of_ble_eq_true rfl)) d_Ba_perform_12 ⟨Nat.zero_le _, Nat.zero_le _⟩)) hS (fun q h => h) (fun H locs hsz9 hk1 hP1 hS => ?_)
  refine W.eq (g2 := F0 m 15 ls []) rfl ?_
  have hP : va_P D cls (wBa cI 4 b (n + 1) (upd (shu v (n - (pfr v x n 0)) n) (pfr v x n 0) x) r f) H := hP1
  have hD : va_D (blk b 2) (wBa cI 4 b (n + 1) (upd (shu v (n - (pfr v x n 0)) n) (pfr v x n 0) x) r f) := blk_D wBa_in
  refine lv_aload_n hx hb d_Ba_perform_15 rfl (lv_at hl 0 rfl) ?_
  refine lv_lconst (v := 0) hx hb d_Ba_perform_16 (by decide) ?_
  refine ep_callH (ep_toC (va_runU (As := [.long 0]) (rest := []) ⟨hx, hb, hml, hown, hg⟩ (m_Ct_noteEffect_He l D cI cJ cZ cO b (n + 1) (upd (shu v (n - (pfr v x n 0)) n) (pfr v x n 0) x) r f 0) (ep_cwU (owner := "EditablePast$Contents") 1 hg tw_459 tw_460 tw_462 tw_465 tw_4 tk_Ct_noteEffect rfl rfl rfl (by decide +kernel) ⟨(Nat.le_of_ble_eq_true rfl), (Nat.le_of_ble_eq_true rfl)⟩) ⟨ep_blind, va_recv (q0 := 0) (ci := 4) hK hP rfl rfl, ep_pre hKn (hP)⟩ rfl rfl hl.1 rfl (lv_room (Nat.le_of_ble_eq_true rfl)) d_Ba_perform_17 ⟨Nat.zero_le _, Nat.zero_le _⟩)) hS (fun q h => h) (fun H locs hsz9 hk1 hP1 hS => ?_)
  refine W.eq (g2 := F0 m 20 ls []) rfl ?_
  have hP : va_P D cls (wBa cI 4 b (n + 1) (upd (shu v (n - (pfr v x n 0)) n) (pfr v x n 0) x) 0 1) H := hP1
  have hD : va_D (blk b 2) (wBa cI 4 b (n + 1) (upd (shu v (n - (pfr v x n 0)) n) (pfr v x n 0) x) 0 1) := blk_D wBa_in
  refine lv_goto (tgt := 46) hx hb d_Ba_perform_20 (by decide) ?_
  exact W.vret hx hb hr (fun t9 ht hW => ⟨rfl, hS.F ht, by rw [ht]; exact hP⟩) hS.2.2 d_Ba_perform_46

set_option maxHeartbeats 4000000 in
set_option maxRecDepth 100000 in
theorem m_Ba_perform_He_2 (l : Launch) (D : va_G) (cI cJ cZ cO : ClassId) (b n : Nat) (v : Nat → Int32) (r : Int64) (f : Int32) (nm x y : Int32) (hnm : ¬ nm = 1) (hn : n ≤ 32) (h0 : 0 < n) : Met l y_Ba_perform (k_Ba_perform :: gt) rm_Ba_perform (Pc0 D cI cJ cZ cO [.ref b, .int nm, .int x, .int y] (fun H => va_P D cls (wBa cI 4 b n v r f) H)) (Qd (blk b 2) none (fun H => va_P D cls (wBa cI 4 b (n - 1) (shd v (n - 1) 0) ((v 0).toInt64) 1) H)) 0 0 (blk b 2) := by
  refine Met.ofW (cc := c_Ba_perform) (maxL := 4) (ret := none) (by decide) rfl ?_
  intro p e s m args below meth c s₁ B hml hv
  obtain ⟨rfl, hKn, hP⟩ := hv
  have hx := B.exec
  have hb := B.bytes
  have hr := B.returns
  have hts := atoms_spec (ws := k_Ba_perform :: gt) B.pre
  have hg : ∀ w ∈ gt, w.before _ s = true := fun w h => hts w (List.mem_cons_of_mem _ h)
  have hown : s.vm.findClass R_Ba = some m.cls := findClass_of_methodNamed B.named
  have hlocks := B.notSynchronized
  have hK := hKn.1
  have hl := lv_entry ([.ref b, .int nm, .int x, .int y]) (n := 4) (Nat.le_of_ble_eq_true rfl)
  rw [lg_entry_eq]
  generalize (lg_sl ([.ref b, .int nm, .int x, .int y]) ++ List.replicate (4 - (lg_sl ([.ref b, .int nm, .int x, .int y])).length) Slot.unset).toArray = ls at hl ⊢
  have hl : lv_has ls 4 [(0, .ref b), (1, .int nm), (2, .int x), (3, .int y)] := hl
  have hS : va_S (blk b 2) s.heap s.heap [] := va_S.rf
  have hD : va_D (blk b 2) (wBa cI 4 b n v r f) := blk_D wBa_in
  refine lv_iload_n hx hb d_Ba_perform_0 rfl (lv_at hl 1 rfl) ?_
  refine lv_iconst (v := 1) hx hb d_Ba_perform_1 (by decide) ?_
  refine lv_icmp_ne (tgt := 23) hx hb d_Ba_perform_2 (by decide) (fun hc => ?_) (fun hc => absurd hc (hnm))
  refine lv_aload_n hx hb d_Ba_perform_23 rfl (lv_at hl 0 rfl) ?_
  refine va_get (D := D) (ci := 4) (v := .int (nI n)) (C := R_He) (T := F_He) (N := 4) hx hb hg in_He hown hK hP 0 rfl rfl 1 (Nat.le_of_ble_eq_true rfl) (hg _ tw_113) (fun x9 h9 => u_same (hg _ tw_114) x9 h9) rfl d_Ba_perform_24 ?_
  refine lv_if_le (tgt := 42) hx hb d_Ba_perform_27 (by decide) (fun hc => absurd hc (nI_nle h0 (by omega))) (fun hc => ?_)
  refine lv_aload_n hx hb d_Ba_perform_30 rfl (lv_at hl 0 rfl) ?_
  refine lv_aload_n hx hb d_Ba_perform_31 rfl (lv_at hl 0 rfl) ?_
  refine ep_callH (ep_toC (va_runU (As := []) (rest := [.ref b]) ⟨hx, hb, hml, hown, hg⟩ (m_Ba_removeFirst_He l D cI cJ cZ cO b n v r f hn h0) (ep_cwP 0 hg tw_467 tw_914 (ep_selP (by decide +kernel) (hg _ tw_365) rfl (va_Nw.use rfl (hKn.2.2.2.2.1 _ (by decide +kernel))) (hg _ tw_469)) tw_469 tw_5 tk_Ba_removeFirst rfl rfl (by decide +kernel) ⟨(Nat.le_of_ble_eq_true rfl), (Nat.le_of_ble_eq_true rfl)⟩) ⟨ep_blind, va_recv (q0 := 0) (ci := 4) hK hP rfl rfl, ep_pre hKn (hP)⟩ rfl rfl hl.1 rfl (lv_room (Nat.le_of_ble_eq_true rfl)) d_Ba_perform_32 ⟨Nat.zero_le _, Nat.zero_le _⟩)) hS (fun q h => h) (fun H locs hsz9 hk1 hP1 hS => ?_)
  refine W.eq (g2 := F0 m 35 ls [.int (v 0), .ref b]) rfl ?_
  have hP : va_P D cls (wBa cI 4 b (n - 1) (shd v (n - 1) 0) r f) H := hP1
  have hD : va_D (blk b 2) (wBa cI 4 b (n - 1) (shd v (n - 1) 0) r f) := blk_D wBa_in
  refine lv_i2l hx hb d_Ba_perform_35 rfl ?_
  refine ep_callH (ep_toC (va_runU (As := [.long ((v 0).toInt64)]) (rest := []) ⟨hx, hb, hml, hown, hg⟩ (m_Ct_noteEffect_He l D cI cJ cZ cO b (n - 1) (shd v (n - 1) 0) r f (v 0).toInt64) (ep_cwU (owner := "EditablePast$Contents") 1 hg tw_459 tw_460 tw_462 tw_465 tw_4 tk_Ct_noteEffect rfl rfl rfl (by decide +kernel) ⟨(Nat.le_of_ble_eq_true rfl), (Nat.le_of_ble_eq_true rfl)⟩) ⟨ep_blind, va_recv (q0 := 0) (ci := 4) hK hP rfl rfl, ep_pre hKn (hP)⟩ rfl rfl hl.1 rfl (lv_room (Nat.le_of_ble_eq_true rfl)) d_Ba_perform_36 ⟨Nat.zero_le _, Nat.zero_le _⟩)) hS (fun q h => h) (fun H locs hsz9 hk1 hP1 hS => ?_)
  refine W.eq (g2 := F0 m 39 ls []) rfl ?_
  have hP : va_P D cls (wBa cI 4 b (n - 1) (shd v (n - 1) 0) ((v 0).toInt64) 1) H := hP1
  have hD : va_D (blk b 2) (wBa cI 4 b (n - 1) (shd v (n - 1) 0) ((v 0).toInt64) 1) := blk_D wBa_in
  refine lv_goto (tgt := 46) hx hb d_Ba_perform_39 (by decide) ?_
  exact W.vret hx hb hr (fun t9 ht hW => ⟨rfl, hS.F ht, by rw [ht]; exact hP⟩) hS.2.2 d_Ba_perform_46

set_option maxHeartbeats 4000000 in
set_option maxRecDepth 100000 in
theorem m_Ba_perform_He_0 (l : Launch) (D : va_G) (cI cJ cZ cO : ClassId) (b n : Nat) (v : Nat → Int32) (r : Int64) (f : Int32) (nm x y : Int32) (hnm : ¬ nm = 1) (h0 : n = 0) : Met l y_Ba_perform (k_Ba_perform :: gt) rm_Ba_perform (Pc0 D cI cJ cZ cO [.ref b, .int nm, .int x, .int y] (fun H => va_P D cls (wBa cI 4 b n v r f) H)) (Qd (blk b 2) none (fun H => va_P D cls (wBa cI 4 b n v 0 0) H)) 0 0 (blk b 2) := by
  refine Met.ofW (cc := c_Ba_perform) (maxL := 4) (ret := none) (by decide) rfl ?_
  intro p e s m args below meth c s₁ B hml hv
  obtain ⟨rfl, hKn, hP⟩ := hv
  have hx := B.exec
  have hb := B.bytes
  have hr := B.returns
  have hts := atoms_spec (ws := k_Ba_perform :: gt) B.pre
  have hg : ∀ w ∈ gt, w.before _ s = true := fun w h => hts w (List.mem_cons_of_mem _ h)
  have hown : s.vm.findClass R_Ba = some m.cls := findClass_of_methodNamed B.named
  have hlocks := B.notSynchronized
  have hK := hKn.1
  have hl := lv_entry ([.ref b, .int nm, .int x, .int y]) (n := 4) (Nat.le_of_ble_eq_true rfl)
  rw [lg_entry_eq]
  generalize (lg_sl ([.ref b, .int nm, .int x, .int y]) ++ List.replicate (4 - (lg_sl ([.ref b, .int nm, .int x, .int y])).length) Slot.unset).toArray = ls at hl ⊢
  have hl : lv_has ls 4 [(0, .ref b), (1, .int nm), (2, .int x), (3, .int y)] := hl
  have hS : va_S (blk b 2) s.heap s.heap [] := va_S.rf
  have hD : va_D (blk b 2) (wBa cI 4 b n v r f) := blk_D wBa_in
  subst h0
  refine lv_iload_n hx hb d_Ba_perform_0 rfl (lv_at hl 1 rfl) ?_
  refine lv_iconst (v := 1) hx hb d_Ba_perform_1 (by decide) ?_
  refine lv_icmp_ne (tgt := 23) hx hb d_Ba_perform_2 (by decide) (fun hc => ?_) (fun hc => absurd hc (hnm))
  refine lv_aload_n hx hb d_Ba_perform_23 rfl (lv_at hl 0 rfl) ?_
  refine va_get (D := D) (ci := 4) (v := .int (nI 0)) (C := R_He) (T := F_He) (N := 4) hx hb hg in_He hown hK hP 0 rfl rfl 1 (Nat.le_of_ble_eq_true rfl) (hg _ tw_113) (fun x9 h9 => u_same (hg _ tw_114) x9 h9) rfl d_Ba_perform_24 ?_
  refine lv_if_le (tgt := 42) hx hb d_Ba_perform_27 (by decide) (fun hc => ?_) (fun hc => absurd (by rw [nI_0]; decide) hc)
  refine lv_aload_n hx hb d_Ba_perform_42 rfl (lv_at hl 0 rfl) ?_
  refine ep_callH (ep_toC (va_runU (As := []) (rest := []) ⟨hx, hb, hml, hown, hg⟩ (m_Ct_noteNoEffect_He l D cI cJ cZ cO b 0 v r f) (ep_cwU (owner := "EditablePast$Contents") 0 hg tw_471 tw_472 tw_474 tw_477 tw_4 tk_Ct_noteNoEffect rfl rfl rfl (by decide +kernel) ⟨(Nat.le_of_ble_eq_true rfl), (Nat.le_of_ble_eq_true rfl)⟩) ⟨ep_blind, va_recv (q0 := 0) (ci := 4) hK hP rfl rfl, ep_pre hKn (hP)⟩ rfl rfl hl.1 rfl (lv_room (Nat.le_of_ble_eq_true rfl)) d_Ba_perform_43 ⟨Nat.zero_le _, Nat.zero_le _⟩)) hS (fun q h => h) (fun H locs hsz9 hk1 hP1 hS => ?_)
  refine W.eq (g2 := F0 m 46 ls []) rfl ?_
  have hP : va_P D cls (wBa cI 4 b 0 v 0 0) H := hP1
  have hD : va_D (blk b 2) (wBa cI 4 b 0 v 0 0) := blk_D wBa_in
  exact W.vret hx hb hr (fun t9 ht hW => ⟨rfl, hS.F ht, by rw [ht]; exact hP⟩) hS.2.2 d_Ba_perform_46
