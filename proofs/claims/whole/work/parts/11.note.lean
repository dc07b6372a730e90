/-! by wip/whole/gen/contents.py -/
set_option maxHeartbeats 4000000 in
set_option maxRecDepth 100000 in
theorem m_Ct_noteEffect_Ta (l : Launch) (D : va_G) (cI cJ cZ cO : ClassId) (b n : Nat) (ks vs : Nat → Int32) (r : Int64) (f : Int32) (x : Int64) : Met l y_Ct_noteEffect (k_Ct_noteEffect :: gt) rm_Ct_noteEffect (Pc0 D cI cJ cZ cO [.ref b, .long x] (fun H => va_P D cls (wTa cI b n ks vs r f) H)) (Qd (blk b 3) none (fun H => va_P D cls (wTa cI b n ks vs x 1) H)) 0 0 (blk b 3) := by
  refine Met.ofW (cc := c_Ct_noteEffect) (maxL := 3) (ret := none) (by decide) rfl ?_
  intro p e s m args below meth c s₁ B hml hv
  obtain ⟨rfl, hKn, hP⟩ := hv
  have hx := B.exec
  have hb := B.bytes
  have hr := B.returns
  have hts := atoms_spec (ws := k_Ct_noteEffect :: gt) B.pre
  have hg : ∀ w ∈ gt, w.before _ s = true := fun w h => hts w (List.mem_cons_of_mem _ h)
  have hown : s.vm.findClass R_Ct = some m.cls := findClass_of_methodNamed B.named
  have hlocks := B.notSynchronized
  have hK := hKn.1
  have hl := lv_entry ([.ref b, .long x]) (n := 3) (Nat.le_of_ble_eq_true rfl)
  rw [lg_entry_eq]
  generalize (lg_sl ([.ref b, .long x]) ++ List.replicate (3 - (lg_sl ([.ref b, .long x])).length) Slot.unset).toArray = ls at hl ⊢
  have hl : lv_has ls 3 [(0, .ref b), (1, .long x)] := hl
  have hS : va_S (blk b 3) s.heap s.heap [] := va_S.rf
  have hD : va_D (blk b 3) (wTa cI b n ks vs r f) := blk_D wTa_in
  refine lv_aload_n hx hb d_Ct_noteEffect_0 rfl (lv_at hl 0 rfl) ?_
  refine lv_lload_n hx hb d_Ct_noteEffect_1 rfl (lv_at hl 1 rfl) ?_
  refine va_put (D := D) (ci := 5) (v := .long x) (ty := .long) (C := R_Ta) (T := F_Ta) (N := 5) hx hb hg in_Ta t_Ta t_Ta_ok n_Ta hown hK hP hD hS 0 rfl rfl 3 (Nat.le_of_ble_eq_true rfl) (hg _ tw_118) (fun _ h9 => h9) rfl (by decide +kernel) rfl rfl (Nat.le_of_ble_eq_true rfl) d_Ct_noteEffect_2 (fun H locs hP hD hS => ?_)
  have hP : va_P D cls (wTa cI b n ks vs x f) H := hP
  have hD : va_D (blk b 3) (wTa cI b n ks vs x f) := hD
  refine lv_aload_n hx hb d_Ct_noteEffect_5 rfl (lv_at hl 0 rfl) ?_
  refine lv_iconst (v := 1) hx hb d_Ct_noteEffect_6 (by decide) ?_
  refine va_put (D := D) (ci := 5) (v := .int 1) (ty := .boolean) (C := R_Ta) (T := F_Ta) (N := 5) hx hb hg in_Ta t_Ta t_Ta_ok n_Ta hown hK hP hD hS 0 rfl rfl 4 (Nat.le_of_ble_eq_true rfl) (hg _ tw_120) (fun _ h9 => h9) rfl (by decide +kernel) rfl rfl (Nat.le_of_ble_eq_true rfl) d_Ct_noteEffect_7 (fun H locs hP hD hS => ?_)
  have hP : va_P D cls (wTa cI b n ks vs x 1) H := hP
  have hD : va_D (blk b 3) (wTa cI b n ks vs x 1) := hD
  exact W.vret hx hb hr (fun t9 ht hW => ⟨rfl, hS.F ht, by rw [ht]; exact hP⟩) hS.2.2 d_Ct_noteEffect_10

set_option maxHeartbeats 4000000 in
set_option maxRecDepth 100000 in
theorem m_Ct_noteNoEffect_Ta (l : Launch) (D : va_G) (cI cJ cZ cO : ClassId) (b n : Nat) (ks vs : Nat → Int32) (r : Int64) (f : Int32) : Met l y_Ct_noteNoEffect (k_Ct_noteNoEffect :: gt) rm_Ct_noteNoEffect (Pc0 D cI cJ cZ cO [.ref b] (fun H => va_P D cls (wTa cI b n ks vs r f) H)) (Qd (blk b 3) none (fun H => va_P D cls (wTa cI b n ks vs 0 0) H)) 0 0 (blk b 3) := by
  refine Met.ofW (cc := c_Ct_noteNoEffect) (maxL := 1) (ret := none) (by decide) rfl ?_
  intro p e s m args below meth c s₁ B hml hv
  obtain ⟨rfl, hKn, hP⟩ := hv
  have hx := B.exec
  have hb := B.bytes
  have hr := B.returns
  have hts := atoms_spec (ws := k_Ct_noteNoEffect :: gt) B.pre
  have hg : ∀ w ∈ gt, w.before _ s = true := fun w h => hts w (List.mem_cons_of_mem _ h)
  have hown : s.vm.findClass R_Ct = some m.cls := findClass_of_methodNamed B.named
  have hlocks := B.notSynchronized
  have hK := hKn.1
  have hl := lv_entry ([.ref b]) (n := 1) (Nat.le_of_ble_eq_true rfl)
  rw [lg_entry_eq]
  generalize (lg_sl ([.ref b]) ++ List.replicate (1 - (lg_sl ([.ref b])).length) Slot.unset).toArray = ls at hl ⊢
  have hl : lv_has ls 1 [(0, .ref b)] := hl
  have hS : va_S (blk b 3) s.heap s.heap [] := va_S.rf
  have hD : va_D (blk b 3) (wTa cI b n ks vs r f) := blk_D wTa_in
  refine lv_aload_n hx hb d_Ct_noteNoEffect_0 rfl (lv_at hl 0 rfl) ?_
  refine lv_lconst (v := 0) hx hb d_Ct_noteNoEffect_1 (by decide) ?_
  refine va_put (D := D) (ci := 5) (v := .long 0) (ty := .long) (C := R_Ta) (T := F_Ta) (N := 5) hx hb hg in_Ta t_Ta t_Ta_ok n_Ta hown hK hP hD hS 0 rfl rfl 3 (Nat.le_of_ble_eq_true rfl) (hg _ tw_118) (fun _ h9 => h9) rfl (by decide +kernel) rfl rfl (Nat.le_of_ble_eq_true rfl) d_Ct_noteNoEffect_2 (fun H locs hP hD hS => ?_)
  have hP : va_P D cls (wTa cI b n ks vs 0 f) H := hP
  have hD : va_D (blk b 3) (wTa cI b n ks vs 0 f) := hD
  refine lv_aload_n hx hb d_Ct_noteNoEffect_5 rfl (lv_at hl 0 rfl) ?_
  refine lv_iconst (v := 0) hx hb d_Ct_noteNoEffect_6 (by decide) ?_
  refine va_put (D := D) (ci := 5) (v := .int 0) (ty := .boolean) (C := R_Ta) (T := F_Ta) (N := 5) hx hb hg in_Ta t_Ta t_Ta_ok n_Ta hown hK hP hD hS 0 rfl rfl 4 (Nat.le_of_ble_eq_true rfl) (hg _ tw_120) (fun _ h9 => h9) rfl (by decide +kernel) rfl rfl (Nat.le_of_ble_eq_true rfl) d_Ct_noteNoEffect_7 (fun H locs hP hD hS => ?_)
  have hP : va_P D cls (wTa cI b n ks vs 0 0) H := hP
  have hD : va_D (blk b 3) (wTa cI b n ks vs 0 0) := hD
  exact W.vret hx hb hr (fun t9 ht hW => ⟨rfl, hS.F ht, by rw [ht]; exact hP⟩) hS.2.2 d_Ct_noteNoEffect_10

set_option maxHeartbeats 4000000 in
set_option maxRecDepth 100000 in
theorem m_Ct_noteEffect_Re (l : Launch) (D : va_G) (cI cJ cZ cO : ClassId) (b : Nat) (tot : Int64) (n : Nat) (r : Int64) (f : Int32) (x : Int64) : Met l y_Ct_noteEffect (k_Ct_noteEffect :: gt) rm_Ct_noteEffect (Pc0 D cI cJ cZ cO [.ref b, .long x] (fun H => va_P D cls (wRe b tot n r f) H)) (Qd (blk b 1) none (fun H => va_P D cls (wRe b tot n x 1) H)) 0 0 (blk b 1) := by
  refine Met.ofW (cc := c_Ct_noteEffect) (maxL := 3) (ret := none) (by decide) rfl ?_
  intro p e s m args below meth c s₁ B hml hv
  obtain ⟨rfl, hKn, hP⟩ := hv
  have hx := B.exec
  have hb := B.bytes
  have hr := B.returns
  have hts := atoms_spec (ws := k_Ct_noteEffect :: gt) B.pre
  have hg : ∀ w ∈ gt, w.before _ s = true := fun w h => hts w (List.mem_cons_of_mem _ h)
  have hown : s.vm.findClass R_Ct = some m.cls := findClass_of_methodNamed B.named
  have hlocks := B.notSynchronized
  have hK := hKn.1
  have hl := lv_entry ([.ref b, .long x]) (n := 3) (Nat.le_of_ble_eq_true rfl)
  rw [lg_entry_eq]
  generalize (lg_sl ([.ref b, .long x]) ++ List.replicate (3 - (lg_sl ([.ref b, .long x])).length) Slot.unset).toArray = ls at hl ⊢
  have hl : lv_has ls 3 [(0, .ref b), (1, .long x)] := hl
  have hS : va_S (blk b 1) s.heap s.heap [] := va_S.rf
  have hD : va_D (blk b 1) (wRe b tot n r f) := blk_D wRe_in
  refine lv_aload_n hx hb d_Ct_noteEffect_0 rfl (lv_at hl 0 rfl) ?_
  refine lv_lload_n hx hb d_Ct_noteEffect_1 rfl (lv_at hl 1 rfl) ?_
  refine va_put (D := D) (ci := 6) (v := .long x) (ty := .long) (C := R_Re) (T := F_Re) (N := 4) hx hb hg in_Re t_Re t_Re_ok n_Re hown hK hP hD hS 0 rfl rfl 2 (Nat.le_of_ble_eq_true rfl) (hg _ tw_118) (fun _ h9 => h9) rfl (by decide +kernel) rfl rfl (Nat.le_of_ble_eq_true rfl) d_Ct_noteEffect_2 (fun H locs hP hD hS => ?_)
  have hP : va_P D cls (wRe b tot n x f) H := hP
  have hD : va_D (blk b 1) (wRe b tot n x f) := hD
  refine lv_aload_n hx hb d_Ct_noteEffect_5 rfl (lv_at hl 0 rfl) ?_
  refine lv_iconst (v := 1) hx hb d_Ct_noteEffect_6 (by decide) ?_
  refine va_put (D := D) (ci := 6) (v := .int 1) (ty := .boolean) (C := R_Re) (T := F_Re) (N := 4) hx hb hg in_Re t_Re t_Re_ok n_Re hown hK hP hD hS 0 rfl rfl 3 (Nat.le_of_ble_eq_true rfl) (hg _ tw_120) (fun _ h9 => h9) rfl (by decide +kernel) rfl rfl (Nat.le_of_ble_eq_true rfl) d_Ct_noteEffect_7 (fun H locs hP hD hS => ?_)
  have hP : va_P D cls (wRe b tot n x 1) H := hP
  have hD : va_D (blk b 1) (wRe b tot n x 1) := hD
  exact W.vret hx hb hr (fun t9 ht hW => ⟨rfl, hS.F ht, by rw [ht]; exact hP⟩) hS.2.2 d_Ct_noteEffect_10

set_option maxHeartbeats 4000000 in
set_option maxRecDepth 100000 in
theorem m_Ct_noteEffect_Se (l : Launch) (D : va_G) (cI cJ cZ cO : ClassId) (b : Nat) (cn : Int32) (ld : Nat → Int32) (r : Int64) (f : Int32) (x : Int64) : Met l y_Ct_noteEffect (k_Ct_noteEffect :: gt) rm_Ct_noteEffect (Pc0 D cI cJ cZ cO [.ref b, .long x] (fun H => va_P D cls (wSe cI b cn ld r f) H)) (Qd (blk b 2) none (fun H => va_P D cls (wSe cI b cn ld x 1) H)) 0 0 (blk b 2) := by
  refine Met.ofW (cc := c_Ct_noteEffect) (maxL := 3) (ret := none) (by decide) rfl ?_
  intro p e s m args below meth c s₁ B hml hv
  obtain ⟨rfl, hKn, hP⟩ := hv
  have hx := B.exec
  have hb := B.bytes
  have hr := B.returns
  have hts := atoms_spec (ws := k_Ct_noteEffect :: gt) B.pre
  have hg : ∀ w ∈ gt, w.before _ s = true := fun w h => hts w (List.mem_cons_of_mem _ h)
  have hown : s.vm.findClass R_Ct = some m.cls := findClass_of_methodNamed B.named
  have hlocks := B.notSynchronized
  have hK := hKn.1
  have hl := lv_entry ([.ref b, .long x]) (n := 3) (Nat.le_of_ble_eq_true rfl)
  rw [lg_entry_eq]
  generalize (lg_sl ([.ref b, .long x]) ++ List.replicate (3 - (lg_sl ([.ref b, .long x])).length) Slot.unset).toArray = ls at hl ⊢
  have hl : lv_has ls 3 [(0, .ref b), (1, .long x)] := hl
  have hS : va_S (blk b 2) s.heap s.heap [] := va_S.rf
  have hD : va_D (blk b 2) (wSe cI b cn ld r f) := blk_D wSe_in
  refine lv_aload_n hx hb d_Ct_noteEffect_0 rfl (lv_at hl 0 rfl) ?_
  refine lv_lload_n hx hb d_Ct_noteEffect_1 rfl (lv_at hl 1 rfl) ?_
  refine va_put (D := D) (ci := 7) (v := .long x) (ty := .long) (C := R_Se) (T := F_Se) (N := 4) hx hb hg in_Se t_Se t_Se_ok n_Se hown hK hP hD hS 0 rfl rfl 2 (Nat.le_of_ble_eq_true rfl) (hg _ tw_118) (fun _ h9 => h9) rfl (by decide +kernel) rfl rfl (Nat.le_of_ble_eq_true rfl) d_Ct_noteEffect_2 (fun H locs hP hD hS => ?_)
  have hP : va_P D cls (wSe cI b cn ld x f) H := hP
  have hD : va_D (blk b 2) (wSe cI b cn ld x f) := hD
  refine lv_aload_n hx hb d_Ct_noteEffect_5 rfl (lv_at hl 0 rfl) ?_
  refine lv_iconst (v := 1) hx hb d_Ct_noteEffect_6 (by decide) ?_
  refine va_put (D := D) (ci := 7) (v := .int 1) (ty := .boolean) (C := R_Se) (T := F_Se) (N := 4) hx hb hg in_Se t_Se t_Se_ok n_Se hown hK hP hD hS 0 rfl rfl 3 (Nat.le_of_ble_eq_true rfl) (hg _ tw_120) (fun _ h9 => h9) rfl (by decide +kernel) rfl rfl (Nat.le_of_ble_eq_true rfl) d_Ct_noteEffect_7 (fun H locs hP hD hS => ?_)
  have hP : va_P D cls (wSe cI b cn ld x 1) H := hP
  have hD : va_D (blk b 2) (wSe cI b cn ld x 1) := hD
  exact W.vret hx hb hr (fun t9 ht hW => ⟨rfl, hS.F ht, by rw [ht]; exact hP⟩) hS.2.2 d_Ct_noteEffect_10

set_option maxHeartbeats 4000000 in
set_option maxRecDepth 100000 in
theorem m_Ct_noteNoEffect_Se (l : Launch) (D : va_G) (cI cJ cZ cO : ClassId) (b : Nat) (cn : Int32) (ld : Nat → Int32) (r : Int64) (f : Int32) : Met l y_Ct_noteNoEffect (k_Ct_noteNoEffect :: gt) rm_Ct_noteNoEffect (Pc0 D cI cJ cZ cO [.ref b] (fun H => va_P D cls (wSe cI b cn ld r f) H)) (Qd (blk b 2) none (fun H => va_P D cls (wSe cI b cn ld 0 0) H)) 0 0 (blk b 2) := by
  refine Met.ofW (cc := c_Ct_noteNoEffect) (maxL := 1) (ret := none) (by decide) rfl ?_
  intro p e s m args below meth c s₁ B hml hv
  obtain ⟨rfl, hKn, hP⟩ := hv
  have hx := B.exec
  have hb := B.bytes
  have hr := B.returns
  have hts := atoms_spec (ws := k_Ct_noteNoEffect :: gt) B.pre
  have hg : ∀ w ∈ gt, w.before _ s = true := fun w h => hts w (List.mem_cons_of_mem _ h)
  have hown : s.vm.findClass R_Ct = some m.cls := findClass_of_methodNamed B.named
  have hlocks := B.notSynchronized
  have hK := hKn.1
  have hl := lv_entry ([.ref b]) (n := 1) (Nat.le_of_ble_eq_true rfl)
  rw [lg_entry_eq]
  generalize (lg_sl ([.ref b]) ++ List.replicate (1 - (lg_sl ([.ref b])).length) Slot.unset).toArray = ls at hl ⊢
  have hl : lv_has ls 1 [(0, .ref b)] := hl
  have hS : va_S (blk b 2) s.heap s.heap [] := va_S.rf
  have hD : va_D (blk b 2) (wSe cI b cn ld r f) := blk_D wSe_in
  refine lv_aload_n hx hb d_Ct_noteNoEffect_0 rfl (lv_at hl 0 rfl) ?_
  refine lv_lconst (v := 0) hx hb d_Ct_noteNoEffect_1 (by decide) ?_
  refine va_put (D := D) (ci := 7) (v := .long 0) (ty := .long) (C := R_Se) (T := F_Se) (N := 4) hx hb hg in_Se t_Se t_Se_ok n_Se hown hK hP hD hS 0 rfl rfl 2 (Nat.le_of_ble_eq_true rfl) (hg _ tw_118) (fun _ h9 => h9) rfl (by decide +kernel) rfl rfl (Nat.le_of_ble_eq_true rfl) d_Ct_noteNoEffect_2 (fun H locs hP hD hS => ?_)
  have hP : va_P D cls (wSe cI b cn ld 0 f) H := hP
  have hD : va_D (blk b 2) (wSe cI b cn ld 0 f) := hD
  refine lv_aload_n hx hb d_Ct_noteNoEffect_5 rfl (lv_at hl 0 rfl) ?_
  refine lv_iconst (v := 0) hx hb d_Ct_noteNoEffect_6 (by decide) ?_
  refine va_put (D := D) (ci := 7) (v := .int 0) (ty := .boolean) (C := R_Se) (T := F_Se) (N := 4) hx hb hg in_Se t_Se t_Se_ok n_Se hown hK hP hD hS 0 rfl rfl 3 (Nat.le_of_ble_eq_true rfl) (hg _ tw_120) (fun _ h9 => h9) rfl (by decide +kernel) rfl rfl (Nat.le_of_ble_eq_true rfl) d_Ct_noteNoEffect_7 (fun H locs hP hD hS => ?_)
  have hP : va_P D cls (wSe cI b cn ld 0 0) H := hP
  have hD : va_D (blk b 2) (wSe cI b cn ld 0 0) := hD
  exact W.vret hx hb hr (fun t9 ht hW => ⟨rfl, hS.F ht, by rw [ht]; exact hP⟩) hS.2.2 d_Ct_noteNoEffect_10
