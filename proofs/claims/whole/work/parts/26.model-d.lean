/-! contracts of EditablePastModel (by wip/whole/gen/model.py) -/
def g_Mo_run_0_48 (ti : Nat → Int32) (nm : Nat → Int32) (xa : Nat → Int32) (j : Nat) (t : Int32) : Nat → Nat → Nat → (Nat → Int32) → (Nat → Int32) → (Nat → Int32) → Int64 → (Nat → Int64) → (Nat → Int32) → Nat × (Nat → Int32) × (Nat → Int32) × (Nat → Int32) × Int64 × (Nat → Int64) × (Nat → Int32)
  | 0, i, mc, it, vs, se, sm, rs, wk => (mc, it, vs, se, sm, rs, wk)
  | k + 1, i, mc, it, vs, se, sm, rs, wk => if t < (ti (32 * j + i)) then ((mc, it, vs, se, sm, rs, wk)) else (g_Mo_run_0_48 ti nm xa j t k (i + 1) ((f_Mo_doBag_0 mc it vs (vp_updL rs i 0) i (nm (32 * j + i)) (xa (32 * j + i))).2.1) ((f_Mo_doBag_0 mc it vs (vp_updL rs i 0) i (nm (32 * j + i)) (xa (32 * j + i))).2.2.1) ((f_Mo_doBag_0 mc it vs (vp_updL rs i 0) i (nm (32 * j + i)) (xa (32 * j + i))).2.2.2.1) se sm ((f_Mo_doBag_0 mc it vs (vp_updL rs i 0) i (nm (32 * j + i)) (xa (32 * j + i))).2.2.2.2) (upd wk i ((f_Mo_doBag_0 mc it vs (vp_updL rs i 0) i (nm (32 * j + i)) (xa (32 * j + i))).1)))

def g_Mo_run_0_23 (ti : Nat → Int32) (nm : Nat → Int32) (xa : Nat → Int32) (it : Nat → Int32) (vs : Nat → Int32) (rs : Nat → Int64) (wk : Nat → Int32) (n : Nat) (j : Nat) (t : Int32) : Nat → Nat → (Nat → Int32) → Nat × (Nat → Int32) × (Nat → Int32) × (Nat → Int32) × Int64 × (Nat → Int64) × (Nat → Int32)
  | 0, i, se => g_Mo_run_0_48 ti nm xa j t n 0 0 it vs se 0 rs wk
  | k + 1, i, se => g_Mo_run_0_23 ti nm xa it vs rs wk n j t k (i + 1) (upd se i (nI i))

def f_Mo_run_0 (ti : Nat → Int32) (nm : Nat → Int32) (xa : Nat → Int32) (it : Nat → Int32) (vs : Nat → Int32) (se : Nat → Int32) (rs : Nat → Int64) (wk : Nat → Int32) (n : Nat) (j : Nat) (t : Int32) : Nat × (Nat → Int32) × (Nat → Int32) × (Nat → Int32) × Int64 × (Nat → Int64) × (Nat → Int32) := g_Mo_run_0_23 ti nm xa it vs rs wk n j t 16 0 se
set_option maxHeartbeats 4000000 in
set_option maxRecDepth 100000 in
theorem m_Mo_run_0 (l : Launch) (D : va_G) (cI cJ cZ cO : ClassId) (a : Nat) (code : Int32) (kn : Nat → Int32) (ed : Nat → Int32) (ct : Nat → Int32) (ti : Nat → Int32) (nm : Nat → Int32) (xa : Nat → Int32) (xb : Nat → Int32) (ma : Int32) (it : Nat → Int32) (vs : Nat → Int32) (se : Nat → Int32) (sm : Int64) (rs : Nat → Int64) (wk : Nat → Int32) (ors : Nat → Int64) (owk : Nat → Int32) (n : Nat) (j : Nat) (t : Int32) (hj : j < 8) (hct : ct j = nI n) (hn : n ≤ 32) (R : Nat × (Nat → Int32) × (Nat → Int32) × (Nat → Int32) × Int64 × (Nat → Int64) × (Nat → Int32)) (hR : f_Mo_run_0 ti nm xa it vs se rs wk n j t = R) : Met l y_Md_run (k_Md_run :: gt) rm_Md_run (Pc0 D cI cJ cZ cO [.ref a, .int (nI j), .int 0, .int t] (fun H => va_P D cls (wMo cI cJ cZ a code kn ed ct ti nm xa xb ma it vs se sm rs wk ors owk) H)) (Qd (blk a 15) none (fun H => va_P D cls (wMo cI cJ cZ a code kn ed ct ti nm xa xb (nI R.1) R.2.1 R.2.2.1 R.2.2.2.1 R.2.2.2.2.1 R.2.2.2.2.2.1 R.2.2.2.2.2.2 ors owk) H)) 0 0 (blk a 15) := by
  refine Met.ofW (cc := c_Md_run) (maxL := 8) (ret := none) (by decide) rfl ?_
  intro p e s m args below meth c s₁ B hml hv
  obtain ⟨rfl, hKn, hP⟩ := hv
  have hx := B.exec
  have hb := B.bytes
  have hr := B.returns
  have hts := atoms_spec (ws := k_Md_run :: gt) B.pre
  have hg : ∀ w ∈ gt, w.before _ s = true := fun w h => hts w (List.mem_cons_of_mem _ h)
  have hown : s.vm.findClass R_Md = some m.cls := findClass_of_methodNamed B.named
  have hlocks := B.notSynchronized
  have hK := hKn.1
  have hl := lv_entry ([.ref a, .int (nI j), .int 0, .int t]) (n := 8) (Nat.le_of_ble_eq_true rfl)
  rw [lg_entry_eq]
  generalize (lg_sl ([.ref a, .int (nI j), .int 0, .int t]) ++ List.replicate (8 - (lg_sl ([.ref a, .int (nI j), .int 0, .int t])).length) Slot.unset).toArray = ls at hl ⊢
  have hl : lv_has ls 8 [(0, .ref a), (1, .int (nI j)), (2, .int 0), (3, .int t)] := hl
  have hS : va_S (blk a 15) s.heap s.heap [] := va_S.rf
  have hD : va_D (blk a 15) (wMo cI cJ cZ a code kn ed ct ti nm xa xb ma it vs se sm rs wk ors owk) := (blk_D (wMo_in))
  have key_48 : ∀ (k : Nat) (i : Nat) (mc : Nat) (it : Nat → Int32) (vs : Nat → Int32) (se : Nat → Int32) (sm : Int64) (rs : Nat → Int64) (wk : Nat → Int32) (H : Heap) (locs : List Loc) (ls : Array Slot), i + k = n → mc ≤ i → g_Mo_run_0_48 ti nm xa j t k i mc it vs se sm rs wk = R → lv_has ls 8 [(4, .int (nI i)), (0, .ref a), (1, .int (nI j)), (2, .int 0), (3, .int t)] → va_P D cls (wMo cI cJ cZ a code kn ed ct ti nm xa xb (nI mc) it vs se sm rs wk ors owk) H → va_S (blk a 15) s.heap H locs → W p l e (headSpec (k_Md_run :: gt) rm_Md_run).room s m ([.ref a, .int (nI j), .int 0, .int t] : List Value).toArray below meth c H locs 0 0 (MQ below (Qd (blk a 15) none (fun H => va_P D cls (wMo cI cJ cZ a code kn ed ct ti nm xa xb (nI R.1) R.2.1 R.2.2.1 R.2.2.2.1 R.2.2.2.2.1 R.2.2.2.2.2.1 R.2.2.2.2.2.2 ors owk) H)) ([.ref a, .int (nI j), .int 0, .int t] : List Value).toArray s 0 0 (blk a 15)) (F0 m 48 ls []) := by
    intro k
    induction k with
    | zero =>
      intro i mc it vs se sm rs wk H locs ls hi hm hR hl hP hS
      have hR : ((mc, it, vs, se, sm, rs, wk)) = R := hR
      have hD : va_D (blk a 15) (wMo cI cJ cZ a code kn ed ct ti nm xa xb (nI mc) it vs se sm rs wk ors owk) := (blk_D (wMo_in))
      refine lv_iload hx hb d_Md_run_48 (lv_at hl 0 rfl) ?_
      refine lv_aload_n hx hb d_Md_run_50 rfl (lv_at hl 1 rfl) ?_
      refine va_get (D := D) (ci := 9) (v := .ref (a + 3)) (C := R_Md) (T := F_Md) (N := 17) hx hb hg in_Md hown hK hP 0 rfl rfl 3 (Nat.le_of_ble_eq_true rfl) (hg _ tw_709) (fun _ h9 => h9) rfl d_Md_run_51 ?_
      refine lv_iload_n hx hb d_Md_run_54 rfl (lv_at hl 2 rfl) ?_
      refine ep_iald hx hb hK hP 3 0 rfl rfl (i := j) (by omega) (by decide) d_Md_run_55 ?_
      refine lv_topi (fun z9 e_z9 => ?_)
      obtain rfl : z9 = nI n := by rw [e_z9]; exact hct
      refine lv_icmp_ge (tgt := 241) hx hb d_Md_run_56 (by decide) (fun hc => ?_) (fun hc => False.elim (by have hc : ¬ (n ≤ i) := fun h => hc (by exact (nI_leI (a := n) (b := i) (by omega) (by omega)).mpr h); omega))
      subst hR
      exact W.vret hx hb hr (fun t9 ht hW => ⟨rfl, hS.F ht, by rw [ht]; exact hP⟩) hS.2.2 d_Md_run_241
    | succ k ih =>
      intro i mc it vs se sm rs wk H locs ls hi hm hR hl hP hS
      have hR : (if t < (ti (32 * j + i)) then ((mc, it, vs, se, sm, rs, wk)) else (g_Mo_run_0_48 ti nm xa j t k (i + 1) ((f_Mo_doBag_0 mc it vs (vp_updL rs i 0) i (nm (32 * j + i)) (xa (32 * j + i))).2.1) ((f_Mo_doBag_0 mc it vs (vp_updL rs i 0) i (nm (32 * j + i)) (xa (32 * j + i))).2.2.1) ((f_Mo_doBag_0 mc it vs (vp_updL rs i 0) i (nm (32 * j + i)) (xa (32 * j + i))).2.2.2.1) se sm ((f_Mo_doBag_0 mc it vs (vp_updL rs i 0) i (nm (32 * j + i)) (xa (32 * j + i))).2.2.2.2) (upd wk i ((f_Mo_doBag_0 mc it vs (vp_updL rs i 0) i (nm (32 * j + i)) (xa (32 * j + i))).1)))) = R := hR
      have hD : va_D (blk a 15) (wMo cI cJ cZ a code kn ed ct ti nm xa xb (nI mc) it vs se sm rs wk ors owk) := (blk_D (wMo_in))
      refine lv_iload hx hb d_Md_run_48 (lv_at hl 0 rfl) ?_
      refine lv_aload_n hx hb d_Md_run_50 rfl (lv_at hl 1 rfl) ?_
      refine va_get (D := D) (ci := 9) (v := .ref (a + 3)) (C := R_Md) (T := F_Md) (N := 17) hx hb hg in_Md hown hK hP 0 rfl rfl 3 (Nat.le_of_ble_eq_true rfl) (hg _ tw_709) (fun _ h9 => h9) rfl d_Md_run_51 ?_
      refine lv_iload_n hx hb d_Md_run_54 rfl (lv_at hl 2 rfl) ?_
      refine ep_iald hx hb hK hP 3 0 rfl rfl (i := j) (by omega) (by decide) d_Md_run_55 ?_
      refine lv_topi (fun z9 e_z9 => ?_)
      obtain rfl : z9 = nI n := by rw [e_z9]; exact hct
      refine lv_icmp_ge (tgt := 241) hx hb d_Md_run_56 (by decide) (fun hc => False.elim (by have hc := (nI_leI (a := n) (b := i) (by omega) (by omega)).mp hc; omega)) (fun hc => ?_)
      refine lv_aload_n hx hb d_Md_run_59 rfl (lv_at hl 1 rfl) ?_
      refine va_get (D := D) (ci := 9) (v := .ref (a + 4)) (C := R_Md) (T := F_Md) (N := 17) hx hb hg in_Md hown hK hP 0 rfl rfl 4 (Nat.le_of_ble_eq_true rfl) (hg _ tw_710) (fun _ h9 => h9) rfl d_Md_run_60 ?_
      refine lv_bipush (v := 32) hx hb d_Md_run_63 (by decide) ?_
      refine lv_iload_n hx hb d_Md_run_65 rfl (lv_at hl 2 rfl) ?_
      refine lv_imul hx hb d_Md_run_66 ?_
      refine lv_topi (fun z9 e_z9 => ?_)
      obtain rfl : z9 = nI (32 * j) := by rw [e_z9]; exact (nI_mul 32 j)
      refine lv_iload hx hb d_Md_run_67 (lv_at hl 0 rfl) ?_
      refine lv_iadd hx hb d_Md_run_69 ?_
      refine lv_topi (fun z9 e_z9 => ?_)
      obtain rfl : z9 = nI (32 * j + i) := by rw [e_z9]; exact (nI_add (32 * j) i)
      refine ep_iald hx hb hK hP 4 0 rfl rfl (i := (32 * j + i)) (by omega) (by decide) d_Md_run_70 ?_
      refine lv_iload_n hx hb d_Md_run_71 rfl (lv_at hl 4 rfl) ?_
      refine lv_icmp_gt (tgt := 241) hx hb d_Md_run_72 (by decide) (fun hc1 => ?_) (fun hc1 => ?_)
      · have hc1 : t < (ti (32 * j + i)) := hc1
        rw [if_pos hc1] at hR
        subst hR
        exact W.vret hx hb hr (fun t9 ht hW => ⟨rfl, hS.F ht, by rw [ht]; exact hP⟩) hS.2.2 d_Md_run_241
      · have hc1 : ¬ (t < (ti (32 * j + i))) := hc1
        refine lv_aload_n hx hb d_Md_run_75 rfl (lv_at hl 1 rfl) ?_
        refine va_get (D := D) (ci := 9) (v := .ref (a + 5)) (C := R_Md) (T := F_Md) (N := 17) hx hb hg in_Md hown hK hP 0 rfl rfl 5 (Nat.le_of_ble_eq_true rfl) (hg _ tw_711) (fun _ h9 => h9) rfl d_Md_run_76 ?_
        refine lv_bipush (v := 32) hx hb d_Md_run_79 (by decide) ?_
        refine lv_iload_n hx hb d_Md_run_81 rfl (lv_at hl 2 rfl) ?_
        refine lv_imul hx hb d_Md_run_82 ?_
        refine lv_topi (fun z9 e_z9 => ?_)
        obtain rfl : z9 = nI (32 * j) := by rw [e_z9]; exact (nI_mul 32 j)
        refine lv_iload hx hb d_Md_run_83 (lv_at hl 0 rfl) ?_
        refine lv_iadd hx hb d_Md_run_85 ?_
        refine lv_topi (fun z9 e_z9 => ?_)
        obtain rfl : z9 = nI (32 * j + i) := by rw [e_z9]; exact (nI_add (32 * j) i)
        refine ep_iald hx hb hK hP 5 0 rfl rfl (i := (32 * j + i)) (by omega) (by decide) d_Md_run_86 ?_
        refine lv_istore (lv' := [(5, .int (nm (32 * j + i))), (4, .int (nI i)), (0, .ref a), (1, .int (nI j)), (2, .int 0), (3, .int t)]) hx hb d_Md_run_87 hl (by decide) rfl (fun ls hl => ?_)
        refine lv_aload_n hx hb d_Md_run_89 rfl (lv_at hl 2 rfl) ?_
        refine va_get (D := D) (ci := 9) (v := .ref (a + 6)) (C := R_Md) (T := F_Md) (N := 17) hx hb hg in_Md hown hK hP 0 rfl rfl 6 (Nat.le_of_ble_eq_true rfl) (hg _ tw_712) (fun _ h9 => h9) rfl d_Md_run_90 ?_
        refine lv_bipush (v := 32) hx hb d_Md_run_93 (by decide) ?_
        refine lv_iload_n hx hb d_Md_run_95 rfl (lv_at hl 3 rfl) ?_
        refine lv_imul hx hb d_Md_run_96 ?_
        refine lv_topi (fun z9 e_z9 => ?_)
        obtain rfl : z9 = nI (32 * j) := by rw [e_z9]; exact (nI_mul 32 j)
        refine lv_iload hx hb d_Md_run_97 (lv_at hl 1 rfl) ?_
        refine lv_iadd hx hb d_Md_run_99 ?_
        refine lv_topi (fun z9 e_z9 => ?_)
        obtain rfl : z9 = nI (32 * j + i) := by rw [e_z9]; exact (nI_add (32 * j) i)
        refine ep_iald hx hb hK hP 6 0 rfl rfl (i := (32 * j + i)) (by omega) (by decide) d_Md_run_100 ?_
        refine lv_istore (lv' := [(6, .int (xa (32 * j + i))), (5, .int (nm (32 * j + i))), (4, .int (nI i)), (0, .ref a), (1, .int (nI j)), (2, .int 0), (3, .int t)]) hx hb d_Md_run_101 hl (by decide) rfl (fun ls hl => ?_)
        refine lv_aload_n hx hb d_Md_run_103 rfl (lv_at hl 3 rfl) ?_
        refine va_get (D := D) (ci := 9) (v := .ref (a + 7)) (C := R_Md) (T := F_Md) (N := 17) hx hb hg in_Md hown hK hP 0 rfl rfl 7 (Nat.le_of_ble_eq_true rfl) (hg _ tw_713) (fun _ h9 => h9) rfl d_Md_run_104 ?_
        refine lv_bipush (v := 32) hx hb d_Md_run_107 (by decide) ?_
        refine lv_iload_n hx hb d_Md_run_109 rfl (lv_at hl 4 rfl) ?_
        refine lv_imul hx hb d_Md_run_110 ?_
        refine lv_topi (fun z9 e_z9 => ?_)
        obtain rfl : z9 = nI (32 * j) := by rw [e_z9]; exact (nI_mul 32 j)
        refine lv_iload hx hb d_Md_run_111 (lv_at hl 2 rfl) ?_
        refine lv_iadd hx hb d_Md_run_113 ?_
        refine lv_topi (fun z9 e_z9 => ?_)
        obtain rfl : z9 = nI (32 * j + i) := by rw [e_z9]; exact (nI_add (32 * j) i)
        refine ep_iald hx hb hK hP 7 0 rfl rfl (i := (32 * j + i)) (by omega) (by decide) d_Md_run_114 ?_
        refine lv_istore (lv' := [(7, .int (xb (32 * j + i))), (6, .int (xa (32 * j + i))), (5, .int (nm (32 * j + i))), (4, .int (nI i)), (0, .ref a), (1, .int (nI j)), (2, .int 0), (3, .int t)]) hx hb d_Md_run_115 hl (by decide) rfl (fun ls hl => ?_)
        refine lv_aload_n hx hb d_Md_run_117 rfl (lv_at hl 4 rfl) ?_
        refine va_get (D := D) (ci := 9) (v := .ref (a + 11)) (C := R_Md) (T := F_Md) (N := 17) hx hb hg in_Md hown hK hP 0 rfl rfl 13 (Nat.le_of_ble_eq_true rfl) (hg _ tw_719) (fun _ h9 => h9) rfl d_Md_run_118 ?_
        refine lv_iload hx hb d_Md_run_121 (lv_at hl 3 rfl) ?_
        refine lv_lconst (v := 0) hx hb d_Md_run_123 (by decide) ?_
        refine ep_last hx hb hK hP hD hS 11 1 rfl rfl (i := i) (x := 0) (by omega) (by decide) d_Md_run_124 (fun H locs hP hD hS => ?_)
        have hP : va_P D cls (wMo cI cJ cZ a code kn ed ct ti nm xa xb (nI mc) it vs se sm (vp_updL rs i 0) wk ors owk) H := hP
        have hD : va_D (blk a 15) (wMo cI cJ cZ a code kn ed ct ti nm xa xb (nI mc) it vs se sm (vp_updL rs i 0) wk ors owk) := hD
        refine lv_iload_n hx hb d_Md_run_125 rfl (lv_at hl 6 rfl) ?_
        refine lv_iconst (v := 4) hx hb d_Md_run_126 (by decide) ?_
        refine lv_icmp_ne (tgt := 181) hx hb d_Md_run_127 (by decide) (fun hc => ?_) (fun hc => False.elim (by revert hc; decide))
        refine lv_aload_n hx hb d_Md_run_181 rfl (lv_at hl 4 rfl) ?_
        refine va_get (D := D) (ci := 9) (v := .ref (a + 12)) (C := R_Md) (T := F_Md) (N := 17) hx hb hg in_Md hown hK hP 0 rfl rfl 14 (Nat.le_of_ble_eq_true rfl) (hg _ tw_720) (fun _ h9 => h9) rfl d_Md_run_182 ?_
        refine lv_iload hx hb d_Md_run_185 (lv_at hl 3 rfl) ?_
        refine lv_iload_n hx hb d_Md_run_187 rfl (lv_at hl 6 rfl) ?_
        refine lv_iconst (v := 5) hx hb d_Md_run_188 (by decide) ?_
        refine lv_icmp_ne (tgt := 203) hx hb d_Md_run_189 (by decide) (fun hc => ?_) (fun hc => False.elim (by revert hc; decide))
        refine lv_iload_n hx hb d_Md_run_203 rfl (lv_at hl 6 rfl) ?_
        refine lv_iconst (v := 2) hx hb d_Md_run_204 (by decide) ?_
        refine lv_icmp_ne (tgt := 223) hx hb d_Md_run_205 (by decide) (fun hc => ?_) (fun hc => False.elim (by revert hc; decide))
        refine lv_aload_n hx hb d_Md_run_223 rfl (lv_at hl 4 rfl) ?_
        refine lv_iload_n hx hb d_Md_run_224 rfl (lv_at hl 6 rfl) ?_
        refine lv_iload hx hb d_Md_run_225 (lv_at hl 3 rfl) ?_
        refine lv_iload hx hb d_Md_run_227 (lv_at hl 2 rfl) ?_
        refine lv_iload hx hb d_Md_run_229 (lv_at hl 1 rfl) ?_
        refine ep_callH (W.runV (As := [.int 0, .int (nI i), .int (nm (32 * j + i)), .int (xa (32 * j + i))]) (rest := [.int (nI i), .ref (a + 12)]) ⟨hx, hb, hml, hown, hg⟩ (m_Mo_doBag_0 l D cI cJ cZ cO a code kn ed ct ti nm xa xb mc it vs se sm (vp_updL rs i 0) wk ors owk i (nm (32 * j + i)) (xa (32 * j + i)) (by omega) (by omega) _ rfl) (ep_cwV 4 hg tw_852 tw_854 ts_22 tw_12 tk_Md_doBag rfl rfl (by decide +kernel) ⟨(Nat.le_of_ble_eq_true rfl), (Nat.le_of_ble_eq_true rfl)⟩) ⟨ep_blind, va_recv (q0 := 0) (ci := 9) hK hP rfl rfl, ep_pre hKn (hP)⟩ rfl rfl hl.1 rfl (lv_room (Nat.le_of_ble_eq_true rfl)) d_Md_run_231 ⟨Nat.zero_le _, Nat.zero_le _⟩) hS (fun q h => h) (fun H locs hsz9 hk1 hP1 hS => ?_)
        refine W.eq (g2 := F0 m 234 ls [.int ((f_Mo_doBag_0 mc it vs (vp_updL rs i 0) i (nm (32 * j + i)) (xa (32 * j + i))).1), .int (nI i), .ref (a + 12)]) rfl ?_
        have hP : va_P D cls (wMo cI cJ cZ a code kn ed ct ti nm xa xb (nI ((f_Mo_doBag_0 mc it vs (vp_updL rs i 0) i (nm (32 * j + i)) (xa (32 * j + i))).2.1)) ((f_Mo_doBag_0 mc it vs (vp_updL rs i 0) i (nm (32 * j + i)) (xa (32 * j + i))).2.2.1) ((f_Mo_doBag_0 mc it vs (vp_updL rs i 0) i (nm (32 * j + i)) (xa (32 * j + i))).2.2.2.1) se sm ((f_Mo_doBag_0 mc it vs (vp_updL rs i 0) i (nm (32 * j + i)) (xa (32 * j + i))).2.2.2.2) wk ors owk) H := hP1
        have hD : va_D (blk a 15) (wMo cI cJ cZ a code kn ed ct ti nm xa xb (nI ((f_Mo_doBag_0 mc it vs (vp_updL rs i 0) i (nm (32 * j + i)) (xa (32 * j + i))).2.1)) ((f_Mo_doBag_0 mc it vs (vp_updL rs i 0) i (nm (32 * j + i)) (xa (32 * j + i))).2.2.1) ((f_Mo_doBag_0 mc it vs (vp_updL rs i 0) i (nm (32 * j + i)) (xa (32 * j + i))).2.2.2.1) se sm ((f_Mo_doBag_0 mc it vs (vp_updL rs i 0) i (nm (32 * j + i)) (xa (32 * j + i))).2.2.2.2) wk ors owk) := (blk_D (wMo_in))
        refine ep_zast hx hb hK hP hD hS 12 2 rfl rfl (i := i) (x := ((f_Mo_doBag_0 mc it vs (vp_updL rs i 0) i (nm (32 * j + i)) (xa (32 * j + i))).1)) (bz1 (doBag_bz_0 _ _ _ _ _ _ _)) (by omega) (by decide) d_Md_run_234 (fun H locs hP hD hS => ?_)
        have hP : va_P D cls (wMo cI cJ cZ a code kn ed ct ti nm xa xb (nI ((f_Mo_doBag_0 mc it vs (vp_updL rs i 0) i (nm (32 * j + i)) (xa (32 * j + i))).2.1)) ((f_Mo_doBag_0 mc it vs (vp_updL rs i 0) i (nm (32 * j + i)) (xa (32 * j + i))).2.2.1) ((f_Mo_doBag_0 mc it vs (vp_updL rs i 0) i (nm (32 * j + i)) (xa (32 * j + i))).2.2.2.1) se sm ((f_Mo_doBag_0 mc it vs (vp_updL rs i 0) i (nm (32 * j + i)) (xa (32 * j + i))).2.2.2.2) (upd wk i ((f_Mo_doBag_0 mc it vs (vp_updL rs i 0) i (nm (32 * j + i)) (xa (32 * j + i))).1)) ors owk) H := hP
        have hD : va_D (blk a 15) (wMo cI cJ cZ a code kn ed ct ti nm xa xb (nI ((f_Mo_doBag_0 mc it vs (vp_updL rs i 0) i (nm (32 * j + i)) (xa (32 * j + i))).2.1)) ((f_Mo_doBag_0 mc it vs (vp_updL rs i 0) i (nm (32 * j + i)) (xa (32 * j + i))).2.2.1) ((f_Mo_doBag_0 mc it vs (vp_updL rs i 0) i (nm (32 * j + i)) (xa (32 * j + i))).2.2.2.1) se sm ((f_Mo_doBag_0 mc it vs (vp_updL rs i 0) i (nm (32 * j + i)) (xa (32 * j + i))).2.2.2.2) (upd wk i ((f_Mo_doBag_0 mc it vs (vp_updL rs i 0) i (nm (32 * j + i)) (xa (32 * j + i))).1)) ors owk) := hD
        refine lv_iinc (k := 3) (lv' := [(4, .int (nI (i + 1))), (7, .int (xb (32 * j + i))), (6, .int (xa (32 * j + i))), (5, .int (nm (32 * j + i))), (0, .ref a), (1, .int (nI j)), (2, .int 0), (3, .int t)]) hx hb d_Md_run_235 hl rfl (inc1 _) (by decide) rfl (fun ls hl => ?_)
        refine lv_goto (tgt := 48) hx hb d_Md_run_238 (by decide) ?_
        rw [if_neg hc1] at hR
        exact ih (i + 1) ((f_Mo_doBag_0 mc it vs (vp_updL rs i 0) i (nm (32 * j + i)) (xa (32 * j + i))).2.1) ((f_Mo_doBag_0 mc it vs (vp_updL rs i 0) i (nm (32 * j + i)) (xa (32 * j + i))).2.2.1) ((f_Mo_doBag_0 mc it vs (vp_updL rs i 0) i (nm (32 * j + i)) (xa (32 * j + i))).2.2.2.1) se sm ((f_Mo_doBag_0 mc it vs (vp_updL rs i 0) i (nm (32 * j + i)) (xa (32 * j + i))).2.2.2.2) (upd wk i ((f_Mo_doBag_0 mc it vs (vp_updL rs i 0) i (nm (32 * j + i)) (xa (32 * j + i))).1)) _ _ ls (by omega) (doBag_le_0 _ _ _ _ _ _ _ hm) hR (lv_sub hl [0, 4, 5, 6, 7] rfl) hP hS
  have key_23 : ∀ (k : Nat) (i : Nat) (se : Nat → Int32) (H : Heap) (locs : List Loc) (ls : Array Slot), i + k = 16 → g_Mo_run_0_23 ti nm xa it vs rs wk n j t k i se = R → lv_has ls 8 [(4, .int (nI i)), (0, .ref a), (1, .int (nI j)), (2, .int 0), (3, .int t)] → va_P D cls (wMo cI cJ cZ a code kn ed ct ti nm xa xb (nI 0) it vs se 0 rs wk ors owk) H → va_S (blk a 15) s.heap H locs → W p l e (headSpec (k_Md_run :: gt) rm_Md_run).room s m ([.ref a, .int (nI j), .int 0, .int t] : List Value).toArray below meth c H locs 0 0 (MQ below (Qd (blk a 15) none (fun H => va_P D cls (wMo cI cJ cZ a code kn ed ct ti nm xa xb (nI R.1) R.2.1 R.2.2.1 R.2.2.2.1 R.2.2.2.2.1 R.2.2.2.2.2.1 R.2.2.2.2.2.2 ors owk) H)) ([.ref a, .int (nI j), .int 0, .int t] : List Value).toArray s 0 0 (blk a 15)) (F0 m 23 ls []) := by
    intro k
    induction k with
    | zero =>
      intro i se H locs ls hi hR hl hP hS
      have hR : (g_Mo_run_0_48 ti nm xa j t n 0 0 it vs se 0 rs wk) = R := hR
      have hD : va_D (blk a 15) (wMo cI cJ cZ a code kn ed ct ti nm xa xb (nI 0) it vs se 0 rs wk ors owk) := (blk_D (wMo_in))
      refine lv_iload hx hb d_Md_run_23 (lv_at hl 0 rfl) ?_
      refine lv_bipush (v := 16) hx hb d_Md_run_25 (by decide) ?_
      refine lv_icmp_ge (tgt := 45) hx hb d_Md_run_27 (by decide) (fun hc => ?_) (fun hc => False.elim (by have hc : ¬ (16 ≤ i) := fun h => hc (by exact (nI_leI (a := 16) (b := i) (by omega) (by omega)).mpr h); omega))
      refine lv_iconst (v := 0) hx hb d_Md_run_45 (by decide) ?_
      refine lv_istore (lv' := [(4, .int 0), (0, .ref a), (1, .int (nI j)), (2, .int 0), (3, .int t)]) hx hb d_Md_run_46 hl (by decide) rfl (fun ls hl => ?_)
      exact key_48 n 0 0 it vs se 0 rs wk _ _ ls (by omega) (Nat.le_refl _) hR hl hP hS
    | succ k ih =>
      intro i se H locs ls hi hR hl hP hS
      have hR : (g_Mo_run_0_23 ti nm xa it vs rs wk n j t k (i + 1) (upd se i (nI i))) = R := hR
      have hD : va_D (blk a 15) (wMo cI cJ cZ a code kn ed ct ti nm xa xb (nI 0) it vs se 0 rs wk ors owk) := (blk_D (wMo_in))
      refine lv_iload hx hb d_Md_run_23 (lv_at hl 0 rfl) ?_
      refine lv_bipush (v := 16) hx hb d_Md_run_25 (by decide) ?_
      refine lv_icmp_ge (tgt := 45) hx hb d_Md_run_27 (by decide) (fun hc => False.elim (by have hc := (nI_leI (a := 16) (b := i) (by omega) (by omega)).mp hc; omega)) (fun hc => ?_)
      refine lv_aload_n hx hb d_Md_run_30 rfl (lv_at hl 1 rfl) ?_
      refine va_get (D := D) (ci := 9) (v := .ref (a + 10)) (C := R_Md) (T := F_Md) (N := 17) hx hb hg in_Md hown hK hP 0 rfl rfl 11 (Nat.le_of_ble_eq_true rfl) (hg _ tw_717) (fun _ h9 => h9) rfl d_Md_run_31 ?_
      refine lv_iload hx hb d_Md_run_34 (lv_at hl 0 rfl) ?_
      refine lv_iload hx hb d_Md_run_36 (lv_at hl 0 rfl) ?_
      refine ep_iast hx hb hK hP hD hS 10 0 rfl rfl (i := i) (x := (nI i)) (by omega) (by decide) d_Md_run_38 (fun H locs hP hD hS => ?_)
      have hP : va_P D cls (wMo cI cJ cZ a code kn ed ct ti nm xa xb (nI 0) it vs (upd se i (nI i)) 0 rs wk ors owk) H := hP
      have hD : va_D (blk a 15) (wMo cI cJ cZ a code kn ed ct ti nm xa xb (nI 0) it vs (upd se i (nI i)) 0 rs wk ors owk) := hD
      refine lv_iinc (k := 0) (lv' := [(4, .int (nI (i + 1))), (0, .ref a), (1, .int (nI j)), (2, .int 0), (3, .int t)]) hx hb d_Md_run_39 hl rfl (inc1 _) (by decide) rfl (fun ls hl => ?_)
      refine lv_goto (tgt := 23) hx hb d_Md_run_42 (by decide) ?_
      exact ih (i + 1) (upd se i (nI i)) _ _ ls (by omega) hR hl hP hS
  have hR : (g_Mo_run_0_23 ti nm xa it vs rs wk n j t 16 0 se) = R := hR
  refine lv_aload_n hx hb d_Md_run_0 rfl (lv_at hl 0 rfl) ?_
  refine lv_iload_n hx hb d_Md_run_1 rfl (lv_at hl 2 rfl) ?_
  refine lv_iconst (v := 5) hx hb d_Md_run_2 (by decide) ?_
  refine lv_icmp_ne (tgt := 11) hx hb d_Md_run_3 (by decide) (fun hc => ?_) (fun hc => False.elim (by revert hc; decide))
  refine lv_iconst (v := 0) hx hb d_Md_run_11 (by decide) ?_
  refine lv_topi (fun z7 e_z7 => ?_)
  obtain rfl : z7 = nI 0 := by rw [e_z7]; exact nI_0.symm
  refine va_put (D := D) (ci := 9) (v := .int (nI 0)) (ty := .int) (C := R_Md) (T := F_Md) (N := 17) hx hb hg in_Md t_Md t_Md_ok n_Md hown hK hP hD hS 0 rfl rfl 8 (Nat.le_of_ble_eq_true rfl) (hg _ tw_714) (fun _ h9 => h9) rfl (by decide +kernel) rfl rfl (Nat.le_of_ble_eq_true rfl) d_Md_run_12 (fun H locs hP hD hS => ?_)
  have hP : va_P D cls (wMo cI cJ cZ a code kn ed ct ti nm xa xb (nI 0) it vs se sm rs wk ors owk) H := hP
  have hD : va_D (blk a 15) (wMo cI cJ cZ a code kn ed ct ti nm xa xb (nI 0) it vs se sm rs wk ors owk) := hD
  refine lv_aload_n hx hb d_Md_run_15 rfl (lv_at hl 0 rfl) ?_
  refine lv_lconst (v := 0) hx hb d_Md_run_16 (by decide) ?_
  refine va_put (D := D) (ci := 9) (v := .long 0) (ty := .long) (C := R_Md) (T := F_Md) (N := 17) hx hb hg in_Md t_Md t_Md_ok n_Md hown hK hP hD hS 0 rfl rfl 12 (Nat.le_of_ble_eq_true rfl) (hg _ tw_718) (fun _ h9 => h9) rfl (by decide +kernel) rfl rfl (Nat.le_of_ble_eq_true rfl) d_Md_run_17 (fun H locs hP hD hS => ?_)
  have hP : va_P D cls (wMo cI cJ cZ a code kn ed ct ti nm xa xb (nI 0) it vs se 0 rs wk ors owk) H := hP
  have hD : va_D (blk a 15) (wMo cI cJ cZ a code kn ed ct ti nm xa xb (nI 0) it vs se 0 rs wk ors owk) := hD
  refine lv_iconst (v := 0) hx hb d_Md_run_20 (by decide) ?_
  refine lv_istore (lv' := [(4, .int 0), (0, .ref a), (1, .int (nI j)), (2, .int 0), (3, .int t)]) hx hb d_Md_run_21 hl (by decide) rfl (fun ls hl => ?_)
  exact key_23 16 0 se _ _ ls (by omega) hR hl hP hS

def g_Mo_run_1_48 (ti : Nat → Int32) (nm : Nat → Int32) (xa : Nat → Int32) (j : Nat) (t : Int32) : Nat → Nat → Nat → (Nat → Int32) → (Nat → Int32) → (Nat → Int32) → Int64 → (Nat → Int64) → (Nat → Int32) → Nat × (Nat → Int32) × (Nat → Int32) × (Nat → Int32) × Int64 × (Nat → Int64) × (Nat → Int32)
  | 0, i, mc, it, vs, se, sm, rs, wk => (mc, it, vs, se, sm, rs, wk)
  | k + 1, i, mc, it, vs, se, sm, rs, wk => if t < (ti (32 * j + i)) then ((mc, it, vs, se, sm, rs, wk)) else (g_Mo_run_1_48 ti nm xa j t k (i + 1) ((f_Mo_doBag_1 mc it vs (vp_updL rs i 0) i (nm (32 * j + i)) (xa (32 * j + i))).2.1) ((f_Mo_doBag_1 mc it vs (vp_updL rs i 0) i (nm (32 * j + i)) (xa (32 * j + i))).2.2.1) ((f_Mo_doBag_1 mc it vs (vp_updL rs i 0) i (nm (32 * j + i)) (xa (32 * j + i))).2.2.2.1) se sm ((f_Mo_doBag_1 mc it vs (vp_updL rs i 0) i (nm (32 * j + i)) (xa (32 * j + i))).2.2.2.2) (upd wk i ((f_Mo_doBag_1 mc it vs (vp_updL rs i 0) i (nm (32 * j + i)) (xa (32 * j + i))).1)))

def g_Mo_run_1_23 (ti : Nat → Int32) (nm : Nat → Int32) (xa : Nat → Int32) (it : Nat → Int32) (vs : Nat → Int32) (rs : Nat → Int64) (wk : Nat → Int32) (n : Nat) (j : Nat) (t : Int32) : Nat → Nat → (Nat → Int32) → Nat × (Nat → Int32) × (Nat → Int32) × (Nat → Int32) × Int64 × (Nat → Int64) × (Nat → Int32)
  | 0, i, se => g_Mo_run_1_48 ti nm xa j t n 0 0 it vs se 0 rs wk
  | k + 1, i, se => g_Mo_run_1_23 ti nm xa it vs rs wk n j t k (i + 1) (upd se i (nI i))

def f_Mo_run_1 (ti : Nat → Int32) (nm : Nat → Int32) (xa : Nat → Int32) (it : Nat → Int32) (vs : Nat → Int32) (se : Nat → Int32) (rs : Nat → Int64) (wk : Nat → Int32) (n : Nat) (j : Nat) (t : Int32) : Nat × (Nat → Int32) × (Nat → Int32) × (Nat → Int32) × Int64 × (Nat → Int64) × (Nat → Int32) := g_Mo_run_1_23 ti nm xa it vs rs wk n j t 16 0 se
set_option maxHeartbeats 4000000 in
set_option maxRecDepth 100000 in
theorem m_Mo_run_1 (l : Launch) (D : va_G) (cI cJ cZ cO : ClassId) (a : Nat) (code : Int32) (kn : Nat → Int32) (ed : Nat → Int32) (ct : Nat → Int32) (ti : Nat → Int32) (nm : Nat → Int32) (xa : Nat → Int32) (xb : Nat → Int32) (ma : Int32) (it : Nat → Int32) (vs : Nat → Int32) (se : Nat → Int32) (sm : Int64) (rs : Nat → Int64) (wk : Nat → Int32) (ors : Nat → Int64) (owk : Nat → Int32) (n : Nat) (j : Nat) (t : Int32) (hj : j < 8) (hct : ct j = nI n) (hn : n ≤ 32) (R : Nat × (Nat → Int32) × (Nat → Int32) × (Nat → Int32) × Int64 × (Nat → Int64) × (Nat → Int32)) (hR : f_Mo_run_1 ti nm xa it vs se rs wk n j t = R) : Met l y_Md_run (k_Md_run :: gt) rm_Md_run (Pc0 D cI cJ cZ cO [.ref a, .int (nI j), .int 1, .int t] (fun H => va_P D cls (wMo cI cJ cZ a code kn ed ct ti nm xa xb ma it vs se sm rs wk ors owk) H)) (Qd (blk a 15) none (fun H => va_P D cls (wMo cI cJ cZ a code kn ed ct ti nm xa xb (nI R.1) R.2.1 R.2.2.1 R.2.2.2.1 R.2.2.2.2.1 R.2.2.2.2.2.1 R.2.2.2.2.2.2 ors owk) H)) 0 0 (blk a 15) := by
  refine Met.ofW (cc := c_Md_run) (maxL := 8) (ret := none) (by decide) rfl ?_
  intro p e s m args below meth c s₁ B hml hv
  obtain ⟨rfl, hKn, hP⟩ := hv
  have hx := B.exec
  have hb := B.bytes
  have hr := B.returns
  have hts := atoms_spec (ws := k_Md_run :: gt) B.pre
  have hg : ∀ w ∈ gt, w.before _ s = true := fun w h => hts w (List.mem_cons_of_mem _ h)
  have hown : s.vm.findClass R_Md = some m.cls := findClass_of_methodNamed B.named
  have hlocks := B.notSynchronized
  have hK := hKn.1
  have hl := lv_entry ([.ref a, .int (nI j), .int 1, .int t]) (n := 8) (Nat.le_of_ble_eq_true rfl)
  rw [lg_entry_eq]
  generalize (lg_sl ([.ref a, .int (nI j), .int 1, .int t]) ++ List.replicate (8 - (lg_sl ([.ref a, .int (nI j), .int 1, .int t])).length) Slot.unset).toArray = ls at hl ⊢
  have hl : lv_has ls 8 [(0, .ref a), (1, .int (nI j)), (2, .int 1), (3, .int t)] := hl
  have hS : va_S (blk a 15) s.heap s.heap [] := va_S.rf
  have hD : va_D (blk a 15) (wMo cI cJ cZ a code kn ed ct ti nm xa xb ma it vs se sm rs wk ors owk) := (blk_D (wMo_in))
  have key_48 : ∀ (k : Nat) (i : Nat) (mc : Nat) (it : Nat → Int32) (vs : Nat → Int32) (se : Nat → Int32) (sm : Int64) (rs : Nat → Int64) (wk : Nat → Int32) (H : Heap) (locs : List Loc) (ls : Array Slot), i + k = n → mc ≤ i → g_Mo_run_1_48 ti nm xa j t k i mc it vs se sm rs wk = R → lv_has ls 8 [(4, .int (nI i)), (0, .ref a), (1, .int (nI j)), (2, .int 1), (3, .int t)] → va_P D cls (wMo cI cJ cZ a code kn ed ct ti nm xa xb (nI mc) it vs se sm rs wk ors owk) H → va_S (blk a 15) s.heap H locs → W p l e (headSpec (k_Md_run :: gt) rm_Md_run).room s m ([.ref a, .int (nI j), .int 1, .int t] : List Value).toArray below meth c H locs 0 0 (MQ below (Qd (blk a 15) none (fun H => va_P D cls (wMo cI cJ cZ a code kn ed ct ti nm xa xb (nI R.1) R.2.1 R.2.2.1 R.2.2.2.1 R.2.2.2.2.1 R.2.2.2.2.2.1 R.2.2.2.2.2.2 ors owk) H)) ([.ref a, .int (nI j), .int 1, .int t] : List Value).toArray s 0 0 (blk a 15)) (F0 m 48 ls []) := by
    intro k
    induction k with
    | zero =>
      intro i mc it vs se sm rs wk H locs ls hi hm hR hl hP hS
      have hR : ((mc, it, vs, se, sm, rs, wk)) = R := hR
      have hD : va_D (blk a 15) (wMo cI cJ cZ a code kn ed ct ti nm xa xb (nI mc) it vs se sm rs wk ors owk) := (blk_D (wMo_in))
      refine lv_iload hx hb d_Md_run_48 (lv_at hl 0 rfl) ?_
      refine lv_aload_n hx hb d_Md_run_50 rfl (lv_at hl 1 rfl) ?_
      refine va_get (D := D) (ci := 9) (v := .ref (a + 3)) (C := R_Md) (T := F_Md) (N := 17) hx hb hg in_Md hown hK hP 0 rfl rfl 3 (Nat.le_of_ble_eq_true rfl) (hg _ tw_709) (fun _ h9 => h9) rfl d_Md_run_51 ?_
      refine lv_iload_n hx hb d_Md_run_54 rfl (lv_at hl 2 rfl) ?_
      refine ep_iald hx hb hK hP 3 0 rfl rfl (i := j) (by omega) (by decide) d_Md_run_55 ?_
      refine lv_topi (fun z9 e_z9 => ?_)
      obtain rfl : z9 = nI n := by rw [e_z9]; exact hct
      refine lv_icmp_ge (tgt := 241) hx hb d_Md_run_56 (by decide) (fun hc => ?_) (fun hc => False.elim (by have hc : ¬ (n ≤ i) := fun h => hc (by exact (nI_leI (a := n) (b := i) (by omega) (by omega)).mpr h); omega))
      subst hR
      exact W.vret hx hb hr (fun t9 ht hW => ⟨rfl, hS.F ht, by rw [ht]; exact hP⟩) hS.2.2 d_Md_run_241
    | succ k ih =>
      intro i mc it vs se sm rs wk H locs ls hi hm hR hl hP hS
      have hR : (if t < (ti (32 * j + i)) then ((mc, it, vs, se, sm, rs, wk)) else (g_Mo_run_1_48 ti nm xa j t k (i + 1) ((f_Mo_doBag_1 mc it vs (vp_updL rs i 0) i (nm (32 * j + i)) (xa (32 * j + i))).2.1) ((f_Mo_doBag_1 mc it vs (vp_updL rs i 0) i (nm (32 * j + i)) (xa (32 * j + i))).2.2.1) ((f_Mo_doBag_1 mc it vs (vp_updL rs i 0) i (nm (32 * j + i)) (xa (32 * j + i))).2.2.2.1) se sm ((f_Mo_doBag_1 mc it vs (vp_updL rs i 0) i (nm (32 * j + i)) (xa (32 * j + i))).2.2.2.2) (upd wk i ((f_Mo_doBag_1 mc it vs (vp_updL rs i 0) i (nm (32 * j + i)) (xa (32 * j + i))).1)))) = R := hR
      have hD : va_D (blk a 15) (wMo cI cJ cZ a code kn ed ct ti nm xa xb (nI mc) it vs se sm rs wk ors owk) := (blk_D (wMo_in))
      refine lv_iload hx hb d_Md_run_48 (lv_at hl 0 rfl) ?_
      refine lv_aload_n hx hb d_Md_run_50 rfl (lv_at hl 1 rfl) ?_
      refine va_get (D := D) (ci := 9) (v := .ref (a + 3)) (C := R_Md) (T := F_Md) (N := 17) hx hb hg in_Md hown hK hP 0 rfl rfl 3 (Nat.le_of_ble_eq_true rfl) (hg _ tw_709) (fun _ h9 => h9) rfl d_Md_run_51 ?_
      refine lv_iload_n hx hb d_Md_run_54 rfl (lv_at hl 2 rfl) ?_
      refine ep_iald hx hb hK hP 3 0 rfl rfl (i := j) (by omega) (by decide) d_Md_run_55 ?_
      refine lv_topi (fun z9 e_z9 => ?_)
      obtain rfl : z9 = nI n := by rw [e_z9]; exact hct
      refine lv_icmp_ge (tgt := 241) hx hb d_Md_run_56 (by decide) (fun hc => False.elim (by have hc := (nI_leI (a := n) (b := i) (by omega) (by omega)).mp hc; omega)) (fun hc => ?_)
      refine lv_aload_n hx hb d_Md_run_59 rfl (lv_at hl 1 rfl) ?_
      refine va_get (D := D) (ci := 9) (v := .ref (a + 4)) (C := R_Md) (T := F_Md) (N := 17) hx hb hg in_Md hown hK hP 0 rfl rfl 4 (Nat.le_of_ble_eq_true rfl) (hg _ tw_710) (fun _ h9 => h9) rfl d_Md_run_60 ?_
      refine lv_bipush (v := 32) hx hb d_Md_run_63 (by decide) ?_
      refine lv_iload_n hx hb d_Md_run_65 rfl (lv_at hl 2 rfl) ?_
      refine lv_imul hx hb d_Md_run_66 ?_
      refine lv_topi (fun z9 e_z9 => ?_)
      obtain rfl : z9 = nI (32 * j) := by rw [e_z9]; exact (nI_mul 32 j)
      refine lv_iload hx hb d_Md_run_67 (lv_at hl 0 rfl) ?_
      refine lv_iadd hx hb d_Md_run_69 ?_
      refine lv_topi (fun z9 e_z9 => ?_)
      obtain rfl : z9 = nI (32 * j + i) := by rw [e_z9]; exact (nI_add (32 * j) i)
      refine ep_iald hx hb hK hP 4 0 rfl rfl (i := (32 * j + i)) (by omega) (by decide) d_Md_run_70 ?_
      refine lv_iload_n hx hb d_Md_run_71 rfl (lv_at hl 4 rfl) ?_
      refine lv_icmp_gt (tgt := 241) hx hb d_Md_run_72 (by decide) (fun hc1 => ?_) (fun hc1 => ?_)
      · have hc1 : t < (ti (32 * j + i)) := hc1
        rw [if_pos hc1] at hR
        subst hR
        exact W.vret hx hb hr (fun t9 ht hW => ⟨rfl, hS.F ht, by rw [ht]; exact hP⟩) hS.2.2 d_Md_run_241
      · have hc1 : ¬ (t < (ti (32 * j + i))) := hc1
        refine lv_aload_n hx hb d_Md_run_75 rfl (lv_at hl 1 rfl) ?_
        refine va_get (D := D) (ci := 9) (v := .ref (a + 5)) (C := R_Md) (T := F_Md) (N := 17) hx hb hg in_Md hown hK hP 0 rfl rfl 5 (Nat.le_of_ble_eq_true rfl) (hg _ tw_711) (fun _ h9 => h9) rfl d_Md_run_76 ?_
        refine lv_bipush (v := 32) hx hb d_Md_run_79 (by decide) ?_
        refine lv_iload_n hx hb d_Md_run_81 rfl (lv_at hl 2 rfl) ?_
        refine lv_imul hx hb d_Md_run_82 ?_
        refine lv_topi (fun z9 e_z9 => ?_)
        obtain rfl : z9 = nI (32 * j) := by rw [e_z9]; exact (nI_mul 32 j)
        refine lv_iload hx hb d_Md_run_83 (lv_at hl 0 rfl) ?_
        refine lv_iadd hx hb d_Md_run_85 ?_
        refine lv_topi (fun z9 e_z9 => ?_)
        obtain rfl : z9 = nI (32 * j + i) := by rw [e_z9]; exact (nI_add (32 * j) i)
        refine ep_iald hx hb hK hP 5 0 rfl rfl (i := (32 * j + i)) (by omega) (by decide) d_Md_run_86 ?_
        refine lv_istore (lv' := [(5, .int (nm (32 * j + i))), (4, .int (nI i)), (0, .ref a), (1, .int (nI j)), (2, .int 1), (3, .int t)]) hx hb d_Md_run_87 hl (by decide) rfl (fun ls hl => ?_)
        refine lv_aload_n hx hb d_Md_run_89 rfl (lv_at hl 2 rfl) ?_
        refine va_get (D := D) (ci := 9) (v := .ref (a + 6)) (C := R_Md) (T := F_Md) (N := 17) hx hb hg in_Md hown hK hP 0 rfl rfl 6 (Nat.le_of_ble_eq_true rfl) (hg _ tw_712) (fun _ h9 => h9) rfl d_Md_run_90 ?_
        refine lv_bipush (v := 32) hx hb d_Md_run_93 (by decide) ?_
        refine lv_iload_n hx hb d_Md_run_95 rfl (lv_at hl 3 rfl) ?_
        refine lv_imul hx hb d_Md_run_96 ?_
        refine lv_topi (fun z9 e_z9 => ?_)
        obtain rfl : z9 = nI (32 * j) := by rw [e_z9]; exact (nI_mul 32 j)
        refine lv_iload hx hb d_Md_run_97 (lv_at hl 1 rfl) ?_
        refine lv_iadd hx hb d_Md_run_99 ?_
        refine lv_topi (fun z9 e_z9 => ?_)
        obtain rfl : z9 = nI (32 * j + i) := by rw [e_z9]; exact (nI_add (32 * j) i)
        refine ep_iald hx hb hK hP 6 0 rfl rfl (i := (32 * j + i)) (by omega) (by decide) d_Md_run_100 ?_
        refine lv_istore (lv' := [(6, .int (xa (32 * j + i))), (5, .int (nm (32 * j + i))), (4, .int (nI i)), (0, .ref a), (1, .int (nI j)), (2, .int 1), (3, .int t)]) hx hb d_Md_run_101 hl (by decide) rfl (fun ls hl => ?_)
        refine lv_aload_n hx hb d_Md_run_103 rfl (lv_at hl 3 rfl) ?_
        refine va_get (D := D) (ci := 9) (v := .ref (a + 7)) (C := R_Md) (T := F_Md) (N := 17) hx hb hg in_Md hown hK hP 0 rfl rfl 7 (Nat.le_of_ble_eq_true rfl) (hg _ tw_713) (fun _ h9 => h9) rfl d_Md_run_104 ?_
        refine lv_bipush (v := 32) hx hb d_Md_run_107 (by decide) ?_
        refine lv_iload_n hx hb d_Md_run_109 rfl (lv_at hl 4 rfl) ?_
        refine lv_imul hx hb d_Md_run_110 ?_
        refine lv_topi (fun z9 e_z9 => ?_)
        obtain rfl : z9 = nI (32 * j) := by rw [e_z9]; exact (nI_mul 32 j)
        refine lv_iload hx hb d_Md_run_111 (lv_at hl 2 rfl) ?_
        refine lv_iadd hx hb d_Md_run_113 ?_
        refine lv_topi (fun z9 e_z9 => ?_)
        obtain rfl : z9 = nI (32 * j + i) := by rw [e_z9]; exact (nI_add (32 * j) i)
        refine ep_iald hx hb hK hP 7 0 rfl rfl (i := (32 * j + i)) (by omega) (by decide) d_Md_run_114 ?_
        refine lv_istore (lv' := [(7, .int (xb (32 * j + i))), (6, .int (xa (32 * j + i))), (5, .int (nm (32 * j + i))), (4, .int (nI i)), (0, .ref a), (1, .int (nI j)), (2, .int 1), (3, .int t)]) hx hb d_Md_run_115 hl (by decide) rfl (fun ls hl => ?_)
        refine lv_aload_n hx hb d_Md_run_117 rfl (lv_at hl 4 rfl) ?_
        refine va_get (D := D) (ci := 9) (v := .ref (a + 11)) (C := R_Md) (T := F_Md) (N := 17) hx hb hg in_Md hown hK hP 0 rfl rfl 13 (Nat.le_of_ble_eq_true rfl) (hg _ tw_719) (fun _ h9 => h9) rfl d_Md_run_118 ?_
        refine lv_iload hx hb d_Md_run_121 (lv_at hl 3 rfl) ?_
        refine lv_lconst (v := 0) hx hb d_Md_run_123 (by decide) ?_
        refine ep_last hx hb hK hP hD hS 11 1 rfl rfl (i := i) (x := 0) (by omega) (by decide) d_Md_run_124 (fun H locs hP hD hS => ?_)
        have hP : va_P D cls (wMo cI cJ cZ a code kn ed ct ti nm xa xb (nI mc) it vs se sm (vp_updL rs i 0) wk ors owk) H := hP
        have hD : va_D (blk a 15) (wMo cI cJ cZ a code kn ed ct ti nm xa xb (nI mc) it vs se sm (vp_updL rs i 0) wk ors owk) := hD
        refine lv_iload_n hx hb d_Md_run_125 rfl (lv_at hl 6 rfl) ?_
        refine lv_iconst (v := 4) hx hb d_Md_run_126 (by decide) ?_
        refine lv_icmp_ne (tgt := 181) hx hb d_Md_run_127 (by decide) (fun hc => ?_) (fun hc => False.elim (by revert hc; decide))
        refine lv_aload_n hx hb d_Md_run_181 rfl (lv_at hl 4 rfl) ?_
        refine va_get (D := D) (ci := 9) (v := .ref (a + 12)) (C := R_Md) (T := F_Md) (N := 17) hx hb hg in_Md hown hK hP 0 rfl rfl 14 (Nat.le_of_ble_eq_true rfl) (hg _ tw_720) (fun _ h9 => h9) rfl d_Md_run_182 ?_
        refine lv_iload hx hb d_Md_run_185 (lv_at hl 3 rfl) ?_
        refine lv_iload_n hx hb d_Md_run_187 rfl (lv_at hl 6 rfl) ?_
        refine lv_iconst (v := 5) hx hb d_Md_run_188 (by decide) ?_
        refine lv_icmp_ne (tgt := 203) hx hb d_Md_run_189 (by decide) (fun hc => ?_) (fun hc => False.elim (by revert hc; decide))
        refine lv_iload_n hx hb d_Md_run_203 rfl (lv_at hl 6 rfl) ?_
        refine lv_iconst (v := 2) hx hb d_Md_run_204 (by decide) ?_
        refine lv_icmp_ne (tgt := 223) hx hb d_Md_run_205 (by decide) (fun hc => ?_) (fun hc => False.elim (by revert hc; decide))
        refine lv_aload_n hx hb d_Md_run_223 rfl (lv_at hl 4 rfl) ?_
        refine lv_iload_n hx hb d_Md_run_224 rfl (lv_at hl 6 rfl) ?_
        refine lv_iload hx hb d_Md_run_225 (lv_at hl 3 rfl) ?_
        refine lv_iload hx hb d_Md_run_227 (lv_at hl 2 rfl) ?_
        refine lv_iload hx hb d_Md_run_229 (lv_at hl 1 rfl) ?_
        refine ep_callH (W.runV (As := [.int 1, .int (nI i), .int (nm (32 * j + i)), .int (xa (32 * j + i))]) (rest := [.int (nI i), .ref (a + 12)]) ⟨hx, hb, hml, hown, hg⟩ (m_Mo_doBag_1 l D cI cJ cZ cO a code kn ed ct ti nm xa xb mc it vs se sm (vp_updL rs i 0) wk ors owk i (nm (32 * j + i)) (xa (32 * j + i)) (by omega) (by omega) _ rfl) (ep_cwV 4 hg tw_852 tw_854 ts_22 tw_12 tk_Md_doBag rfl rfl (by decide +kernel) ⟨(Nat.le_of_ble_eq_true rfl), (Nat.le_of_ble_eq_true rfl)⟩) ⟨ep_blind, va_recv (q0 := 0) (ci := 9) hK hP rfl rfl, ep_pre hKn (hP)⟩ rfl rfl hl.1 rfl (lv_room (Nat.le_of_ble_eq_true rfl)) d_Md_run_231 ⟨Nat.zero_le _, Nat.zero_le _⟩) hS (fun q h => h) (fun H locs hsz9 hk1 hP1 hS => ?_)
        refine W.eq (g2 := F0 m 234 ls [.int ((f_Mo_doBag_1 mc it vs (vp_updL rs i 0) i (nm (32 * j + i)) (xa (32 * j + i))).1), .int (nI i), .ref (a + 12)]) rfl ?_
        have hP : va_P D cls (wMo cI cJ cZ a code kn ed ct ti nm xa xb (nI ((f_Mo_doBag_1 mc it vs (vp_updL rs i 0) i (nm (32 * j + i)) (xa (32 * j + i))).2.1)) ((f_Mo_doBag_1 mc it vs (vp_updL rs i 0) i (nm (32 * j + i)) (xa (32 * j + i))).2.2.1) ((f_Mo_doBag_1 mc it vs (vp_updL rs i 0) i (nm (32 * j + i)) (xa (32 * j + i))).2.2.2.1) se sm ((f_Mo_doBag_1 mc it vs (vp_updL rs i 0) i (nm (32 * j + i)) (xa (32 * j + i))).2.2.2.2) wk ors owk) H := hP1
        have hD : va_D (blk a 15) (wMo cI cJ cZ a code kn ed ct ti nm xa xb (nI ((f_Mo_doBag_1 mc it vs (vp_updL rs i 0) i (nm (32 * j + i)) (xa (32 * j + i))).2.1)) ((f_Mo_doBag_1 mc it vs (vp_updL rs i 0) i (nm (32 * j + i)) (xa (32 * j + i))).2.2.1) ((f_Mo_doBag_1 mc it vs (vp_updL rs i 0) i (nm (32 * j + i)) (xa (32 * j + i))).2.2.2.1) se sm ((f_Mo_doBag_1 mc it vs (vp_updL rs i 0) i (nm (32 * j + i)) (xa (32 * j + i))).2.2.2.2) wk ors owk) := (blk_D (wMo_in))
        refine ep_zast hx hb hK hP hD hS 12 2 rfl rfl (i := i) (x := ((f_Mo_doBag_1 mc it vs (vp_updL rs i 0) i (nm (32 * j + i)) (xa (32 * j + i))).1)) (bz1 (doBag_bz_1 _ _ _ _ _ _ _)) (by omega) (by decide) d_Md_run_234 (fun H locs hP hD hS => ?_)
        have hP : va_P D cls (wMo cI cJ cZ a code kn ed ct ti nm xa xb (nI ((f_Mo_doBag_1 mc it vs (vp_updL rs i 0) i (nm (32 * j + i)) (xa (32 * j + i))).2.1)) ((f_Mo_doBag_1 mc it vs (vp_updL rs i 0) i (nm (32 * j + i)) (xa (32 * j + i))).2.2.1) ((f_Mo_doBag_1 mc it vs (vp_updL rs i 0) i (nm (32 * j + i)) (xa (32 * j + i))).2.2.2.1) se sm ((f_Mo_doBag_1 mc it vs (vp_updL rs i 0) i (nm (32 * j + i)) (xa (32 * j + i))).2.2.2.2) (upd wk i ((f_Mo_doBag_1 mc it vs (vp_updL rs i 0) i (nm (32 * j + i)) (xa (32 * j + i))).1)) ors owk) H := hP
        have hD : va_D (blk a 15) (wMo cI cJ cZ a code kn ed ct ti nm xa xb (nI ((f_Mo_doBag_1 mc it vs (vp_updL rs i 0) i (nm (32 * j + i)) (xa (32 * j + i))).2.1)) ((f_Mo_doBag_1 mc it vs (vp_updL rs i 0) i (nm (32 * j + i)) (xa (32 * j + i))).2.2.1) ((f_Mo_doBag_1 mc it vs (vp_updL rs i 0) i (nm (32 * j + i)) (xa (32 * j + i))).2.2.2.1) se sm ((f_Mo_doBag_1 mc it vs (vp_updL rs i 0) i (nm (32 * j + i)) (xa (32 * j + i))).2.2.2.2) (upd wk i ((f_Mo_doBag_1 mc it vs (vp_updL rs i 0) i (nm (32 * j + i)) (xa (32 * j + i))).1)) ors owk) := hD
        refine lv_iinc (k := 3) (lv' := [(4, .int (nI (i + 1))), (7, .int (xb (32 * j + i))), (6, .int (xa (32 * j + i))), (5, .int (nm (32 * j + i))), (0, .ref a), (1, .int (nI j)), (2, .int 1), (3, .int t)]) hx hb d_Md_run_235 hl rfl (inc1 _) (by decide) rfl (fun ls hl => ?_)
        refine lv_goto (tgt := 48) hx hb d_Md_run_238 (by decide) ?_
        rw [if_neg hc1] at hR
        exact ih (i + 1) ((f_Mo_doBag_1 mc it vs (vp_updL rs i 0) i (nm (32 * j + i)) (xa (32 * j + i))).2.1) ((f_Mo_doBag_1 mc it vs (vp_updL rs i 0) i (nm (32 * j + i)) (xa (32 * j + i))).2.2.1) ((f_Mo_doBag_1 mc it vs (vp_updL rs i 0) i (nm (32 * j + i)) (xa (32 * j + i))).2.2.2.1) se sm ((f_Mo_doBag_1 mc it vs (vp_updL rs i 0) i (nm (32 * j + i)) (xa (32 * j + i))).2.2.2.2) (upd wk i ((f_Mo_doBag_1 mc it vs (vp_updL rs i 0) i (nm (32 * j + i)) (xa (32 * j + i))).1)) _ _ ls (by omega) (doBag_le_1 _ _ _ _ _ _ _ hm) hR (lv_sub hl [0, 4, 5, 6, 7] rfl) hP hS
  have key_23 : ∀ (k : Nat) (i : Nat) (se : Nat → Int32) (H : Heap) (locs : List Loc) (ls : Array Slot), i + k = 16 → g_Mo_run_1_23 ti nm xa it vs rs wk n j t k i se = R → lv_has ls 8 [(4, .int (nI i)), (0, .ref a), (1, .int (nI j)), (2, .int 1), (3, .int t)] → va_P D cls (wMo cI cJ cZ a code kn ed ct ti nm xa xb (nI 0) it vs se 0 rs wk ors owk) H → va_S (blk a 15) s.heap H locs → W p l e (headSpec (k_Md_run :: gt) rm_Md_run).room s m ([.ref a, .int (nI j), .int 1, .int t] : List Value).toArray below meth c H locs 0 0 (MQ below (Qd (blk a 15) none (fun H => va_P D cls (wMo cI cJ cZ a code kn ed ct ti nm xa xb (nI R.1) R.2.1 R.2.2.1 R.2.2.2.1 R.2.2.2.2.1 R.2.2.2.2.2.1 R.2.2.2.2.2.2 ors owk) H)) ([.ref a, .int (nI j), .int 1, .int t] : List Value).toArray s 0 0 (blk a 15)) (F0 m 23 ls []) := by
    intro k
    induction k with
    | zero =>
      intro i se H locs ls hi hR hl hP hS
      have hR : (g_Mo_run_1_48 ti nm xa j t n 0 0 it vs se 0 rs wk) = R := hR
      have hD : va_D (blk a 15) (wMo cI cJ cZ a code kn ed ct ti nm xa xb (nI 0) it vs se 0 rs wk ors owk) := (blk_D (wMo_in))
      refine lv_iload hx hb d_Md_run_23 (lv_at hl 0 rfl) ?_
      refine lv_bipush (v := 16) hx hb d_Md_run_25 (by decide) ?_
      refine lv_icmp_ge (tgt := 45) hx hb d_Md_run_27 (by decide) (fun hc => ?_) (fun hc => False.elim (by have hc : ¬ (16 ≤ i) := fun h => hc (by exact (nI_leI (a := 16) (b := i) (by omega) (by omega)).mpr h); omega))
      refine lv_iconst (v := 0) hx hb d_Md_run_45 (by decide) ?_
      refine lv_istore (lv' := [(4, .int 0), (0, .ref a), (1, .int (nI j)), (2, .int 1), (3, .int t)]) hx hb d_Md_run_46 hl (by decide) rfl (fun ls hl => ?_)
      exact key_48 n 0 0 it vs se 0 rs wk _ _ ls (by omega) (Nat.le_refl _) hR hl hP hS
    | succ k ih =>
      intro i se H locs ls hi hR hl hP hS
      have hR : (g_Mo_run_1_23 ti nm xa it vs rs wk n j t k (i + 1) (upd se i (nI i))) = R := hR
      have hD : va_D (blk a 15) (wMo cI cJ cZ a code kn ed ct ti nm xa xb (nI 0) it vs se 0 rs wk ors owk) := (blk_D (wMo_in))
      refine lv_iload hx hb d_Md_run_23 (lv_at hl 0 rfl) ?_
      refine lv_bipush (v := 16) hx hb d_Md_run_25 (by decide) ?_
      refine lv_icmp_ge (tgt := 45) hx hb d_Md_run_27 (by decide) (fun hc => False.elim (by have hc := (nI_leI (a := 16) (b := i) (by omega) (by omega)).mp hc; omega)) (fun hc => ?_)
      refine lv_aload_n hx hb d_Md_run_30 rfl (lv_at hl 1 rfl) ?_
      refine va_get (D := D) (ci := 9) (v := .ref (a + 10)) (C := R_Md) (T := F_Md) (N := 17) hx hb hg in_Md hown hK hP 0 rfl rfl 11 (Nat.le_of_ble_eq_true rfl) (hg _ tw_717) (fun _ h9 => h9) rfl d_Md_run_31 ?_
      refine lv_iload hx hb d_Md_run_34 (lv_at hl 0 rfl) ?_
      refine lv_iload hx hb d_Md_run_36 (lv_at hl 0 rfl) ?_
      refine ep_iast hx hb hK hP hD hS 10 0 rfl rfl (i := i) (x := (nI i)) (by omega) (by decide) d_Md_run_38 (fun H locs hP hD hS => ?_)
      have hP : va_P D cls (wMo cI cJ cZ a code kn ed ct ti nm xa xb (nI 0) it vs (upd se i (nI i)) 0 rs wk ors owk) H := hP
      have hD : va_D (blk a 15) (wMo cI cJ cZ a code kn ed ct ti nm xa xb (nI 0) it vs (upd se i (nI i)) 0 rs wk ors owk) := hD
      refine lv_iinc (k := 0) (lv' := [(4, .int (nI (i + 1))), (0, .ref a), (1, .int (nI j)), (2, .int 1), (3, .int t)]) hx hb d_Md_run_39 hl rfl (inc1 _) (by decide) rfl (fun ls hl => ?_)
      refine lv_goto (tgt := 23) hx hb d_Md_run_42 (by decide) ?_
      exact ih (i + 1) (upd se i (nI i)) _ _ ls (by omega) hR hl hP hS
  have hR : (g_Mo_run_1_23 ti nm xa it vs rs wk n j t 16 0 se) = R := hR
  refine lv_aload_n hx hb d_Md_run_0 rfl (lv_at hl 0 rfl) ?_
  refine lv_iload_n hx hb d_Md_run_1 rfl (lv_at hl 2 rfl) ?_
  refine lv_iconst (v := 5) hx hb d_Md_run_2 (by decide) ?_
  refine lv_icmp_ne (tgt := 11) hx hb d_Md_run_3 (by decide) (fun hc => ?_) (fun hc => False.elim (by revert hc; decide))
  refine lv_iconst (v := 0) hx hb d_Md_run_11 (by decide) ?_
  refine lv_topi (fun z7 e_z7 => ?_)
  obtain rfl : z7 = nI 0 := by rw [e_z7]; exact nI_0.symm
  refine va_put (D := D) (ci := 9) (v := .int (nI 0)) (ty := .int) (C := R_Md) (T := F_Md) (N := 17) hx hb hg in_Md t_Md t_Md_ok n_Md hown hK hP hD hS 0 rfl rfl 8 (Nat.le_of_ble_eq_true rfl) (hg _ tw_714) (fun _ h9 => h9) rfl (by decide +kernel) rfl rfl (Nat.le_of_ble_eq_true rfl) d_Md_run_12 (fun H locs hP hD hS => ?_)
  have hP : va_P D cls (wMo cI cJ cZ a code kn ed ct ti nm xa xb (nI 0) it vs se sm rs wk ors owk) H := hP
  have hD : va_D (blk a 15) (wMo cI cJ cZ a code kn ed ct ti nm xa xb (nI 0) it vs se sm rs wk ors owk) := hD
  refine lv_aload_n hx hb d_Md_run_15 rfl (lv_at hl 0 rfl) ?_
  refine lv_lconst (v := 0) hx hb d_Md_run_16 (by decide) ?_
  refine va_put (D := D) (ci := 9) (v := .long 0) (ty := .long) (C := R_Md) (T := F_Md) (N := 17) hx hb hg in_Md t_Md t_Md_ok n_Md hown hK hP hD hS 0 rfl rfl 12 (Nat.le_of_ble_eq_true rfl) (hg _ tw_718) (fun _ h9 => h9) rfl (by decide +kernel) rfl rfl (Nat.le_of_ble_eq_true rfl) d_Md_run_17 (fun H locs hP hD hS => ?_)
  have hP : va_P D cls (wMo cI cJ cZ a code kn ed ct ti nm xa xb (nI 0) it vs se 0 rs wk ors owk) H := hP
  have hD : va_D (blk a 15) (wMo cI cJ cZ a code kn ed ct ti nm xa xb (nI 0) it vs se 0 rs wk ors owk) := hD
  refine lv_iconst (v := 0) hx hb d_Md_run_20 (by decide) ?_
  refine lv_istore (lv' := [(4, .int 0), (0, .ref a), (1, .int (nI j)), (2, .int 1), (3, .int t)]) hx hb d_Md_run_21 hl (by decide) rfl (fun ls hl => ?_)
  exact key_23 16 0 se _ _ ls (by omega) hR hl hP hS

def g_Mo_run_2_48 (ti : Nat → Int32) (nm : Nat → Int32) (xa : Nat → Int32) (xb : Nat → Int32) (j : Nat) (t : Int32) : Nat → Nat → Nat → (Nat → Int32) → (Nat → Int32) → (Nat → Int32) → Int64 → (Nat → Int64) → (Nat → Int32) → Nat × (Nat → Int32) × (Nat → Int32) × (Nat → Int32) × Int64 × (Nat → Int64) × (Nat → Int32)
  | 0, i, mc, it, vs, se, sm, rs, wk => (mc, it, vs, se, sm, rs, wk)
  | k + 1, i, mc, it, vs, se, sm, rs, wk => if t < (ti (32 * j + i)) then ((mc, it, vs, se, sm, rs, wk)) else (g_Mo_run_2_48 ti nm xa xb j t k (i + 1) ((f_Mo_doTable mc it vs (vp_updL rs i 0) i (nm (32 * j + i)) (xa (32 * j + i)) (xb (32 * j + i))).2.1) ((f_Mo_doTable mc it vs (vp_updL rs i 0) i (nm (32 * j + i)) (xa (32 * j + i)) (xb (32 * j + i))).2.2.1) ((f_Mo_doTable mc it vs (vp_updL rs i 0) i (nm (32 * j + i)) (xa (32 * j + i)) (xb (32 * j + i))).2.2.2.1) se sm ((f_Mo_doTable mc it vs (vp_updL rs i 0) i (nm (32 * j + i)) (xa (32 * j + i)) (xb (32 * j + i))).2.2.2.2) (upd wk i ((f_Mo_doTable mc it vs (vp_updL rs i 0) i (nm (32 * j + i)) (xa (32 * j + i)) (xb (32 * j + i))).1)))

def g_Mo_run_2_23 (ti : Nat → Int32) (nm : Nat → Int32) (xa : Nat → Int32) (xb : Nat → Int32) (it : Nat → Int32) (vs : Nat → Int32) (rs : Nat → Int64) (wk : Nat → Int32) (n : Nat) (j : Nat) (t : Int32) : Nat → Nat → (Nat → Int32) → Nat × (Nat → Int32) × (Nat → Int32) × (Nat → Int32) × Int64 × (Nat → Int64) × (Nat → Int32)
  | 0, i, se => g_Mo_run_2_48 ti nm xa xb j t n 0 0 it vs se 0 rs wk
  | k + 1, i, se => g_Mo_run_2_23 ti nm xa xb it vs rs wk n j t k (i + 1) (upd se i (nI i))

def f_Mo_run_2 (ti : Nat → Int32) (nm : Nat → Int32) (xa : Nat → Int32) (xb : Nat → Int32) (it : Nat → Int32) (vs : Nat → Int32) (se : Nat → Int32) (rs : Nat → Int64) (wk : Nat → Int32) (n : Nat) (j : Nat) (t : Int32) : Nat × (Nat → Int32) × (Nat → Int32) × (Nat → Int32) × Int64 × (Nat → Int64) × (Nat → Int32) := g_Mo_run_2_23 ti nm xa xb it vs rs wk n j t 16 0 se
set_option maxHeartbeats 4000000 in
set_option maxRecDepth 100000 in
theorem m_Mo_run_2 (l : Launch) (D : va_G) (cI cJ cZ cO : ClassId) (a : Nat) (code : Int32) (kn : Nat → Int32) (ed : Nat → Int32) (ct : Nat → Int32) (ti : Nat → Int32) (nm : Nat → Int32) (xa : Nat → Int32) (xb : Nat → Int32) (ma : Int32) (it : Nat → Int32) (vs : Nat → Int32) (se : Nat → Int32) (sm : Int64) (rs : Nat → Int64) (wk : Nat → Int32) (ors : Nat → Int64) (owk : Nat → Int32) (n : Nat) (j : Nat) (t : Int32) (hj : j < 8) (hct : ct j = nI n) (hn : n ≤ 32) (R : Nat × (Nat → Int32) × (Nat → Int32) × (Nat → Int32) × Int64 × (Nat → Int64) × (Nat → Int32)) (hR : f_Mo_run_2 ti nm xa xb it vs se rs wk n j t = R) : Met l y_Md_run (k_Md_run :: gt) rm_Md_run (Pc0 D cI cJ cZ cO [.ref a, .int (nI j), .int 2, .int t] (fun H => va_P D cls (wMo cI cJ cZ a code kn ed ct ti nm xa xb ma it vs se sm rs wk ors owk) H)) (Qd (blk a 15) none (fun H => va_P D cls (wMo cI cJ cZ a code kn ed ct ti nm xa xb (nI R.1) R.2.1 R.2.2.1 R.2.2.2.1 R.2.2.2.2.1 R.2.2.2.2.2.1 R.2.2.2.2.2.2 ors owk) H)) 0 0 (blk a 15) := by
  refine Met.ofW (cc := c_Md_run) (maxL := 8) (ret := none) (by decide) rfl ?_
  intro p e s m args below meth c s₁ B hml hv
  obtain ⟨rfl, hKn, hP⟩ := hv
  have hx := B.exec
  have hb := B.bytes
  have hr := B.returns
  have hts := atoms_spec (ws := k_Md_run :: gt) B.pre
  have hg : ∀ w ∈ gt, w.before _ s = true := fun w h => hts w (List.mem_cons_of_mem _ h)
  have hown : s.vm.findClass R_Md = some m.cls := findClass_of_methodNamed B.named
  have hlocks := B.notSynchronized
  have hK := hKn.1
  have hl := lv_entry ([.ref a, .int (nI j), .int 2, .int t]) (n := 8) (Nat.le_of_ble_eq_true rfl)
  rw [lg_entry_eq]
  generalize (lg_sl ([.ref a, .int (nI j), .int 2, .int t]) ++ List.replicate (8 - (lg_sl ([.ref a, .int (nI j), .int 2, .int t])).length) Slot.unset).toArray = ls at hl ⊢
  have hl : lv_has ls 8 [(0, .ref a), (1, .int (nI j)), (2, .int 2), (3, .int t)] := hl
  have hS : va_S (blk a 15) s.heap s.heap [] := va_S.rf
  have hD : va_D (blk a 15) (wMo cI cJ cZ a code kn ed ct ti nm xa xb ma it vs se sm rs wk ors owk) := (blk_D (wMo_in))
  have key_48 : ∀ (k : Nat) (i : Nat) (mc : Nat) (it : Nat → Int32) (vs : Nat → Int32) (se : Nat → Int32) (sm : Int64) (rs : Nat → Int64) (wk : Nat → Int32) (H : Heap) (locs : List Loc) (ls : Array Slot), i + k = n → mc ≤ i → g_Mo_run_2_48 ti nm xa xb j t k i mc it vs se sm rs wk = R → lv_has ls 8 [(4, .int (nI i)), (0, .ref a), (1, .int (nI j)), (2, .int 2), (3, .int t)] → va_P D cls (wMo cI cJ cZ a code kn ed ct ti nm xa xb (nI mc) it vs se sm rs wk ors owk) H → va_S (blk a 15) s.heap H locs → W p l e (headSpec (k_Md_run :: gt) rm_Md_run).room s m ([.ref a, .int (nI j), .int 2, .int t] : List Value).toArray below meth c H locs 0 0 (MQ below (Qd (blk a 15) none (fun H => va_P D cls (wMo cI cJ cZ a code kn ed ct ti nm xa xb (nI R.1) R.2.1 R.2.2.1 R.2.2.2.1 R.2.2.2.2.1 R.2.2.2.2.2.1 R.2.2.2.2.2.2 ors owk) H)) ([.ref a, .int (nI j), .int 2, .int t] : List Value).toArray s 0 0 (blk a 15)) (F0 m 48 ls []) := by
    intro k
    induction k with
    | zero =>
      intro i mc it vs se sm rs wk H locs ls hi hm hR hl hP hS
      have hR : ((mc, it, vs, se, sm, rs, wk)) = R := hR
      have hD : va_D (blk a 15) (wMo cI cJ cZ a code kn ed ct ti nm xa xb (nI mc) it vs se sm rs wk ors owk) := (blk_D (wMo_in))
      refine lv_iload hx hb d_Md_run_48 (lv_at hl 0 rfl) ?_
      refine lv_aload_n hx hb d_Md_run_50 rfl (lv_at hl 1 rfl) ?_
      refine va_get (D := D) (ci := 9) (v := .ref (a + 3)) (C := R_Md) (T := F_Md) (N := 17) hx hb hg in_Md hown hK hP 0 rfl rfl 3 (Nat.le_of_ble_eq_true rfl) (hg _ tw_709) (fun _ h9 => h9) rfl d_Md_run_51 ?_
      refine lv_iload_n hx hb d_Md_run_54 rfl (lv_at hl 2 rfl) ?_
      refine ep_iald hx hb hK hP 3 0 rfl rfl (i := j) (by omega) (by decide) d_Md_run_55 ?_
      refine lv_topi (fun z9 e_z9 => ?_)
      obtain rfl : z9 = nI n := by rw [e_z9]; exact hct
      refine lv_icmp_ge (tgt := 241) hx hb d_Md_run_56 (by decide) (fun hc => ?_) (fun hc => False.elim (by have hc : ¬ (n ≤ i) := fun h => hc (by exact (nI_leI (a := n) (b := i) (by omega) (by omega)).mpr h); omega))
      subst hR
      exact W.vret hx hb hr (fun t9 ht hW => ⟨rfl, hS.F ht, by rw [ht]; exact hP⟩) hS.2.2 d_Md_run_241
    | succ k ih =>
      intro i mc it vs se sm rs wk H locs ls hi hm hR hl hP hS
      have hR : (if t < (ti (32 * j + i)) then ((mc, it, vs, se, sm, rs, wk)) else (g_Mo_run_2_48 ti nm xa xb j t k (i + 1) ((f_Mo_doTable mc it vs (vp_updL rs i 0) i (nm (32 * j + i)) (xa (32 * j + i)) (xb (32 * j + i))).2.1) ((f_Mo_doTable mc it vs (vp_updL rs i 0) i (nm (32 * j + i)) (xa (32 * j + i)) (xb (32 * j + i))).2.2.1) ((f_Mo_doTable mc it vs (vp_updL rs i 0) i (nm (32 * j + i)) (xa (32 * j + i)) (xb (32 * j + i))).2.2.2.1) se sm ((f_Mo_doTable mc it vs (vp_updL rs i 0) i (nm (32 * j + i)) (xa (32 * j + i)) (xb (32 * j + i))).2.2.2.2) (upd wk i ((f_Mo_doTable mc it vs (vp_updL rs i 0) i (nm (32 * j + i)) (xa (32 * j + i)) (xb (32 * j + i))).1)))) = R := hR
      have hD : va_D (blk a 15) (wMo cI cJ cZ a code kn ed ct ti nm xa xb (nI mc) it vs se sm rs wk ors owk) := (blk_D (wMo_in))
      refine lv_iload hx hb d_Md_run_48 (lv_at hl 0 rfl) ?_
      refine lv_aload_n hx hb d_Md_run_50 rfl (lv_at hl 1 rfl) ?_
      refine va_get (D := D) (ci := 9) (v := .ref (a + 3)) (C := R_Md) (T := F_Md) (N := 17) hx hb hg in_Md hown hK hP 0 rfl rfl 3 (Nat.le_of_ble_eq_true rfl) (hg _ tw_709) (fun _ h9 => h9) rfl d_Md_run_51 ?_
      refine lv_iload_n hx hb d_Md_run_54 rfl (lv_at hl 2 rfl) ?_
      refine ep_iald hx hb hK hP 3 0 rfl rfl (i := j) (by omega) (by decide) d_Md_run_55 ?_
      refine lv_topi (fun z9 e_z9 => ?_)
      obtain rfl : z9 = nI n := by rw [e_z9]; exact hct
      refine lv_icmp_ge (tgt := 241) hx hb d_Md_run_56 (by decide) (fun hc => False.elim (by have hc := (nI_leI (a := n) (b := i) (by omega) (by omega)).mp hc; omega)) (fun hc => ?_)
      refine lv_aload_n hx hb d_Md_run_59 rfl (lv_at hl 1 rfl) ?_
      refine va_get (D := D) (ci := 9) (v := .ref (a + 4)) (C := R_Md) (T := F_Md) (N := 17) hx hb hg in_Md hown hK hP 0 rfl rfl 4 (Nat.le_of_ble_eq_true rfl) (hg _ tw_710) (fun _ h9 => h9) rfl d_Md_run_60 ?_
      refine lv_bipush (v := 32) hx hb d_Md_run_63 (by decide) ?_
      refine lv_iload_n hx hb d_Md_run_65 rfl (lv_at hl 2 rfl) ?_
      refine lv_imul hx hb d_Md_run_66 ?_
      refine lv_topi (fun z9 e_z9 => ?_)
      obtain rfl : z9 = nI (32 * j) := by rw [e_z9]; exact (nI_mul 32 j)
      refine lv_iload hx hb d_Md_run_67 (lv_at hl 0 rfl) ?_
      refine lv_iadd hx hb d_Md_run_69 ?_
      refine lv_topi (fun z9 e_z9 => ?_)
      obtain rfl : z9 = nI (32 * j + i) := by rw [e_z9]; exact (nI_add (32 * j) i)
      refine ep_iald hx hb hK hP 4 0 rfl rfl (i := (32 * j + i)) (by omega) (by decide) d_Md_run_70 ?_
      refine lv_iload_n hx hb d_Md_run_71 rfl (lv_at hl 4 rfl) ?_
      refine lv_icmp_gt (tgt := 241) hx hb d_Md_run_72 (by decide) (fun hc1 => ?_) (fun hc1 => ?_)
      · have hc1 : t < (ti (32 * j + i)) := hc1
        rw [if_pos hc1] at hR
        subst hR
        exact W.vret hx hb hr (fun t9 ht hW => ⟨rfl, hS.F ht, by rw [ht]; exact hP⟩) hS.2.2 d_Md_run_241
      · have hc1 : ¬ (t < (ti (32 * j + i))) := hc1
        refine lv_aload_n hx hb d_Md_run_75 rfl (lv_at hl 1 rfl) ?_
        refine va_get (D := D) (ci := 9) (v := .ref (a + 5)) (C := R_Md) (T := F_Md) (N := 17) hx hb hg in_Md hown hK hP 0 rfl rfl 5 (Nat.le_of_ble_eq_true rfl) (hg _ tw_711) (fun _ h9 => h9) rfl d_Md_run_76 ?_
        refine lv_bipush (v := 32) hx hb d_Md_run_79 (by decide) ?_
        refine lv_iload_n hx hb d_Md_run_81 rfl (lv_at hl 2 rfl) ?_
        refine lv_imul hx hb d_Md_run_82 ?_
        refine lv_topi (fun z9 e_z9 => ?_)
        obtain rfl : z9 = nI (32 * j) := by rw [e_z9]; exact (nI_mul 32 j)
        refine lv_iload hx hb d_Md_run_83 (lv_at hl 0 rfl) ?_
        refine lv_iadd hx hb d_Md_run_85 ?_
        refine lv_topi (fun z9 e_z9 => ?_)
        obtain rfl : z9 = nI (32 * j + i) := by rw [e_z9]; exact (nI_add (32 * j) i)
        refine ep_iald hx hb hK hP 5 0 rfl rfl (i := (32 * j + i)) (by omega) (by decide) d_Md_run_86 ?_
        refine lv_istore (lv' := [(5, .int (nm (32 * j + i))), (4, .int (nI i)), (0, .ref a), (1, .int (nI j)), (2, .int 2), (3, .int t)]) hx hb d_Md_run_87 hl (by decide) rfl (fun ls hl => ?_)
        refine lv_aload_n hx hb d_Md_run_89 rfl (lv_at hl 2 rfl) ?_
        refine va_get (D := D) (ci := 9) (v := .ref (a + 6)) (C := R_Md) (T := F_Md) (N := 17) hx hb hg in_Md hown hK hP 0 rfl rfl 6 (Nat.le_of_ble_eq_true rfl) (hg _ tw_712) (fun _ h9 => h9) rfl d_Md_run_90 ?_
        refine lv_bipush (v := 32) hx hb d_Md_run_93 (by decide) ?_
        refine lv_iload_n hx hb d_Md_run_95 rfl (lv_at hl 3 rfl) ?_
        refine lv_imul hx hb d_Md_run_96 ?_
        refine lv_topi (fun z9 e_z9 => ?_)
        obtain rfl : z9 = nI (32 * j) := by rw [e_z9]; exact (nI_mul 32 j)
        refine lv_iload hx hb d_Md_run_97 (lv_at hl 1 rfl) ?_
        refine lv_iadd hx hb d_Md_run_99 ?_
        refine lv_topi (fun z9 e_z9 => ?_)
        obtain rfl : z9 = nI (32 * j + i) := by rw [e_z9]; exact (nI_add (32 * j) i)
        refine ep_iald hx hb hK hP 6 0 rfl rfl (i := (32 * j + i)) (by omega) (by decide) d_Md_run_100 ?_
        refine lv_istore (lv' := [(6, .int (xa (32 * j + i))), (5, .int (nm (32 * j + i))), (4, .int (nI i)), (0, .ref a), (1, .int (nI j)), (2, .int 2), (3, .int t)]) hx hb d_Md_run_101 hl (by decide) rfl (fun ls hl => ?_)
        refine lv_aload_n hx hb d_Md_run_103 rfl (lv_at hl 3 rfl) ?_
        refine va_get (D := D) (ci := 9) (v := .ref (a + 7)) (C := R_Md) (T := F_Md) (N := 17) hx hb hg in_Md hown hK hP 0 rfl rfl 7 (Nat.le_of_ble_eq_true rfl) (hg _ tw_713) (fun _ h9 => h9) rfl d_Md_run_104 ?_
        refine lv_bipush (v := 32) hx hb d_Md_run_107 (by decide) ?_
        refine lv_iload_n hx hb d_Md_run_109 rfl (lv_at hl 4 rfl) ?_
        refine lv_imul hx hb d_Md_run_110 ?_
        refine lv_topi (fun z9 e_z9 => ?_)
        obtain rfl : z9 = nI (32 * j) := by rw [e_z9]; exact (nI_mul 32 j)
        refine lv_iload hx hb d_Md_run_111 (lv_at hl 2 rfl) ?_
        refine lv_iadd hx hb d_Md_run_113 ?_
        refine lv_topi (fun z9 e_z9 => ?_)
        obtain rfl : z9 = nI (32 * j + i) := by rw [e_z9]; exact (nI_add (32 * j) i)
        refine ep_iald hx hb hK hP 7 0 rfl rfl (i := (32 * j + i)) (by omega) (by decide) d_Md_run_114 ?_
        refine lv_istore (lv' := [(7, .int (xb (32 * j + i))), (6, .int (xa (32 * j + i))), (5, .int (nm (32 * j + i))), (4, .int (nI i)), (0, .ref a), (1, .int (nI j)), (2, .int 2), (3, .int t)]) hx hb d_Md_run_115 hl (by decide) rfl (fun ls hl => ?_)
        refine lv_aload_n hx hb d_Md_run_117 rfl (lv_at hl 4 rfl) ?_
        refine va_get (D := D) (ci := 9) (v := .ref (a + 11)) (C := R_Md) (T := F_Md) (N := 17) hx hb hg in_Md hown hK hP 0 rfl rfl 13 (Nat.le_of_ble_eq_true rfl) (hg _ tw_719) (fun _ h9 => h9) rfl d_Md_run_118 ?_
        refine lv_iload hx hb d_Md_run_121 (lv_at hl 3 rfl) ?_
        refine lv_lconst (v := 0) hx hb d_Md_run_123 (by decide) ?_
        refine ep_last hx hb hK hP hD hS 11 1 rfl rfl (i := i) (x := 0) (by omega) (by decide) d_Md_run_124 (fun H locs hP hD hS => ?_)
        have hP : va_P D cls (wMo cI cJ cZ a code kn ed ct ti nm xa xb (nI mc) it vs se sm (vp_updL rs i 0) wk ors owk) H := hP
        have hD : va_D (blk a 15) (wMo cI cJ cZ a code kn ed ct ti nm xa xb (nI mc) it vs se sm (vp_updL rs i 0) wk ors owk) := hD
        refine lv_iload_n hx hb d_Md_run_125 rfl (lv_at hl 6 rfl) ?_
        refine lv_iconst (v := 4) hx hb d_Md_run_126 (by decide) ?_
        refine lv_icmp_ne (tgt := 181) hx hb d_Md_run_127 (by decide) (fun hc => ?_) (fun hc => False.elim (by revert hc; decide))
        refine lv_aload_n hx hb d_Md_run_181 rfl (lv_at hl 4 rfl) ?_
        refine va_get (D := D) (ci := 9) (v := .ref (a + 12)) (C := R_Md) (T := F_Md) (N := 17) hx hb hg in_Md hown hK hP 0 rfl rfl 14 (Nat.le_of_ble_eq_true rfl) (hg _ tw_720) (fun _ h9 => h9) rfl d_Md_run_182 ?_
        refine lv_iload hx hb d_Md_run_185 (lv_at hl 3 rfl) ?_
        refine lv_iload_n hx hb d_Md_run_187 rfl (lv_at hl 6 rfl) ?_
        refine lv_iconst (v := 5) hx hb d_Md_run_188 (by decide) ?_
        refine lv_icmp_ne (tgt := 203) hx hb d_Md_run_189 (by decide) (fun hc => ?_) (fun hc => False.elim (by revert hc; decide))
        refine lv_iload_n hx hb d_Md_run_203 rfl (lv_at hl 6 rfl) ?_
        refine lv_iconst (v := 2) hx hb d_Md_run_204 (by decide) ?_
        refine lv_icmp_ne (tgt := 223) hx hb d_Md_run_205 (by decide) (fun hc => False.elim (by revert hc; decide)) (fun hc => ?_)
        refine lv_aload_n hx hb d_Md_run_208 rfl (lv_at hl 4 rfl) ?_
        refine lv_iload hx hb d_Md_run_209 (lv_at hl 3 rfl) ?_
        refine lv_iload hx hb d_Md_run_211 (lv_at hl 2 rfl) ?_
        refine lv_iload hx hb d_Md_run_213 (lv_at hl 1 rfl) ?_
        refine lv_iload hx hb d_Md_run_215 (lv_at hl 0 rfl) ?_
        refine ep_callH (W.runV (As := [.int (nI i), .int (nm (32 * j + i)), .int (xa (32 * j + i)), .int (xb (32 * j + i))]) (rest := [.int (nI i), .ref (a + 12)]) ⟨hx, hb, hml, hown, hg⟩ (m_Mo_doTable l D cI cJ cZ cO a code kn ed ct ti nm xa xb mc it vs se sm (vp_updL rs i 0) wk ors owk i (nm (32 * j + i)) (xa (32 * j + i)) (xb (32 * j + i)) (by omega) (by omega) _ rfl) (ep_cwV 4 hg tw_840 tw_842 ts_19 tw_12 tk_Md_doTable rfl rfl (by decide +kernel) ⟨(Nat.le_of_ble_eq_true rfl), (Nat.le_of_ble_eq_true rfl)⟩) ⟨ep_blind, va_recv (q0 := 0) (ci := 9) hK hP rfl rfl, ep_pre hKn (hP)⟩ rfl rfl hl.1 rfl (lv_room (Nat.le_of_ble_eq_true rfl)) d_Md_run_217 ⟨Nat.zero_le _, Nat.zero_le _⟩) hS (fun q h => h) (fun H locs hsz9 hk1 hP1 hS => ?_)
        refine W.eq (g2 := F0 m 220 ls [.int ((f_Mo_doTable mc it vs (vp_updL rs i 0) i (nm (32 * j + i)) (xa (32 * j + i)) (xb (32 * j + i))).1), .int (nI i), .ref (a + 12)]) rfl ?_
        have hP : va_P D cls (wMo cI cJ cZ a code kn ed ct ti nm xa xb (nI ((f_Mo_doTable mc it vs (vp_updL rs i 0) i (nm (32 * j + i)) (xa (32 * j + i)) (xb (32 * j + i))).2.1)) ((f_Mo_doTable mc it vs (vp_updL rs i 0) i (nm (32 * j + i)) (xa (32 * j + i)) (xb (32 * j + i))).2.2.1) ((f_Mo_doTable mc it vs (vp_updL rs i 0) i (nm (32 * j + i)) (xa (32 * j + i)) (xb (32 * j + i))).2.2.2.1) se sm ((f_Mo_doTable mc it vs (vp_updL rs i 0) i (nm (32 * j + i)) (xa (32 * j + i)) (xb (32 * j + i))).2.2.2.2) wk ors owk) H := hP1
        have hD : va_D (blk a 15) (wMo cI cJ cZ a code kn ed ct ti nm xa xb (nI ((f_Mo_doTable mc it vs (vp_updL rs i 0) i (nm (32 * j + i)) (xa (32 * j + i)) (xb (32 * j + i))).2.1)) ((f_Mo_doTable mc it vs (vp_updL rs i 0) i (nm (32 * j + i)) (xa (32 * j + i)) (xb (32 * j + i))).2.2.1) ((f_Mo_doTable mc it vs (vp_updL rs i 0) i (nm (32 * j + i)) (xa (32 * j + i)) (xb (32 * j + i))).2.2.2.1) se sm ((f_Mo_doTable mc it vs (vp_updL rs i 0) i (nm (32 * j + i)) (xa (32 * j + i)) (xb (32 * j + i))).2.2.2.2) wk ors owk) := (blk_D (wMo_in))
        refine lv_goto (tgt := 234) hx hb d_Md_run_220 (by decide) ?_
        refine ep_zast hx hb hK hP hD hS 12 2 rfl rfl (i := i) (x := ((f_Mo_doTable mc it vs (vp_updL rs i 0) i (nm (32 * j + i)) (xa (32 * j + i)) (xb (32 * j + i))).1)) (bz1 (doTable_bz _ _ _ _ _ _ _ _)) (by omega) (by decide) d_Md_run_234 (fun H locs hP hD hS => ?_)
        have hP : va_P D cls (wMo cI cJ cZ a code kn ed ct ti nm xa xb (nI ((f_Mo_doTable mc it vs (vp_updL rs i 0) i (nm (32 * j + i)) (xa (32 * j + i)) (xb (32 * j + i))).2.1)) ((f_Mo_doTable mc it vs (vp_updL rs i 0) i (nm (32 * j + i)) (xa (32 * j + i)) (xb (32 * j + i))).2.2.1) ((f_Mo_doTable mc it vs (vp_updL rs i 0) i (nm (32 * j + i)) (xa (32 * j + i)) (xb (32 * j + i))).2.2.2.1) se sm ((f_Mo_doTable mc it vs (vp_updL rs i 0) i (nm (32 * j + i)) (xa (32 * j + i)) (xb (32 * j + i))).2.2.2.2) (upd wk i ((f_Mo_doTable mc it vs (vp_updL rs i 0) i (nm (32 * j + i)) (xa (32 * j + i)) (xb (32 * j + i))).1)) ors owk) H := hP
        have hD : va_D (blk a 15) (wMo cI cJ cZ a code kn ed ct ti nm xa xb (nI ((f_Mo_doTable mc it vs (vp_updL rs i 0) i (nm (32 * j + i)) (xa (32 * j + i)) (xb (32 * j + i))).2.1)) ((f_Mo_doTable mc it vs (vp_updL rs i 0) i (nm (32 * j + i)) (xa (32 * j + i)) (xb (32 * j + i))).2.2.1) ((f_Mo_doTable mc it vs (vp_updL rs i 0) i (nm (32 * j + i)) (xa (32 * j + i)) (xb (32 * j + i))).2.2.2.1) se sm ((f_Mo_doTable mc it vs (vp_updL rs i 0) i (nm (32 * j + i)) (xa (32 * j + i)) (xb (32 * j + i))).2.2.2.2) (upd wk i ((f_Mo_doTable mc it vs (vp_updL rs i 0) i (nm (32 * j + i)) (xa (32 * j + i)) (xb (32 * j + i))).1)) ors owk) := hD
        refine lv_iinc (k := 3) (lv' := [(4, .int (nI (i + 1))), (7, .int (xb (32 * j + i))), (6, .int (xa (32 * j + i))), (5, .int (nm (32 * j + i))), (0, .ref a), (1, .int (nI j)), (2, .int 2), (3, .int t)]) hx hb d_Md_run_235 hl rfl (inc1 _) (by decide) rfl (fun ls hl => ?_)
        refine lv_goto (tgt := 48) hx hb d_Md_run_238 (by decide) ?_
        rw [if_neg hc1] at hR
        exact ih (i + 1) ((f_Mo_doTable mc it vs (vp_updL rs i 0) i (nm (32 * j + i)) (xa (32 * j + i)) (xb (32 * j + i))).2.1) ((f_Mo_doTable mc it vs (vp_updL rs i 0) i (nm (32 * j + i)) (xa (32 * j + i)) (xb (32 * j + i))).2.2.1) ((f_Mo_doTable mc it vs (vp_updL rs i 0) i (nm (32 * j + i)) (xa (32 * j + i)) (xb (32 * j + i))).2.2.2.1) se sm ((f_Mo_doTable mc it vs (vp_updL rs i 0) i (nm (32 * j + i)) (xa (32 * j + i)) (xb (32 * j + i))).2.2.2.2) (upd wk i ((f_Mo_doTable mc it vs (vp_updL rs i 0) i (nm (32 * j + i)) (xa (32 * j + i)) (xb (32 * j + i))).1)) _ _ ls (by omega) (doTable_le _ _ _ _ _ _ _ _ hm) hR (lv_sub hl [0, 4, 5, 6, 7] rfl) hP hS
  have key_23 : ∀ (k : Nat) (i : Nat) (se : Nat → Int32) (H : Heap) (locs : List Loc) (ls : Array Slot), i + k = 16 → g_Mo_run_2_23 ti nm xa xb it vs rs wk n j t k i se = R → lv_has ls 8 [(4, .int (nI i)), (0, .ref a), (1, .int (nI j)), (2, .int 2), (3, .int t)] → va_P D cls (wMo cI cJ cZ a code kn ed ct ti nm xa xb (nI 0) it vs se 0 rs wk ors owk) H → va_S (blk a 15) s.heap H locs → W p l e (headSpec (k_Md_run :: gt) rm_Md_run).room s m ([.ref a, .int (nI j), .int 2, .int t] : List Value).toArray below meth c H locs 0 0 (MQ below (Qd (blk a 15) none (fun H => va_P D cls (wMo cI cJ cZ a code kn ed ct ti nm xa xb (nI R.1) R.2.1 R.2.2.1 R.2.2.2.1 R.2.2.2.2.1 R.2.2.2.2.2.1 R.2.2.2.2.2.2 ors owk) H)) ([.ref a, .int (nI j), .int 2, .int t] : List Value).toArray s 0 0 (blk a 15)) (F0 m 23 ls []) := by
    intro k
    induction k with
    | zero =>
      intro i se H locs ls hi hR hl hP hS
      have hR : (g_Mo_run_2_48 ti nm xa xb j t n 0 0 it vs se 0 rs wk) = R := hR
      have hD : va_D (blk a 15) (wMo cI cJ cZ a code kn ed ct ti nm xa xb (nI 0) it vs se 0 rs wk ors owk) := (blk_D (wMo_in))
      refine lv_iload hx hb d_Md_run_23 (lv_at hl 0 rfl) ?_
      refine lv_bipush (v := 16) hx hb d_Md_run_25 (by decide) ?_
      refine lv_icmp_ge (tgt := 45) hx hb d_Md_run_27 (by decide) (fun hc => ?_) (fun hc => False.elim (by have hc : ¬ (16 ≤ i) := fun h => hc (by exact (nI_leI (a := 16) (b := i) (by omega) (by omega)).mpr h); omega))
      refine lv_iconst (v := 0) hx hb d_Md_run_45 (by decide) ?_
      refine lv_istore (lv' := [(4, .int 0), (0, .ref a), (1, .int (nI j)), (2, .int 2), (3, .int t)]) hx hb d_Md_run_46 hl (by decide) rfl (fun ls hl => ?_)
      exact key_48 n 0 0 it vs se 0 rs wk _ _ ls (by omega) (Nat.le_refl _) hR hl hP hS
    | succ k ih =>
      intro i se H locs ls hi hR hl hP hS
      have hR : (g_Mo_run_2_23 ti nm xa xb it vs rs wk n j t k (i + 1) (upd se i (nI i))) = R := hR
      have hD : va_D (blk a 15) (wMo cI cJ cZ a code kn ed ct ti nm xa xb (nI 0) it vs se 0 rs wk ors owk) := (blk_D (wMo_in))
      refine lv_iload hx hb d_Md_run_23 (lv_at hl 0 rfl) ?_
      refine lv_bipush (v := 16) hx hb d_Md_run_25 (by decide) ?_
      refine lv_icmp_ge (tgt := 45) hx hb d_Md_run_27 (by decide) (fun hc => False.elim (by have hc := (nI_leI (a := 16) (b := i) (by omega) (by omega)).mp hc; omega)) (fun hc => ?_)
      refine lv_aload_n hx hb d_Md_run_30 rfl (lv_at hl 1 rfl) ?_
      refine va_get (D := D) (ci := 9) (v := .ref (a + 10)) (C := R_Md) (T := F_Md) (N := 17) hx hb hg in_Md hown hK hP 0 rfl rfl 11 (Nat.le_of_ble_eq_true rfl) (hg _ tw_717) (fun _ h9 => h9) rfl d_Md_run_31 ?_
      refine lv_iload hx hb d_Md_run_34 (lv_at hl 0 rfl) ?_
      refine lv_iload hx hb d_Md_run_36 (lv_at hl 0 rfl) ?_
      refine ep_iast hx hb hK hP hD hS 10 0 rfl rfl (i := i) (x := (nI i)) (by omega) (by decide) d_Md_run_38 (fun H locs hP hD hS => ?_)
      have hP : va_P D cls (wMo cI cJ cZ a code kn ed ct ti nm xa xb (nI 0) it vs (upd se i (nI i)) 0 rs wk ors owk) H := hP
      have hD : va_D (blk a 15) (wMo cI cJ cZ a code kn ed ct ti nm xa xb (nI 0) it vs (upd se i (nI i)) 0 rs wk ors owk) := hD
      refine lv_iinc (k := 0) (lv' := [(4, .int (nI (i + 1))), (0, .ref a), (1, .int (nI j)), (2, .int 2), (3, .int t)]) hx hb d_Md_run_39 hl rfl (inc1 _) (by decide) rfl (fun ls hl => ?_)
      refine lv_goto (tgt := 23) hx hb d_Md_run_42 (by decide) ?_
      exact ih (i + 1) (upd se i (nI i)) _ _ ls (by omega) hR hl hP hS
  have hR : (g_Mo_run_2_23 ti nm xa xb it vs rs wk n j t 16 0 se) = R := hR
  refine lv_aload_n hx hb d_Md_run_0 rfl (lv_at hl 0 rfl) ?_
  refine lv_iload_n hx hb d_Md_run_1 rfl (lv_at hl 2 rfl) ?_
  refine lv_iconst (v := 5) hx hb d_Md_run_2 (by decide) ?_
  refine lv_icmp_ne (tgt := 11) hx hb d_Md_run_3 (by decide) (fun hc => ?_) (fun hc => False.elim (by revert hc; decide))
  refine lv_iconst (v := 0) hx hb d_Md_run_11 (by decide) ?_
  refine lv_topi (fun z7 e_z7 => ?_)
  obtain rfl : z7 = nI 0 := by rw [e_z7]; exact nI_0.symm
  refine va_put (D := D) (ci := 9) (v := .int (nI 0)) (ty := .int) (C := R_Md) (T := F_Md) (N := 17) hx hb hg in_Md t_Md t_Md_ok n_Md hown hK hP hD hS 0 rfl rfl 8 (Nat.le_of_ble_eq_true rfl) (hg _ tw_714) (fun _ h9 => h9) rfl (by decide +kernel) rfl rfl (Nat.le_of_ble_eq_true rfl) d_Md_run_12 (fun H locs hP hD hS => ?_)
  have hP : va_P D cls (wMo cI cJ cZ a code kn ed ct ti nm xa xb (nI 0) it vs se sm rs wk ors owk) H := hP
  have hD : va_D (blk a 15) (wMo cI cJ cZ a code kn ed ct ti nm xa xb (nI 0) it vs se sm rs wk ors owk) := hD
  refine lv_aload_n hx hb d_Md_run_15 rfl (lv_at hl 0 rfl) ?_
  refine lv_lconst (v := 0) hx hb d_Md_run_16 (by decide) ?_
  refine va_put (D := D) (ci := 9) (v := .long 0) (ty := .long) (C := R_Md) (T := F_Md) (N := 17) hx hb hg in_Md t_Md t_Md_ok n_Md hown hK hP hD hS 0 rfl rfl 12 (Nat.le_of_ble_eq_true rfl) (hg _ tw_718) (fun _ h9 => h9) rfl (by decide +kernel) rfl rfl (Nat.le_of_ble_eq_true rfl) d_Md_run_17 (fun H locs hP hD hS => ?_)
  have hP : va_P D cls (wMo cI cJ cZ a code kn ed ct ti nm xa xb (nI 0) it vs se 0 rs wk ors owk) H := hP
  have hD : va_D (blk a 15) (wMo cI cJ cZ a code kn ed ct ti nm xa xb (nI 0) it vs se 0 rs wk ors owk) := hD
  refine lv_iconst (v := 0) hx hb d_Md_run_20 (by decide) ?_
  refine lv_istore (lv' := [(4, .int 0), (0, .ref a), (1, .int (nI j)), (2, .int 2), (3, .int t)]) hx hb d_Md_run_21 hl (by decide) rfl (fun ls hl => ?_)
  exact key_23 16 0 se _ _ ls (by omega) hR hl hP hS

def g_Mo_run_3_48 (ti : Nat → Int32) (nm : Nat → Int32) (xa : Nat → Int32) (j : Nat) (t : Int32) : Nat → Nat → Nat → (Nat → Int32) → (Nat → Int32) → (Nat → Int32) → Int64 → (Nat → Int64) → (Nat → Int32) → Nat × (Nat → Int32) × (Nat → Int32) × (Nat → Int32) × Int64 × (Nat → Int64) × (Nat → Int32)
  | 0, i, mc, it, vs, se, sm, rs, wk => (mc, it, vs, se, sm, rs, wk)
  | k + 1, i, mc, it, vs, se, sm, rs, wk => if t < (ti (32 * j + i)) then ((mc, it, vs, se, sm, rs, wk)) else (g_Mo_run_3_48 ti nm xa j t k (i + 1) ((f_Mo_doBag_3 mc it vs (vp_updL rs i 0) i (nm (32 * j + i)) (xa (32 * j + i))).2.1) ((f_Mo_doBag_3 mc it vs (vp_updL rs i 0) i (nm (32 * j + i)) (xa (32 * j + i))).2.2.1) ((f_Mo_doBag_3 mc it vs (vp_updL rs i 0) i (nm (32 * j + i)) (xa (32 * j + i))).2.2.2.1) se sm ((f_Mo_doBag_3 mc it vs (vp_updL rs i 0) i (nm (32 * j + i)) (xa (32 * j + i))).2.2.2.2) (upd wk i ((f_Mo_doBag_3 mc it vs (vp_updL rs i 0) i (nm (32 * j + i)) (xa (32 * j + i))).1)))

def g_Mo_run_3_23 (ti : Nat → Int32) (nm : Nat → Int32) (xa : Nat → Int32) (it : Nat → Int32) (vs : Nat → Int32) (rs : Nat → Int64) (wk : Nat → Int32) (n : Nat) (j : Nat) (t : Int32) : Nat → Nat → (Nat → Int32) → Nat × (Nat → Int32) × (Nat → Int32) × (Nat → Int32) × Int64 × (Nat → Int64) × (Nat → Int32)
  | 0, i, se => g_Mo_run_3_48 ti nm xa j t n 0 0 it vs se 0 rs wk
  | k + 1, i, se => g_Mo_run_3_23 ti nm xa it vs rs wk n j t k (i + 1) (upd se i (nI i))

def f_Mo_run_3 (ti : Nat → Int32) (nm : Nat → Int32) (xa : Nat → Int32) (it : Nat → Int32) (vs : Nat → Int32) (se : Nat → Int32) (rs : Nat → Int64) (wk : Nat → Int32) (n : Nat) (j : Nat) (t : Int32) : Nat × (Nat → Int32) × (Nat → Int32) × (Nat → Int32) × Int64 × (Nat → Int64) × (Nat → Int32) := g_Mo_run_3_23 ti nm xa it vs rs wk n j t 16 0 se
set_option maxHeartbeats 4000000 in
set_option maxRecDepth 100000 in
theorem m_Mo_run_3 (l : Launch) (D : va_G) (cI cJ cZ cO : ClassId) (a : Nat) (code : Int32) (kn : Nat → Int32) (ed : Nat → Int32) (ct : Nat → Int32) (ti : Nat → Int32) (nm : Nat → Int32) (xa : Nat → Int32) (xb : Nat → Int32) (ma : Int32) (it : Nat → Int32) (vs : Nat → Int32) (se : Nat → Int32) (sm : Int64) (rs : Nat → Int64) (wk : Nat → Int32) (ors : Nat → Int64) (owk : Nat → Int32) (n : Nat) (j : Nat) (t : Int32) (hj : j < 8) (hct : ct j = nI n) (hn : n ≤ 32) (R : Nat × (Nat → Int32) × (Nat → Int32) × (Nat → Int32) × Int64 × (Nat → Int64) × (Nat → Int32)) (hR : f_Mo_run_3 ti nm xa it vs se rs wk n j t = R) : Met l y_Md_run (k_Md_run :: gt) rm_Md_run (Pc0 D cI cJ cZ cO [.ref a, .int (nI j), .int 3, .int t] (fun H => va_P D cls (wMo cI cJ cZ a code kn ed ct ti nm xa xb ma it vs se sm rs wk ors owk) H)) (Qd (blk a 15) none (fun H => va_P D cls (wMo cI cJ cZ a code kn ed ct ti nm xa xb (nI R.1) R.2.1 R.2.2.1 R.2.2.2.1 R.2.2.2.2.1 R.2.2.2.2.2.1 R.2.2.2.2.2.2 ors owk) H)) 0 0 (blk a 15) := by
  refine Met.ofW (cc := c_Md_run) (maxL := 8) (ret := none) (by decide) rfl ?_
  intro p e s m args below meth c s₁ B hml hv
  obtain ⟨rfl, hKn, hP⟩ := hv
  have hx := B.exec
  have hb := B.bytes
  have hr := B.returns
  have hts := atoms_spec (ws := k_Md_run :: gt) B.pre
  have hg : ∀ w ∈ gt, w.before _ s = true := fun w h => hts w (List.mem_cons_of_mem _ h)
  have hown : s.vm.findClass R_Md = some m.cls := findClass_of_methodNamed B.named
  have hlocks := B.notSynchronized
  have hK := hKn.1
  have hl := lv_entry ([.ref a, .int (nI j), .int 3, .int t]) (n := 8) (Nat.le_of_ble_eq_true rfl)
  rw [lg_entry_eq]
  generalize (lg_sl ([.ref a, .int (nI j), .int 3, .int t]) ++ List.replicate (8 - (lg_sl ([.ref a, .int (nI j), .int 3, .int t])).length) Slot.unset).toArray = ls at hl ⊢
  have hl : lv_has ls 8 [(0, .ref a), (1, .int (nI j)), (2, .int 3), (3, .int t)] := hl
  have hS : va_S (blk a 15) s.heap s.heap [] := va_S.rf
  have hD : va_D (blk a 15) (wMo cI cJ cZ a code kn ed ct ti nm xa xb ma it vs se sm rs wk ors owk) := (blk_D (wMo_in))
  have key_48 : ∀ (k : Nat) (i : Nat) (mc : Nat) (it : Nat → Int32) (vs : Nat → Int32) (se : Nat → Int32) (sm : Int64) (rs : Nat → Int64) (wk : Nat → Int32) (H : Heap) (locs : List Loc) (ls : Array Slot), i + k = n → mc ≤ i → g_Mo_run_3_48 ti nm xa j t k i mc it vs se sm rs wk = R → lv_has ls 8 [(4, .int (nI i)), (0, .ref a), (1, .int (nI j)), (2, .int 3), (3, .int t)] → va_P D cls (wMo cI cJ cZ a code kn ed ct ti nm xa xb (nI mc) it vs se sm rs wk ors owk) H → va_S (blk a 15) s.heap H locs → W p l e (headSpec (k_Md_run :: gt) rm_Md_run).room s m ([.ref a, .int (nI j), .int 3, .int t] : List Value).toArray below meth c H locs 0 0 (MQ below (Qd (blk a 15) none (fun H => va_P D cls (wMo cI cJ cZ a code kn ed ct ti nm xa xb (nI R.1) R.2.1 R.2.2.1 R.2.2.2.1 R.2.2.2.2.1 R.2.2.2.2.2.1 R.2.2.2.2.2.2 ors owk) H)) ([.ref a, .int (nI j), .int 3, .int t] : List Value).toArray s 0 0 (blk a 15)) (F0 m 48 ls []) := by
    intro k
    induction k with
    | zero =>
      intro i mc it vs se sm rs wk H locs ls hi hm hR hl hP hS
      have hR : ((mc, it, vs, se, sm, rs, wk)) = R := hR
      have hD : va_D (blk a 15) (wMo cI cJ cZ a code kn ed ct ti nm xa xb (nI mc) it vs se sm rs wk ors owk) := (blk_D (wMo_in))
      refine lv_iload hx hb d_Md_run_48 (lv_at hl 0 rfl) ?_
      refine lv_aload_n hx hb d_Md_run_50 rfl (lv_at hl 1 rfl) ?_
      refine va_get (D := D) (ci := 9) (v := .ref (a + 3)) (C := R_Md) (T := F_Md) (N := 17) hx hb hg in_Md hown hK hP 0 rfl rfl 3 (Nat.le_of_ble_eq_true rfl) (hg _ tw_709) (fun _ h9 => h9) rfl d_Md_run_51 ?_
      refine lv_iload_n hx hb d_Md_run_54 rfl (lv_at hl 2 rfl) ?_
      refine ep_iald hx hb hK hP 3 0 rfl rfl (i := j) (by omega) (by decide) d_Md_run_55 ?_
      refine lv_topi (fun z9 e_z9 => ?_)
      obtain rfl : z9 = nI n := by rw [e_z9]; exact hct
      refine lv_icmp_ge (tgt := 241) hx hb d_Md_run_56 (by decide) (fun hc => ?_) (fun hc => False.elim (by have hc : ¬ (n ≤ i) := fun h => hc (by exact (nI_leI (a := n) (b := i) (by omega) (by omega)).mpr h); omega))
      subst hR
      exact W.vret hx hb hr (fun t9 ht hW => ⟨rfl, hS.F ht, by rw [ht]; exact hP⟩) hS.2.2 d_Md_run_241
    | succ k ih =>
      intro i mc it vs se sm rs wk H locs ls hi hm hR hl hP hS
      have hR : (if t < (ti (32 * j + i)) then ((mc, it, vs, se, sm, rs, wk)) else (g_Mo_run_3_48 ti nm xa j t k (i + 1) ((f_Mo_doBag_3 mc it vs (vp_updL rs i 0) i (nm (32 * j + i)) (xa (32 * j + i))).2.1) ((f_Mo_doBag_3 mc it vs (vp_updL rs i 0) i (nm (32 * j + i)) (xa (32 * j + i))).2.2.1) ((f_Mo_doBag_3 mc it vs (vp_updL rs i 0) i (nm (32 * j + i)) (xa (32 * j + i))).2.2.2.1) se sm ((f_Mo_doBag_3 mc it vs (vp_updL rs i 0) i (nm (32 * j + i)) (xa (32 * j + i))).2.2.2.2) (upd wk i ((f_Mo_doBag_3 mc it vs (vp_updL rs i 0) i (nm (32 * j + i)) (xa (32 * j + i))).1)))) = R := hR
      have hD : va_D (blk a 15) (wMo cI cJ cZ a code kn ed ct ti nm xa xb (nI mc) it vs se sm rs wk ors owk) := (blk_D (wMo_in))
      refine lv_iload hx hb d_Md_run_48 (lv_at hl 0 rfl) ?_
      refine lv_aload_n hx hb d_Md_run_50 rfl (lv_at hl 1 rfl) ?_
      refine va_get (D := D) (ci := 9) (v := .ref (a + 3)) (C := R_Md) (T := F_Md) (N := 17) hx hb hg in_Md hown hK hP 0 rfl rfl 3 (Nat.le_of_ble_eq_true rfl) (hg _ tw_709) (fun _ h9 => h9) rfl d_Md_run_51 ?_
      refine lv_iload_n hx hb d_Md_run_54 rfl (lv_at hl 2 rfl) ?_
      refine ep_iald hx hb hK hP 3 0 rfl rfl (i := j) (by omega) (by decide) d_Md_run_55 ?_
      refine lv_topi (fun z9 e_z9 => ?_)
      obtain rfl : z9 = nI n := by rw [e_z9]; exact hct
      refine lv_icmp_ge (tgt := 241) hx hb d_Md_run_56 (by decide) (fun hc => False.elim (by have hc := (nI_leI (a := n) (b := i) (by omega) (by omega)).mp hc; omega)) (fun hc => ?_)
      refine lv_aload_n hx hb d_Md_run_59 rfl (lv_at hl 1 rfl) ?_
      refine va_get (D := D) (ci := 9) (v := .ref (a + 4)) (C := R_Md) (T := F_Md) (N := 17) hx hb hg in_Md hown hK hP 0 rfl rfl 4 (Nat.le_of_ble_eq_true rfl) (hg _ tw_710) (fun _ h9 => h9) rfl d_Md_run_60 ?_
      refine lv_bipush (v := 32) hx hb d_Md_run_63 (by decide) ?_
      refine lv_iload_n hx hb d_Md_run_65 rfl (lv_at hl 2 rfl) ?_
      refine lv_imul hx hb d_Md_run_66 ?_
      refine lv_topi (fun z9 e_z9 => ?_)
      obtain rfl : z9 = nI (32 * j) := by rw [e_z9]; exact (nI_mul 32 j)
      refine lv_iload hx hb d_Md_run_67 (lv_at hl 0 rfl) ?_
      refine lv_iadd hx hb d_Md_run_69 ?_
      refine lv_topi (fun z9 e_z9 => ?_)
      obtain rfl : z9 = nI (32 * j + i) := by rw [e_z9]; exact (nI_add (32 * j) i)
      refine ep_iald hx hb hK hP 4 0 rfl rfl (i := (32 * j + i)) (by omega) (by decide) d_Md_run_70 ?_
      refine lv_iload_n hx hb d_Md_run_71 rfl (lv_at hl 4 rfl) ?_
      refine lv_icmp_gt (tgt := 241) hx hb d_Md_run_72 (by decide) (fun hc1 => ?_) (fun hc1 => ?_)
      · have hc1 : t < (ti (32 * j + i)) := hc1
        rw [if_pos hc1] at hR
        subst hR
        exact W.vret hx hb hr (fun t9 ht hW => ⟨rfl, hS.F ht, by rw [ht]; exact hP⟩) hS.2.2 d_Md_run_241
      · have hc1 : ¬ (t < (ti (32 * j + i))) := hc1
        refine lv_aload_n hx hb d_Md_run_75 rfl (lv_at hl 1 rfl) ?_
        refine va_get (D := D) (ci := 9) (v := .ref (a + 5)) (C := R_Md) (T := F_Md) (N := 17) hx hb hg in_Md hown hK hP 0 rfl rfl 5 (Nat.le_of_ble_eq_true rfl) (hg _ tw_711) (fun _ h9 => h9) rfl d_Md_run_76 ?_
        refine lv_bipush (v := 32) hx hb d_Md_run_79 (by decide) ?_
        refine lv_iload_n hx hb d_Md_run_81 rfl (lv_at hl 2 rfl) ?_
        refine lv_imul hx hb d_Md_run_82 ?_
        refine lv_topi (fun z9 e_z9 => ?_)
        obtain rfl : z9 = nI (32 * j) := by rw [e_z9]; exact (nI_mul 32 j)
        refine lv_iload hx hb d_Md_run_83 (lv_at hl 0 rfl) ?_
        refine lv_iadd hx hb d_Md_run_85 ?_
        refine lv_topi (fun z9 e_z9 => ?_)
        obtain rfl : z9 = nI (32 * j + i) := by rw [e_z9]; exact (nI_add (32 * j) i)
        refine ep_iald hx hb hK hP 5 0 rfl rfl (i := (32 * j + i)) (by omega) (by decide) d_Md_run_86 ?_
        refine lv_istore (lv' := [(5, .int (nm (32 * j + i))), (4, .int (nI i)), (0, .ref a), (1, .int (nI j)), (2, .int 3), (3, .int t)]) hx hb d_Md_run_87 hl (by decide) rfl (fun ls hl => ?_)
        refine lv_aload_n hx hb d_Md_run_89 rfl (lv_at hl 2 rfl) ?_
        refine va_get (D := D) (ci := 9) (v := .ref (a + 6)) (C := R_Md) (T := F_Md) (N := 17) hx hb hg in_Md hown hK hP 0 rfl rfl 6 (Nat.le_of_ble_eq_true rfl) (hg _ tw_712) (fun _ h9 => h9) rfl d_Md_run_90 ?_
        refine lv_bipush (v := 32) hx hb d_Md_run_93 (by decide) ?_
        refine lv_iload_n hx hb d_Md_run_95 rfl (lv_at hl 3 rfl) ?_
        refine lv_imul hx hb d_Md_run_96 ?_
        refine lv_topi (fun z9 e_z9 => ?_)
        obtain rfl : z9 = nI (32 * j) := by rw [e_z9]; exact (nI_mul 32 j)
        refine lv_iload hx hb d_Md_run_97 (lv_at hl 1 rfl) ?_
        refine lv_iadd hx hb d_Md_run_99 ?_
        refine lv_topi (fun z9 e_z9 => ?_)
        obtain rfl : z9 = nI (32 * j + i) := by rw [e_z9]; exact (nI_add (32 * j) i)
        refine ep_iald hx hb hK hP 6 0 rfl rfl (i := (32 * j + i)) (by omega) (by decide) d_Md_run_100 ?_
        refine lv_istore (lv' := [(6, .int (xa (32 * j + i))), (5, .int (nm (32 * j + i))), (4, .int (nI i)), (0, .ref a), (1, .int (nI j)), (2, .int 3), (3, .int t)]) hx hb d_Md_run_101 hl (by decide) rfl (fun ls hl => ?_)
        refine lv_aload_n hx hb d_Md_run_103 rfl (lv_at hl 3 rfl) ?_
        refine va_get (D := D) (ci := 9) (v := .ref (a + 7)) (C := R_Md) (T := F_Md) (N := 17) hx hb hg in_Md hown hK hP 0 rfl rfl 7 (Nat.le_of_ble_eq_true rfl) (hg _ tw_713) (fun _ h9 => h9) rfl d_Md_run_104 ?_
        refine lv_bipush (v := 32) hx hb d_Md_run_107 (by decide) ?_
        refine lv_iload_n hx hb d_Md_run_109 rfl (lv_at hl 4 rfl) ?_
        refine lv_imul hx hb d_Md_run_110 ?_
        refine lv_topi (fun z9 e_z9 => ?_)
        obtain rfl : z9 = nI (32 * j) := by rw [e_z9]; exact (nI_mul 32 j)
        refine lv_iload hx hb d_Md_run_111 (lv_at hl 2 rfl) ?_
        refine lv_iadd hx hb d_Md_run_113 ?_
        refine lv_topi (fun z9 e_z9 => ?_)
        obtain rfl : z9 = nI (32 * j + i) := by rw [e_z9]; exact (nI_add (32 * j) i)
        refine ep_iald hx hb hK hP 7 0 rfl rfl (i := (32 * j + i)) (by omega) (by decide) d_Md_run_114 ?_
        refine lv_istore (lv' := [(7, .int (xb (32 * j + i))), (6, .int (xa (32 * j + i))), (5, .int (nm (32 * j + i))), (4, .int (nI i)), (0, .ref a), (1, .int (nI j)), (2, .int 3), (3, .int t)]) hx hb d_Md_run_115 hl (by decide) rfl (fun ls hl => ?_)
        refine lv_aload_n hx hb d_Md_run_117 rfl (lv_at hl 4 rfl) ?_
        refine va_get (D := D) (ci := 9) (v := .ref (a + 11)) (C := R_Md) (T := F_Md) (N := 17) hx hb hg in_Md hown hK hP 0 rfl rfl 13 (Nat.le_of_ble_eq_true rfl) (hg _ tw_719) (fun _ h9 => h9) rfl d_Md_run_118 ?_
        refine lv_iload hx hb d_Md_run_121 (lv_at hl 3 rfl) ?_
        refine lv_lconst (v := 0) hx hb d_Md_run_123 (by decide) ?_
        refine ep_last hx hb hK hP hD hS 11 1 rfl rfl (i := i) (x := 0) (by omega) (by decide) d_Md_run_124 (fun H locs hP hD hS => ?_)
        have hP : va_P D cls (wMo cI cJ cZ a code kn ed ct ti nm xa xb (nI mc) it vs se sm (vp_updL rs i 0) wk ors owk) H := hP
        have hD : va_D (blk a 15) (wMo cI cJ cZ a code kn ed ct ti nm xa xb (nI mc) it vs se sm (vp_updL rs i 0) wk ors owk) := hD
        refine lv_iload_n hx hb d_Md_run_125 rfl (lv_at hl 6 rfl) ?_
        refine lv_iconst (v := 4) hx hb d_Md_run_126 (by decide) ?_
        refine lv_icmp_ne (tgt := 181) hx hb d_Md_run_127 (by decide) (fun hc => ?_) (fun hc => False.elim (by revert hc; decide))
        refine lv_aload_n hx hb d_Md_run_181 rfl (lv_at hl 4 rfl) ?_
        refine va_get (D := D) (ci := 9) (v := .ref (a + 12)) (C := R_Md) (T := F_Md) (N := 17) hx hb hg in_Md hown hK hP 0 rfl rfl 14 (Nat.le_of_ble_eq_true rfl) (hg _ tw_720) (fun _ h9 => h9) rfl d_Md_run_182 ?_
        refine lv_iload hx hb d_Md_run_185 (lv_at hl 3 rfl) ?_
        refine lv_iload_n hx hb d_Md_run_187 rfl (lv_at hl 6 rfl) ?_
        refine lv_iconst (v := 5) hx hb d_Md_run_188 (by decide) ?_
        refine lv_icmp_ne (tgt := 203) hx hb d_Md_run_189 (by decide) (fun hc => ?_) (fun hc => False.elim (by revert hc; decide))
        refine lv_iload_n hx hb d_Md_run_203 rfl (lv_at hl 6 rfl) ?_
        refine lv_iconst (v := 2) hx hb d_Md_run_204 (by decide) ?_
        refine lv_icmp_ne (tgt := 223) hx hb d_Md_run_205 (by decide) (fun hc => ?_) (fun hc => False.elim (by revert hc; decide))
        refine lv_aload_n hx hb d_Md_run_223 rfl (lv_at hl 4 rfl) ?_
        refine lv_iload_n hx hb d_Md_run_224 rfl (lv_at hl 6 rfl) ?_
        refine lv_iload hx hb d_Md_run_225 (lv_at hl 3 rfl) ?_
        refine lv_iload hx hb d_Md_run_227 (lv_at hl 2 rfl) ?_
        refine lv_iload hx hb d_Md_run_229 (lv_at hl 1 rfl) ?_
        refine ep_callH (W.runV (As := [.int 3, .int (nI i), .int (nm (32 * j + i)), .int (xa (32 * j + i))]) (rest := [.int (nI i), .ref (a + 12)]) ⟨hx, hb, hml, hown, hg⟩ (m_Mo_doBag_3 l D cI cJ cZ cO a code kn ed ct ti nm xa xb mc it vs se sm (vp_updL rs i 0) wk ors owk i (nm (32 * j + i)) (xa (32 * j + i)) (by omega) (by omega) _ rfl) (ep_cwV 4 hg tw_852 tw_854 ts_22 tw_12 tk_Md_doBag rfl rfl (by decide +kernel) ⟨(Nat.le_of_ble_eq_true rfl), (Nat.le_of_ble_eq_true rfl)⟩) ⟨ep_blind, va_recv (q0 := 0) (ci := 9) hK hP rfl rfl, ep_pre hKn (hP)⟩ rfl rfl hl.1 rfl (lv_room (Nat.le_of_ble_eq_true rfl)) d_Md_run_231 ⟨Nat.zero_le _, Nat.zero_le _⟩) hS (fun q h => h) (fun H locs hsz9 hk1 hP1 hS => ?_)
        refine W.eq (g2 := F0 m 234 ls [.int ((f_Mo_doBag_3 mc it vs (vp_updL rs i 0) i (nm (32 * j + i)) (xa (32 * j + i))).1), .int (nI i), .ref (a + 12)]) rfl ?_
        have hP : va_P D cls (wMo cI cJ cZ a code kn ed ct ti nm xa xb (nI ((f_Mo_doBag_3 mc it vs (vp_updL rs i 0) i (nm (32 * j + i)) (xa (32 * j + i))).2.1)) ((f_Mo_doBag_3 mc it vs (vp_updL rs i 0) i (nm (32 * j + i)) (xa (32 * j + i))).2.2.1) ((f_Mo_doBag_3 mc it vs (vp_updL rs i 0) i (nm (32 * j + i)) (xa (32 * j + i))).2.2.2.1) se sm ((f_Mo_doBag_3 mc it vs (vp_updL rs i 0) i (nm (32 * j + i)) (xa (32 * j + i))).2.2.2.2) wk ors owk) H := hP1
        have hD : va_D (blk a 15) (wMo cI cJ cZ a code kn ed ct ti nm xa xb (nI ((f_Mo_doBag_3 mc it vs (vp_updL rs i 0) i (nm (32 * j + i)) (xa (32 * j + i))).2.1)) ((f_Mo_doBag_3 mc it vs (vp_updL rs i 0) i (nm (32 * j + i)) (xa (32 * j + i))).2.2.1) ((f_Mo_doBag_3 mc it vs (vp_updL rs i 0) i (nm (32 * j + i)) (xa (32 * j + i))).2.2.2.1) se sm ((f_Mo_doBag_3 mc it vs (vp_updL rs i 0) i (nm (32 * j + i)) (xa (32 * j + i))).2.2.2.2) wk ors owk) := (blk_D (wMo_in))
        refine ep_zast hx hb hK hP hD hS 12 2 rfl rfl (i := i) (x := ((f_Mo_doBag_3 mc it vs (vp_updL rs i 0) i (nm (32 * j + i)) (xa (32 * j + i))).1)) (bz1 (doBag_bz_3 _ _ _ _ _ _ _)) (by omega) (by decide) d_Md_run_234 (fun H locs hP hD hS => ?_)
        have hP : va_P D cls (wMo cI cJ cZ a code kn ed ct ti nm xa xb (nI ((f_Mo_doBag_3 mc it vs (vp_updL rs i 0) i (nm (32 * j + i)) (xa (32 * j + i))).2.1)) ((f_Mo_doBag_3 mc it vs (vp_updL rs i 0) i (nm (32 * j + i)) (xa (32 * j + i))).2.2.1) ((f_Mo_doBag_3 mc it vs (vp_updL rs i 0) i (nm (32 * j + i)) (xa (32 * j + i))).2.2.2.1) se sm ((f_Mo_doBag_3 mc it vs (vp_updL rs i 0) i (nm (32 * j + i)) (xa (32 * j + i))).2.2.2.2) (upd wk i ((f_Mo_doBag_3 mc it vs (vp_updL rs i 0) i (nm (32 * j + i)) (xa (32 * j + i))).1)) ors owk) H := hP
        have hD : va_D (blk a 15) (wMo cI cJ cZ a code kn ed ct ti nm xa xb (nI ((f_Mo_doBag_3 mc it vs (vp_updL rs i 0) i (nm (32 * j + i)) (xa (32 * j + i))).2.1)) ((f_Mo_doBag_3 mc it vs (vp_updL rs i 0) i (nm (32 * j + i)) (xa (32 * j + i))).2.2.1) ((f_Mo_doBag_3 mc it vs (vp_updL rs i 0) i (nm (32 * j + i)) (xa (32 * j + i))).2.2.2.1) se sm ((f_Mo_doBag_3 mc it vs (vp_updL rs i 0) i (nm (32 * j + i)) (xa (32 * j + i))).2.2.2.2) (upd wk i ((f_Mo_doBag_3 mc it vs (vp_updL rs i 0) i (nm (32 * j + i)) (xa (32 * j + i))).1)) ors owk) := hD
        refine lv_iinc (k := 3) (lv' := [(4, .int (nI (i + 1))), (7, .int (xb (32 * j + i))), (6, .int (xa (32 * j + i))), (5, .int (nm (32 * j + i))), (0, .ref a), (1, .int (nI j)), (2, .int 3), (3, .int t)]) hx hb d_Md_run_235 hl rfl (inc1 _) (by decide) rfl (fun ls hl => ?_)
        refine lv_goto (tgt := 48) hx hb d_Md_run_238 (by decide) ?_
        rw [if_neg hc1] at hR
        exact ih (i + 1) ((f_Mo_doBag_3 mc it vs (vp_updL rs i 0) i (nm (32 * j + i)) (xa (32 * j + i))).2.1) ((f_Mo_doBag_3 mc it vs (vp_updL rs i 0) i (nm (32 * j + i)) (xa (32 * j + i))).2.2.1) ((f_Mo_doBag_3 mc it vs (vp_updL rs i 0) i (nm (32 * j + i)) (xa (32 * j + i))).2.2.2.1) se sm ((f_Mo_doBag_3 mc it vs (vp_updL rs i 0) i (nm (32 * j + i)) (xa (32 * j + i))).2.2.2.2) (upd wk i ((f_Mo_doBag_3 mc it vs (vp_updL rs i 0) i (nm (32 * j + i)) (xa (32 * j + i))).1)) _ _ ls (by omega) (doBag_le_3 _ _ _ _ _ _ _ hm) hR (lv_sub hl [0, 4, 5, 6, 7] rfl) hP hS
  have key_23 : ∀ (k : Nat) (i : Nat) (se : Nat → Int32) (H : Heap) (locs : List Loc) (ls : Array Slot), i + k = 16 → g_Mo_run_3_23 ti nm xa it vs rs wk n j t k i se = R → lv_has ls 8 [(4, .int (nI i)), (0, .ref a), (1, .int (nI j)), (2, .int 3), (3, .int t)] → va_P D cls (wMo cI cJ cZ a code kn ed ct ti nm xa xb (nI 0) it vs se 0 rs wk ors owk) H → va_S (blk a 15) s.heap H locs → W p l e (headSpec (k_Md_run :: gt) rm_Md_run).room s m ([.ref a, .int (nI j), .int 3, .int t] : List Value).toArray below meth c H locs 0 0 (MQ below (Qd (blk a 15) none (fun H => va_P D cls (wMo cI cJ cZ a code kn ed ct ti nm xa xb (nI R.1) R.2.1 R.2.2.1 R.2.2.2.1 R.2.2.2.2.1 R.2.2.2.2.2.1 R.2.2.2.2.2.2 ors owk) H)) ([.ref a, .int (nI j), .int 3, .int t] : List Value).toArray s 0 0 (blk a 15)) (F0 m 23 ls []) := by
    intro k
    induction k with
    | zero =>
      intro i se H locs ls hi hR hl hP hS
      have hR : (g_Mo_run_3_48 ti nm xa j t n 0 0 it vs se 0 rs wk) = R := hR
      have hD : va_D (blk a 15) (wMo cI cJ cZ a code kn ed ct ti nm xa xb (nI 0) it vs se 0 rs wk ors owk) := (blk_D (wMo_in))
      refine lv_iload hx hb d_Md_run_23 (lv_at hl 0 rfl) ?_
      refine lv_bipush (v := 16) hx hb d_Md_run_25 (by decide) ?_
      refine lv_icmp_ge (tgt := 45) hx hb d_Md_run_27 (by decide) (fun hc => ?_) (fun hc => False.elim (by have hc : ¬ (16 ≤ i) := fun h => hc (by exact (nI_leI (a := 16) (b := i) (by omega) (by omega)).mpr h); omega))
      refine lv_iconst (v := 0) hx hb d_Md_run_45 (by decide) ?_
      refine lv_istore (lv' := [(4, .int 0), (0, .ref a), (1, .int (nI j)), (2, .int 3), (3, .int t)]) hx hb d_Md_run_46 hl (by decide) rfl (fun ls hl => ?_)
      exact key_48 n 0 0 it vs se 0 rs wk _ _ ls (by omega) (Nat.le_refl _) hR hl hP hS
    | succ k ih =>
      intro i se H locs ls hi hR hl hP hS
      have hR : (g_Mo_run_3_23 ti nm xa it vs rs wk n j t k (i + 1) (upd se i (nI i))) = R := hR
      have hD : va_D (blk a 15) (wMo cI cJ cZ a code kn ed ct ti nm xa xb (nI 0) it vs se 0 rs wk ors owk) := (blk_D (wMo_in))
      refine lv_iload hx hb d_Md_run_23 (lv_at hl 0 rfl) ?_
      refine lv_bipush (v := 16) hx hb d_Md_run_25 (by decide) ?_
      refine lv_icmp_ge (tgt := 45) hx hb d_Md_run_27 (by decide) (fun hc => False.elim (by have hc := (nI_leI (a := 16) (b := i) (by omega) (by omega)).mp hc; omega)) (fun hc => ?_)
      refine lv_aload_n hx hb d_Md_run_30 rfl (lv_at hl 1 rfl) ?_
      refine va_get (D := D) (ci := 9) (v := .ref (a + 10)) (C := R_Md) (T := F_Md) (N := 17) hx hb hg in_Md hown hK hP 0 rfl rfl 11 (Nat.le_of_ble_eq_true rfl) (hg _ tw_717) (fun _ h9 => h9) rfl d_Md_run_31 ?_
      refine lv_iload hx hb d_Md_run_34 (lv_at hl 0 rfl) ?_
      refine lv_iload hx hb d_Md_run_36 (lv_at hl 0 rfl) ?_
      refine ep_iast hx hb hK hP hD hS 10 0 rfl rfl (i := i) (x := (nI i)) (by omega) (by decide) d_Md_run_38 (fun H locs hP hD hS => ?_)
      have hP : va_P D cls (wMo cI cJ cZ a code kn ed ct ti nm xa xb (nI 0) it vs (upd se i (nI i)) 0 rs wk ors owk) H := hP
      have hD : va_D (blk a 15) (wMo cI cJ cZ a code kn ed ct ti nm xa xb (nI 0) it vs (upd se i (nI i)) 0 rs wk ors owk) := hD
      refine lv_iinc (k := 0) (lv' := [(4, .int (nI (i + 1))), (0, .ref a), (1, .int (nI j)), (2, .int 3), (3, .int t)]) hx hb d_Md_run_39 hl rfl (inc1 _) (by decide) rfl (fun ls hl => ?_)
      refine lv_goto (tgt := 23) hx hb d_Md_run_42 (by decide) ?_
      exact ih (i + 1) (upd se i (nI i)) _ _ ls (by omega) hR hl hP hS
  have hR : (g_Mo_run_3_23 ti nm xa it vs rs wk n j t 16 0 se) = R := hR
  refine lv_aload_n hx hb d_Md_run_0 rfl (lv_at hl 0 rfl) ?_
  refine lv_iload_n hx hb d_Md_run_1 rfl (lv_at hl 2 rfl) ?_
  refine lv_iconst (v := 5) hx hb d_Md_run_2 (by decide) ?_
  refine lv_icmp_ne (tgt := 11) hx hb d_Md_run_3 (by decide) (fun hc => ?_) (fun hc => False.elim (by revert hc; decide))
  refine lv_iconst (v := 0) hx hb d_Md_run_11 (by decide) ?_
  refine lv_topi (fun z7 e_z7 => ?_)
  obtain rfl : z7 = nI 0 := by rw [e_z7]; exact nI_0.symm
  refine va_put (D := D) (ci := 9) (v := .int (nI 0)) (ty := .int) (C := R_Md) (T := F_Md) (N := 17) hx hb hg in_Md t_Md t_Md_ok n_Md hown hK hP hD hS 0 rfl rfl 8 (Nat.le_of_ble_eq_true rfl) (hg _ tw_714) (fun _ h9 => h9) rfl (by decide +kernel) rfl rfl (Nat.le_of_ble_eq_true rfl) d_Md_run_12 (fun H locs hP hD hS => ?_)
  have hP : va_P D cls (wMo cI cJ cZ a code kn ed ct ti nm xa xb (nI 0) it vs se sm rs wk ors owk) H := hP
  have hD : va_D (blk a 15) (wMo cI cJ cZ a code kn ed ct ti nm xa xb (nI 0) it vs se sm rs wk ors owk) := hD
  refine lv_aload_n hx hb d_Md_run_15 rfl (lv_at hl 0 rfl) ?_
  refine lv_lconst (v := 0) hx hb d_Md_run_16 (by decide) ?_
  refine va_put (D := D) (ci := 9) (v := .long 0) (ty := .long) (C := R_Md) (T := F_Md) (N := 17) hx hb hg in_Md t_Md t_Md_ok n_Md hown hK hP hD hS 0 rfl rfl 12 (Nat.le_of_ble_eq_true rfl) (hg _ tw_718) (fun _ h9 => h9) rfl (by decide +kernel) rfl rfl (Nat.le_of_ble_eq_true rfl) d_Md_run_17 (fun H locs hP hD hS => ?_)
  have hP : va_P D cls (wMo cI cJ cZ a code kn ed ct ti nm xa xb (nI 0) it vs se 0 rs wk ors owk) H := hP
  have hD : va_D (blk a 15) (wMo cI cJ cZ a code kn ed ct ti nm xa xb (nI 0) it vs se 0 rs wk ors owk) := hD
  refine lv_iconst (v := 0) hx hb d_Md_run_20 (by decide) ?_
  refine lv_istore (lv' := [(4, .int 0), (0, .ref a), (1, .int (nI j)), (2, .int 3), (3, .int t)]) hx hb d_Md_run_21 hl (by decide) rfl (fun ls hl => ?_)
  exact key_23 16 0 se _ _ ls (by omega) hR hl hP hS

def g_Mo_run_4_48 (ti : Nat → Int32) (xa : Nat → Int32) (j : Nat) (t : Int32) : Nat → Nat → Int32 → (Nat → Int32) → (Nat → Int32) → (Nat → Int32) → Int64 → (Nat → Int64) → (Nat → Int32) → Int32 × (Nat → Int32) × (Nat → Int32) × (Nat → Int32) × Int64 × (Nat → Int64) × (Nat → Int32)
  | 0, i, mc, it, vs, se, sm, rs, wk => (mc, it, vs, se, sm, rs, wk)
  | k + 1, i, mc, it, vs, se, sm, rs, wk => if t < (ti (32 * j + i)) then ((mc, it, vs, se, sm, rs, wk)) else (if 0 ≤ (lg_cmp (sm + ((xa (32 * j + i)).toInt64)) 0) then (g_Mo_run_4_48 ti xa j t k (i + 1) mc it vs se (sm + ((xa (32 * j + i)).toInt64)) (vp_updL (vp_updL rs i 0) i (sm + ((xa (32 * j + i)).toInt64))) (upd wk i 1)) else (g_Mo_run_4_48 ti xa j t k (i + 1) mc it vs se 0 (vp_updL (vp_updL rs i 0) i 0) (upd wk i 1)))

def g_Mo_run_4_23 (ti : Nat → Int32) (xa : Nat → Int32) (it : Nat → Int32) (vs : Nat → Int32) (rs : Nat → Int64) (wk : Nat → Int32) (n : Nat) (j : Nat) (t : Int32) : Nat → Nat → (Nat → Int32) → Int32 × (Nat → Int32) × (Nat → Int32) × (Nat → Int32) × Int64 × (Nat → Int64) × (Nat → Int32)
  | 0, i, se => g_Mo_run_4_48 ti xa j t n 0 0 it vs se 0 rs wk
  | k + 1, i, se => g_Mo_run_4_23 ti xa it vs rs wk n j t k (i + 1) (upd se i (nI i))

def f_Mo_run_4 (ti : Nat → Int32) (xa : Nat → Int32) (it : Nat → Int32) (vs : Nat → Int32) (se : Nat → Int32) (rs : Nat → Int64) (wk : Nat → Int32) (n : Nat) (j : Nat) (t : Int32) : Int32 × (Nat → Int32) × (Nat → Int32) × (Nat → Int32) × Int64 × (Nat → Int64) × (Nat → Int32) := g_Mo_run_4_23 ti xa it vs rs wk n j t 16 0 se
set_option maxHeartbeats 4000000 in
set_option maxRecDepth 100000 in
theorem m_Mo_run_4 (l : Launch) (D : va_G) (cI cJ cZ cO : ClassId) (a : Nat) (code : Int32) (kn : Nat → Int32) (ed : Nat → Int32) (ct : Nat → Int32) (ti : Nat → Int32) (nm : Nat → Int32) (xa : Nat → Int32) (xb : Nat → Int32) (ma : Int32) (it : Nat → Int32) (vs : Nat → Int32) (se : Nat → Int32) (sm : Int64) (rs : Nat → Int64) (wk : Nat → Int32) (ors : Nat → Int64) (owk : Nat → Int32) (n : Nat) (j : Nat) (t : Int32) (hj : j < 8) (hct : ct j = nI n) (hn : n ≤ 32) (R : Int32 × (Nat → Int32) × (Nat → Int32) × (Nat → Int32) × Int64 × (Nat → Int64) × (Nat → Int32)) (hR : f_Mo_run_4 ti xa it vs se rs wk n j t = R) : Met l y_Md_run (k_Md_run :: gt) rm_Md_run (Pc0 D cI cJ cZ cO [.ref a, .int (nI j), .int 4, .int t] (fun H => va_P D cls (wMo cI cJ cZ a code kn ed ct ti nm xa xb ma it vs se sm rs wk ors owk) H)) (Qd (blk a 15) none (fun H => va_P D cls (wMo cI cJ cZ a code kn ed ct ti nm xa xb R.1 R.2.1 R.2.2.1 R.2.2.2.1 R.2.2.2.2.1 R.2.2.2.2.2.1 R.2.2.2.2.2.2 ors owk) H)) 0 0 (blk a 15) := by
  refine Met.ofW (cc := c_Md_run) (maxL := 8) (ret := none) (by decide) rfl ?_
  intro p e s m args below meth c s₁ B hml hv
  obtain ⟨rfl, hKn, hP⟩ := hv
  have hx := B.exec
  have hb := B.bytes
  have hr := B.returns
  have hts := atoms_spec (ws := k_Md_run :: gt) B.pre
  have hg : ∀ w ∈ gt, w.before _ s = true := fun w h => hts w (List.mem_cons_of_mem _ h)
  have hown : s.vm.findClass R_Md = some m.cls := findClass_of_methodNamed B.named
  have hlocks := B.notSynchronized
  have hK := hKn.1
  have hl := lv_entry ([.ref a, .int (nI j), .int 4, .int t]) (n := 8) (Nat.le_of_ble_eq_true rfl)
  rw [lg_entry_eq]
  generalize (lg_sl ([.ref a, .int (nI j), .int 4, .int t]) ++ List.replicate (8 - (lg_sl ([.ref a, .int (nI j), .int 4, .int t])).length) Slot.unset).toArray = ls at hl ⊢
  have hl : lv_has ls 8 [(0, .ref a), (1, .int (nI j)), (2, .int 4), (3, .int t)] := hl
  have hS : va_S (blk a 15) s.heap s.heap [] := va_S.rf
  have hD : va_D (blk a 15) (wMo cI cJ cZ a code kn ed ct ti nm xa xb ma it vs se sm rs wk ors owk) := (blk_D (wMo_in))
  have key_48 : ∀ (k : Nat) (i : Nat) (mc : Int32) (it : Nat → Int32) (vs : Nat → Int32) (se : Nat → Int32) (sm : Int64) (rs : Nat → Int64) (wk : Nat → Int32) (H : Heap) (locs : List Loc) (ls : Array Slot), i + k = n → g_Mo_run_4_48 ti xa j t k i mc it vs se sm rs wk = R → lv_has ls 8 [(4, .int (nI i)), (0, .ref a), (1, .int (nI j)), (2, .int 4), (3, .int t)] → va_P D cls (wMo cI cJ cZ a code kn ed ct ti nm xa xb mc it vs se sm rs wk ors owk) H → va_S (blk a 15) s.heap H locs → W p l e (headSpec (k_Md_run :: gt) rm_Md_run).room s m ([.ref a, .int (nI j), .int 4, .int t] : List Value).toArray below meth c H locs 0 0 (MQ below (Qd (blk a 15) none (fun H => va_P D cls (wMo cI cJ cZ a code kn ed ct ti nm xa xb R.1 R.2.1 R.2.2.1 R.2.2.2.1 R.2.2.2.2.1 R.2.2.2.2.2.1 R.2.2.2.2.2.2 ors owk) H)) ([.ref a, .int (nI j), .int 4, .int t] : List Value).toArray s 0 0 (blk a 15)) (F0 m 48 ls []) := by
    intro k
    induction k with
    | zero =>
      intro i mc it vs se sm rs wk H locs ls hi hR hl hP hS
      have hR : ((mc, it, vs, se, sm, rs, wk)) = R := hR
      have hD : va_D (blk a 15) (wMo cI cJ cZ a code kn ed ct ti nm xa xb mc it vs se sm rs wk ors owk) := (blk_D (wMo_in))
      refine lv_iload hx hb d_Md_run_48 (lv_at hl 0 rfl) ?_
      refine lv_aload_n hx hb d_Md_run_50 rfl (lv_at hl 1 rfl) ?_
      refine va_get (D := D) (ci := 9) (v := .ref (a + 3)) (C := R_Md) (T := F_Md) (N := 17) hx hb hg in_Md hown hK hP 0 rfl rfl 3 (Nat.le_of_ble_eq_true rfl) (hg _ tw_709) (fun _ h9 => h9) rfl d_Md_run_51 ?_
      refine lv_iload_n hx hb d_Md_run_54 rfl (lv_at hl 2 rfl) ?_
      refine ep_iald hx hb hK hP 3 0 rfl rfl (i := j) (by omega) (by decide) d_Md_run_55 ?_
      refine lv_topi (fun z9 e_z9 => ?_)
      obtain rfl : z9 = nI n := by rw [e_z9]; exact hct
      refine lv_icmp_ge (tgt := 241) hx hb d_Md_run_56 (by decide) (fun hc => ?_) (fun hc => False.elim (by have hc : ¬ (n ≤ i) := fun h => hc (by exact (nI_leI (a := n) (b := i) (by omega) (by omega)).mpr h); omega))
      subst hR
      exact W.vret hx hb hr (fun t9 ht hW => ⟨rfl, hS.F ht, by rw [ht]; exact hP⟩) hS.2.2 d_Md_run_241
    | succ k ih =>
      intro i mc it vs se sm rs wk H locs ls hi hR hl hP hS
      have hR : (if t < (ti (32 * j + i)) then ((mc, it, vs, se, sm, rs, wk)) else (if 0 ≤ (lg_cmp (sm + ((xa (32 * j + i)).toInt64)) 0) then (g_Mo_run_4_48 ti xa j t k (i + 1) mc it vs se (sm + ((xa (32 * j + i)).toInt64)) (vp_updL (vp_updL rs i 0) i (sm + ((xa (32 * j + i)).toInt64))) (upd wk i 1)) else (g_Mo_run_4_48 ti xa j t k (i + 1) mc it vs se 0 (vp_updL (vp_updL rs i 0) i 0) (upd wk i 1)))) = R := hR
      have hD : va_D (blk a 15) (wMo cI cJ cZ a code kn ed ct ti nm xa xb mc it vs se sm rs wk ors owk) := (blk_D (wMo_in))
      refine lv_iload hx hb d_Md_run_48 (lv_at hl 0 rfl) ?_
      refine lv_aload_n hx hb d_Md_run_50 rfl (lv_at hl 1 rfl) ?_
      refine va_get (D := D) (ci := 9) (v := .ref (a + 3)) (C := R_Md) (T := F_Md) (N := 17) hx hb hg in_Md hown hK hP 0 rfl rfl 3 (Nat.le_of_ble_eq_true rfl) (hg _ tw_709) (fun _ h9 => h9) rfl d_Md_run_51 ?_
      refine lv_iload_n hx hb d_Md_run_54 rfl (lv_at hl 2 rfl) ?_
      refine ep_iald hx hb hK hP 3 0 rfl rfl (i := j) (by omega) (by decide) d_Md_run_55 ?_
      refine lv_topi (fun z9 e_z9 => ?_)
      obtain rfl : z9 = nI n := by rw [e_z9]; exact hct
      refine lv_icmp_ge (tgt := 241) hx hb d_Md_run_56 (by decide) (fun hc => False.elim (by have hc := (nI_leI (a := n) (b := i) (by omega) (by omega)).mp hc; omega)) (fun hc => ?_)
      refine lv_aload_n hx hb d_Md_run_59 rfl (lv_at hl 1 rfl) ?_
      refine va_get (D := D) (ci := 9) (v := .ref (a + 4)) (C := R_Md) (T := F_Md) (N := 17) hx hb hg in_Md hown hK hP 0 rfl rfl 4 (Nat.le_of_ble_eq_true rfl) (hg _ tw_710) (fun _ h9 => h9) rfl d_Md_run_60 ?_
      refine lv_bipush (v := 32) hx hb d_Md_run_63 (by decide) ?_
      refine lv_iload_n hx hb d_Md_run_65 rfl (lv_at hl 2 rfl) ?_
      refine lv_imul hx hb d_Md_run_66 ?_
      refine lv_topi (fun z9 e_z9 => ?_)
      obtain rfl : z9 = nI (32 * j) := by rw [e_z9]; exact (nI_mul 32 j)
      refine lv_iload hx hb d_Md_run_67 (lv_at hl 0 rfl) ?_
      refine lv_iadd hx hb d_Md_run_69 ?_
      refine lv_topi (fun z9 e_z9 => ?_)
      obtain rfl : z9 = nI (32 * j + i) := by rw [e_z9]; exact (nI_add (32 * j) i)
      refine ep_iald hx hb hK hP 4 0 rfl rfl (i := (32 * j + i)) (by omega) (by decide) d_Md_run_70 ?_
      refine lv_iload_n hx hb d_Md_run_71 rfl (lv_at hl 4 rfl) ?_
      refine lv_icmp_gt (tgt := 241) hx hb d_Md_run_72 (by decide) (fun hc1 => ?_) (fun hc1 => ?_)
      · have hc1 : t < (ti (32 * j + i)) := hc1
        rw [if_pos hc1] at hR
        subst hR
        exact W.vret hx hb hr (fun t9 ht hW => ⟨rfl, hS.F ht, by rw [ht]; exact hP⟩) hS.2.2 d_Md_run_241
      · have hc1 : ¬ (t < (ti (32 * j + i))) := hc1
        refine lv_aload_n hx hb d_Md_run_75 rfl (lv_at hl 1 rfl) ?_
        refine va_get (D := D) (ci := 9) (v := .ref (a + 5)) (C := R_Md) (T := F_Md) (N := 17) hx hb hg in_Md hown hK hP 0 rfl rfl 5 (Nat.le_of_ble_eq_true rfl) (hg _ tw_711) (fun _ h9 => h9) rfl d_Md_run_76 ?_
        refine lv_bipush (v := 32) hx hb d_Md_run_79 (by decide) ?_
        refine lv_iload_n hx hb d_Md_run_81 rfl (lv_at hl 2 rfl) ?_
        refine lv_imul hx hb d_Md_run_82 ?_
        refine lv_topi (fun z9 e_z9 => ?_)
        obtain rfl : z9 = nI (32 * j) := by rw [e_z9]; exact (nI_mul 32 j)
        refine lv_iload hx hb d_Md_run_83 (lv_at hl 0 rfl) ?_
        refine lv_iadd hx hb d_Md_run_85 ?_
        refine lv_topi (fun z9 e_z9 => ?_)
        obtain rfl : z9 = nI (32 * j + i) := by rw [e_z9]; exact (nI_add (32 * j) i)
        refine ep_iald hx hb hK hP 5 0 rfl rfl (i := (32 * j + i)) (by omega) (by decide) d_Md_run_86 ?_
        refine lv_istore (lv' := [(5, .int (nm (32 * j + i))), (4, .int (nI i)), (0, .ref a), (1, .int (nI j)), (2, .int 4), (3, .int t)]) hx hb d_Md_run_87 hl (by decide) rfl (fun ls hl => ?_)
        refine lv_aload_n hx hb d_Md_run_89 rfl (lv_at hl 2 rfl) ?_
        refine va_get (D := D) (ci := 9) (v := .ref (a + 6)) (C := R_Md) (T := F_Md) (N := 17) hx hb hg in_Md hown hK hP 0 rfl rfl 6 (Nat.le_of_ble_eq_true rfl) (hg _ tw_712) (fun _ h9 => h9) rfl d_Md_run_90 ?_
        refine lv_bipush (v := 32) hx hb d_Md_run_93 (by decide) ?_
        refine lv_iload_n hx hb d_Md_run_95 rfl (lv_at hl 3 rfl) ?_
        refine lv_imul hx hb d_Md_run_96 ?_
        refine lv_topi (fun z9 e_z9 => ?_)
        obtain rfl : z9 = nI (32 * j) := by rw [e_z9]; exact (nI_mul 32 j)
        refine lv_iload hx hb d_Md_run_97 (lv_at hl 1 rfl) ?_
        refine lv_iadd hx hb d_Md_run_99 ?_
        refine lv_topi (fun z9 e_z9 => ?_)
        obtain rfl : z9 = nI (32 * j + i) := by rw [e_z9]; exact (nI_add (32 * j) i)
        refine ep_iald hx hb hK hP 6 0 rfl rfl (i := (32 * j + i)) (by omega) (by decide) d_Md_run_100 ?_
        refine lv_istore (lv' := [(6, .int (xa (32 * j + i))), (5, .int (nm (32 * j + i))), (4, .int (nI i)), (0, .ref a), (1, .int (nI j)), (2, .int 4), (3, .int t)]) hx hb d_Md_run_101 hl (by decide) rfl (fun ls hl => ?_)
        refine lv_aload_n hx hb d_Md_run_103 rfl (lv_at hl 3 rfl) ?_
        refine va_get (D := D) (ci := 9) (v := .ref (a + 7)) (C := R_Md) (T := F_Md) (N := 17) hx hb hg in_Md hown hK hP 0 rfl rfl 7 (Nat.le_of_ble_eq_true rfl) (hg _ tw_713) (fun _ h9 => h9) rfl d_Md_run_104 ?_
        refine lv_bipush (v := 32) hx hb d_Md_run_107 (by decide) ?_
        refine lv_iload_n hx hb d_Md_run_109 rfl (lv_at hl 4 rfl) ?_
        refine lv_imul hx hb d_Md_run_110 ?_
        refine lv_topi (fun z9 e_z9 => ?_)
        obtain rfl : z9 = nI (32 * j) := by rw [e_z9]; exact (nI_mul 32 j)
        refine lv_iload hx hb d_Md_run_111 (lv_at hl 2 rfl) ?_
        refine lv_iadd hx hb d_Md_run_113 ?_
        refine lv_topi (fun z9 e_z9 => ?_)
        obtain rfl : z9 = nI (32 * j + i) := by rw [e_z9]; exact (nI_add (32 * j) i)
        refine ep_iald hx hb hK hP 7 0 rfl rfl (i := (32 * j + i)) (by omega) (by decide) d_Md_run_114 ?_
        refine lv_istore (lv' := [(7, .int (xb (32 * j + i))), (6, .int (xa (32 * j + i))), (5, .int (nm (32 * j + i))), (4, .int (nI i)), (0, .ref a), (1, .int (nI j)), (2, .int 4), (3, .int t)]) hx hb d_Md_run_115 hl (by decide) rfl (fun ls hl => ?_)
        refine lv_aload_n hx hb d_Md_run_117 rfl (lv_at hl 4 rfl) ?_
        refine va_get (D := D) (ci := 9) (v := .ref (a + 11)) (C := R_Md) (T := F_Md) (N := 17) hx hb hg in_Md hown hK hP 0 rfl rfl 13 (Nat.le_of_ble_eq_true rfl) (hg _ tw_719) (fun _ h9 => h9) rfl d_Md_run_118 ?_
        refine lv_iload hx hb d_Md_run_121 (lv_at hl 3 rfl) ?_
        refine lv_lconst (v := 0) hx hb d_Md_run_123 (by decide) ?_
        refine ep_last hx hb hK hP hD hS 11 1 rfl rfl (i := i) (x := 0) (by omega) (by decide) d_Md_run_124 (fun H locs hP hD hS => ?_)
        have hP : va_P D cls (wMo cI cJ cZ a code kn ed ct ti nm xa xb mc it vs se sm (vp_updL rs i 0) wk ors owk) H := hP
        have hD : va_D (blk a 15) (wMo cI cJ cZ a code kn ed ct ti nm xa xb mc it vs se sm (vp_updL rs i 0) wk ors owk) := hD
        refine lv_iload_n hx hb d_Md_run_125 rfl (lv_at hl 6 rfl) ?_
        refine lv_iconst (v := 4) hx hb d_Md_run_126 (by decide) ?_
        refine lv_icmp_ne (tgt := 181) hx hb d_Md_run_127 (by decide) (fun hc => False.elim (by revert hc; decide)) (fun hc => ?_)
        refine lv_aload_n hx hb d_Md_run_130 rfl (lv_at hl 4 rfl) ?_
        refine lv_aload_n hx hb d_Md_run_131 rfl (lv_at hl 4 rfl) ?_
        refine va_get (D := D) (ci := 9) (v := .long sm) (C := R_Md) (T := F_Md) (N := 17) hx hb hg in_Md hown hK hP 0 rfl rfl 12 (Nat.le_of_ble_eq_true rfl) (hg _ tw_718) (fun _ h9 => h9) rfl d_Md_run_132 ?_
        refine lv_iload hx hb d_Md_run_135 (lv_at hl 1 rfl) ?_
        refine lv_i2l hx hb d_Md_run_137 rfl ?_
        refine lv_ladd hx hb d_Md_run_138 ?_
        refine lv_lconst (v := 0) hx hb d_Md_run_139 (by decide) ?_
        refine W.lcmp hx hb d_Md_run_140 ?_
        refine lv_if_ge (tgt := 148) hx hb d_Md_run_141 (by decide) (fun hc2 => ?_) (fun hc2 => ?_)
        · have hc2 : 0 ≤ (lg_cmp (sm + ((xa (32 * j + i)).toInt64)) 0) := hc2
          refine lv_aload_n hx hb d_Md_run_148 rfl (lv_at hl 4 rfl) ?_
          refine va_get (D := D) (ci := 9) (v := .long sm) (C := R_Md) (T := F_Md) (N := 17) hx hb hg in_Md hown hK hP 0 rfl rfl 12 (Nat.le_of_ble_eq_true rfl) (hg _ tw_718) (fun _ h9 => h9) rfl d_Md_run_149 ?_
          refine lv_iload hx hb d_Md_run_152 (lv_at hl 1 rfl) ?_
          refine lv_i2l hx hb d_Md_run_154 rfl ?_
          refine lv_ladd hx hb d_Md_run_155 ?_
          refine va_put (D := D) (ci := 9) (v := .long (sm + ((xa (32 * j + i)).toInt64))) (ty := .long) (C := R_Md) (T := F_Md) (N := 17) hx hb hg in_Md t_Md t_Md_ok n_Md hown hK hP hD hS 0 rfl rfl 12 (Nat.le_of_ble_eq_true rfl) (hg _ tw_718) (fun _ h9 => h9) rfl (by decide +kernel) rfl rfl (Nat.le_of_ble_eq_true rfl) d_Md_run_156 (fun H locs hP hD hS => ?_)
          have hP : va_P D cls (wMo cI cJ cZ a code kn ed ct ti nm xa xb mc it vs se (sm + ((xa (32 * j + i)).toInt64)) (vp_updL rs i 0) wk ors owk) H := hP
          have hD : va_D (blk a 15) (wMo cI cJ cZ a code kn ed ct ti nm xa xb mc it vs se (sm + ((xa (32 * j + i)).toInt64)) (vp_updL rs i 0) wk ors owk) := hD
          refine lv_aload_n hx hb d_Md_run_159 rfl (lv_at hl 4 rfl) ?_
          refine va_get (D := D) (ci := 9) (v := .ref (a + 11)) (C := R_Md) (T := F_Md) (N := 17) hx hb hg in_Md hown hK hP 0 rfl rfl 13 (Nat.le_of_ble_eq_true rfl) (hg _ tw_719) (fun _ h9 => h9) rfl d_Md_run_160 ?_
          refine lv_iload hx hb d_Md_run_163 (lv_at hl 3 rfl) ?_
          refine lv_aload_n hx hb d_Md_run_165 rfl (lv_at hl 4 rfl) ?_
          refine va_get (D := D) (ci := 9) (v := .long (sm + ((xa (32 * j + i)).toInt64))) (C := R_Md) (T := F_Md) (N := 17) hx hb hg in_Md hown hK hP 0 rfl rfl 12 (Nat.le_of_ble_eq_true rfl) (hg _ tw_718) (fun _ h9 => h9) rfl d_Md_run_166 ?_
          refine ep_last hx hb hK hP hD hS 11 1 rfl rfl (i := i) (x := (sm + ((xa (32 * j + i)).toInt64))) (by omega) (by decide) d_Md_run_169 (fun H locs hP hD hS => ?_)
          have hP : va_P D cls (wMo cI cJ cZ a code kn ed ct ti nm xa xb mc it vs se (sm + ((xa (32 * j + i)).toInt64)) (vp_updL (vp_updL rs i 0) i (sm + ((xa (32 * j + i)).toInt64))) wk ors owk) H := hP
          have hD : va_D (blk a 15) (wMo cI cJ cZ a code kn ed ct ti nm xa xb mc it vs se (sm + ((xa (32 * j + i)).toInt64)) (vp_updL (vp_updL rs i 0) i (sm + ((xa (32 * j + i)).toInt64))) wk ors owk) := hD
          refine lv_aload_n hx hb d_Md_run_170 rfl (lv_at hl 4 rfl) ?_
          refine va_get (D := D) (ci := 9) (v := .ref (a + 12)) (C := R_Md) (T := F_Md) (N := 17) hx hb hg in_Md hown hK hP 0 rfl rfl 14 (Nat.le_of_ble_eq_true rfl) (hg _ tw_720) (fun _ h9 => h9) rfl d_Md_run_171 ?_
          refine lv_iload hx hb d_Md_run_174 (lv_at hl 3 rfl) ?_
          refine lv_iconst (v := 1) hx hb d_Md_run_176 (by decide) ?_
          refine ep_zast hx hb hK hP hD hS 12 2 rfl rfl (i := i) (x := 1) (by decide) (by omega) (by decide) d_Md_run_177 (fun H locs hP hD hS => ?_)
          have hP : va_P D cls (wMo cI cJ cZ a code kn ed ct ti nm xa xb mc it vs se (sm + ((xa (32 * j + i)).toInt64)) (vp_updL (vp_updL rs i 0) i (sm + ((xa (32 * j + i)).toInt64))) (upd wk i 1) ors owk) H := hP
          have hD : va_D (blk a 15) (wMo cI cJ cZ a code kn ed ct ti nm xa xb mc it vs se (sm + ((xa (32 * j + i)).toInt64)) (vp_updL (vp_updL rs i 0) i (sm + ((xa (32 * j + i)).toInt64))) (upd wk i 1) ors owk) := hD
          refine lv_goto (tgt := 235) hx hb d_Md_run_178 (by decide) ?_
          refine lv_iinc (k := 3) (lv' := [(4, .int (nI (i + 1))), (7, .int (xb (32 * j + i))), (6, .int (xa (32 * j + i))), (5, .int (nm (32 * j + i))), (0, .ref a), (1, .int (nI j)), (2, .int 4), (3, .int t)]) hx hb d_Md_run_235 hl rfl (inc1 _) (by decide) rfl (fun ls hl => ?_)
          refine lv_goto (tgt := 48) hx hb d_Md_run_238 (by decide) ?_
          rw [if_neg hc1, if_pos hc2] at hR
          exact ih (i + 1) mc it vs se (sm + ((xa (32 * j + i)).toInt64)) (vp_updL (vp_updL rs i 0) i (sm + ((xa (32 * j + i)).toInt64))) (upd wk i 1) _ _ ls (by omega) hR (lv_sub hl [0, 4, 5, 6, 7] rfl) hP hS
        · have hc2 : ¬ (0 ≤ (lg_cmp (sm + ((xa (32 * j + i)).toInt64)) 0)) := hc2
          refine lv_lconst (v := 0) hx hb d_Md_run_144 (by decide) ?_
          refine lv_goto (tgt := 156) hx hb d_Md_run_145 (by decide) ?_
          refine va_put (D := D) (ci := 9) (v := .long 0) (ty := .long) (C := R_Md) (T := F_Md) (N := 17) hx hb hg in_Md t_Md t_Md_ok n_Md hown hK hP hD hS 0 rfl rfl 12 (Nat.le_of_ble_eq_true rfl) (hg _ tw_718) (fun _ h9 => h9) rfl (by decide +kernel) rfl rfl (Nat.le_of_ble_eq_true rfl) d_Md_run_156 (fun H locs hP hD hS => ?_)
          have hP : va_P D cls (wMo cI cJ cZ a code kn ed ct ti nm xa xb mc it vs se 0 (vp_updL rs i 0) wk ors owk) H := hP
          have hD : va_D (blk a 15) (wMo cI cJ cZ a code kn ed ct ti nm xa xb mc it vs se 0 (vp_updL rs i 0) wk ors owk) := hD
          refine lv_aload_n hx hb d_Md_run_159 rfl (lv_at hl 4 rfl) ?_
          refine va_get (D := D) (ci := 9) (v := .ref (a + 11)) (C := R_Md) (T := F_Md) (N := 17) hx hb hg in_Md hown hK hP 0 rfl rfl 13 (Nat.le_of_ble_eq_true rfl) (hg _ tw_719) (fun _ h9 => h9) rfl d_Md_run_160 ?_
          refine lv_iload hx hb d_Md_run_163 (lv_at hl 3 rfl) ?_
          refine lv_aload_n hx hb d_Md_run_165 rfl (lv_at hl 4 rfl) ?_
          refine va_get (D := D) (ci := 9) (v := .long 0) (C := R_Md) (T := F_Md) (N := 17) hx hb hg in_Md hown hK hP 0 rfl rfl 12 (Nat.le_of_ble_eq_true rfl) (hg _ tw_718) (fun _ h9 => h9) rfl d_Md_run_166 ?_
          refine ep_last hx hb hK hP hD hS 11 1 rfl rfl (i := i) (x := 0) (by omega) (by decide) d_Md_run_169 (fun H locs hP hD hS => ?_)
          have hP : va_P D cls (wMo cI cJ cZ a code kn ed ct ti nm xa xb mc it vs se 0 (vp_updL (vp_updL rs i 0) i 0) wk ors owk) H := hP
          have hD : va_D (blk a 15) (wMo cI cJ cZ a code kn ed ct ti nm xa xb mc it vs se 0 (vp_updL (vp_updL rs i 0) i 0) wk ors owk) := hD
          refine lv_aload_n hx hb d_Md_run_170 rfl (lv_at hl 4 rfl) ?_
          refine va_get (D := D) (ci := 9) (v := .ref (a + 12)) (C := R_Md) (T := F_Md) (N := 17) hx hb hg in_Md hown hK hP 0 rfl rfl 14 (Nat.le_of_ble_eq_true rfl) (hg _ tw_720) (fun _ h9 => h9) rfl d_Md_run_171 ?_
          refine lv_iload hx hb d_Md_run_174 (lv_at hl 3 rfl) ?_
          refine lv_iconst (v := 1) hx hb d_Md_run_176 (by decide) ?_
          refine ep_zast hx hb hK hP hD hS 12 2 rfl rfl (i := i) (x := 1) (by decide) (by omega) (by decide) d_Md_run_177 (fun H locs hP hD hS => ?_)
          have hP : va_P D cls (wMo cI cJ cZ a code kn ed ct ti nm xa xb mc it vs se 0 (vp_updL (vp_updL rs i 0) i 0) (upd wk i 1) ors owk) H := hP
          have hD : va_D (blk a 15) (wMo cI cJ cZ a code kn ed ct ti nm xa xb mc it vs se 0 (vp_updL (vp_updL rs i 0) i 0) (upd wk i 1) ors owk) := hD
          refine lv_goto (tgt := 235) hx hb d_Md_run_178 (by decide) ?_
          refine lv_iinc (k := 3) (lv' := [(4, .int (nI (i + 1))), (7, .int (xb (32 * j + i))), (6, .int (xa (32 * j + i))), (5, .int (nm (32 * j + i))), (0, .ref a), (1, .int (nI j)), (2, .int 4), (3, .int t)]) hx hb d_Md_run_235 hl rfl (inc1 _) (by decide) rfl (fun ls hl => ?_)
          refine lv_goto (tgt := 48) hx hb d_Md_run_238 (by decide) ?_
          rw [if_neg hc1, if_neg hc2] at hR
          exact ih (i + 1) mc it vs se 0 (vp_updL (vp_updL rs i 0) i 0) (upd wk i 1) _ _ ls (by omega) hR (lv_sub hl [0, 4, 5, 6, 7] rfl) hP hS
  have key_23 : ∀ (k : Nat) (i : Nat) (se : Nat → Int32) (H : Heap) (locs : List Loc) (ls : Array Slot), i + k = 16 → g_Mo_run_4_23 ti xa it vs rs wk n j t k i se = R → lv_has ls 8 [(4, .int (nI i)), (0, .ref a), (1, .int (nI j)), (2, .int 4), (3, .int t)] → va_P D cls (wMo cI cJ cZ a code kn ed ct ti nm xa xb 0 it vs se 0 rs wk ors owk) H → va_S (blk a 15) s.heap H locs → W p l e (headSpec (k_Md_run :: gt) rm_Md_run).room s m ([.ref a, .int (nI j), .int 4, .int t] : List Value).toArray below meth c H locs 0 0 (MQ below (Qd (blk a 15) none (fun H => va_P D cls (wMo cI cJ cZ a code kn ed ct ti nm xa xb R.1 R.2.1 R.2.2.1 R.2.2.2.1 R.2.2.2.2.1 R.2.2.2.2.2.1 R.2.2.2.2.2.2 ors owk) H)) ([.ref a, .int (nI j), .int 4, .int t] : List Value).toArray s 0 0 (blk a 15)) (F0 m 23 ls []) := by
    intro k
    induction k with
    | zero =>
      intro i se H locs ls hi hR hl hP hS
      have hR : (g_Mo_run_4_48 ti xa j t n 0 0 it vs se 0 rs wk) = R := hR
      have hD : va_D (blk a 15) (wMo cI cJ cZ a code kn ed ct ti nm xa xb 0 it vs se 0 rs wk ors owk) := (blk_D (wMo_in))
      refine lv_iload hx hb d_Md_run_23 (lv_at hl 0 rfl) ?_
      refine lv_bipush (v := 16) hx hb d_Md_run_25 (by decide) ?_
      refine lv_icmp_ge (tgt := 45) hx hb d_Md_run_27 (by decide) (fun hc => ?_) (fun hc => False.elim (by have hc : ¬ (16 ≤ i) := fun h => hc (by exact (nI_leI (a := 16) (b := i) (by omega) (by omega)).mpr h); omega))
      refine lv_iconst (v := 0) hx hb d_Md_run_45 (by decide) ?_
      refine lv_istore (lv' := [(4, .int 0), (0, .ref a), (1, .int (nI j)), (2, .int 4), (3, .int t)]) hx hb d_Md_run_46 hl (by decide) rfl (fun ls hl => ?_)
      exact key_48 n 0 0 it vs se 0 rs wk _ _ ls (by omega) hR hl hP hS
    | succ k ih =>
      intro i se H locs ls hi hR hl hP hS
      have hR : (g_Mo_run_4_23 ti xa it vs rs wk n j t k (i + 1) (upd se i (nI i))) = R := hR
      have hD : va_D (blk a 15) (wMo cI cJ cZ a code kn ed ct ti nm xa xb 0 it vs se 0 rs wk ors owk) := (blk_D (wMo_in))
      refine lv_iload hx hb d_Md_run_23 (lv_at hl 0 rfl) ?_
      refine lv_bipush (v := 16) hx hb d_Md_run_25 (by decide) ?_
      refine lv_icmp_ge (tgt := 45) hx hb d_Md_run_27 (by decide) (fun hc => False.elim (by have hc := (nI_leI (a := 16) (b := i) (by omega) (by omega)).mp hc; omega)) (fun hc => ?_)
      refine lv_aload_n hx hb d_Md_run_30 rfl (lv_at hl 1 rfl) ?_
      refine va_get (D := D) (ci := 9) (v := .ref (a + 10)) (C := R_Md) (T := F_Md) (N := 17) hx hb hg in_Md hown hK hP 0 rfl rfl 11 (Nat.le_of_ble_eq_true rfl) (hg _ tw_717) (fun _ h9 => h9) rfl d_Md_run_31 ?_
      refine lv_iload hx hb d_Md_run_34 (lv_at hl 0 rfl) ?_
      refine lv_iload hx hb d_Md_run_36 (lv_at hl 0 rfl) ?_
      refine ep_iast hx hb hK hP hD hS 10 0 rfl rfl (i := i) (x := (nI i)) (by omega) (by decide) d_Md_run_38 (fun H locs hP hD hS => ?_)
      have hP : va_P D cls (wMo cI cJ cZ a code kn ed ct ti nm xa xb 0 it vs (upd se i (nI i)) 0 rs wk ors owk) H := hP
      have hD : va_D (blk a 15) (wMo cI cJ cZ a code kn ed ct ti nm xa xb 0 it vs (upd se i (nI i)) 0 rs wk ors owk) := hD
      refine lv_iinc (k := 0) (lv' := [(4, .int (nI (i + 1))), (0, .ref a), (1, .int (nI j)), (2, .int 4), (3, .int t)]) hx hb d_Md_run_39 hl rfl (inc1 _) (by decide) rfl (fun ls hl => ?_)
      refine lv_goto (tgt := 23) hx hb d_Md_run_42 (by decide) ?_
      exact ih (i + 1) (upd se i (nI i)) _ _ ls (by omega) hR hl hP hS
  have hR : (g_Mo_run_4_23 ti xa it vs rs wk n j t 16 0 se) = R := hR
  refine lv_aload_n hx hb d_Md_run_0 rfl (lv_at hl 0 rfl) ?_
  refine lv_iload_n hx hb d_Md_run_1 rfl (lv_at hl 2 rfl) ?_
  refine lv_iconst (v := 5) hx hb d_Md_run_2 (by decide) ?_
  refine lv_icmp_ne (tgt := 11) hx hb d_Md_run_3 (by decide) (fun hc => ?_) (fun hc => False.elim (by revert hc; decide))
  refine lv_iconst (v := 0) hx hb d_Md_run_11 (by decide) ?_
  refine va_put (D := D) (ci := 9) (v := .int 0) (ty := .int) (C := R_Md) (T := F_Md) (N := 17) hx hb hg in_Md t_Md t_Md_ok n_Md hown hK hP hD hS 0 rfl rfl 8 (Nat.le_of_ble_eq_true rfl) (hg _ tw_714) (fun _ h9 => h9) rfl (by decide +kernel) rfl rfl (Nat.le_of_ble_eq_true rfl) d_Md_run_12 (fun H locs hP hD hS => ?_)
  have hP : va_P D cls (wMo cI cJ cZ a code kn ed ct ti nm xa xb 0 it vs se sm rs wk ors owk) H := hP
  have hD : va_D (blk a 15) (wMo cI cJ cZ a code kn ed ct ti nm xa xb 0 it vs se sm rs wk ors owk) := hD
  refine lv_aload_n hx hb d_Md_run_15 rfl (lv_at hl 0 rfl) ?_
  refine lv_lconst (v := 0) hx hb d_Md_run_16 (by decide) ?_
  refine va_put (D := D) (ci := 9) (v := .long 0) (ty := .long) (C := R_Md) (T := F_Md) (N := 17) hx hb hg in_Md t_Md t_Md_ok n_Md hown hK hP hD hS 0 rfl rfl 12 (Nat.le_of_ble_eq_true rfl) (hg _ tw_718) (fun _ h9 => h9) rfl (by decide +kernel) rfl rfl (Nat.le_of_ble_eq_true rfl) d_Md_run_17 (fun H locs hP hD hS => ?_)
  have hP : va_P D cls (wMo cI cJ cZ a code kn ed ct ti nm xa xb 0 it vs se 0 rs wk ors owk) H := hP
  have hD : va_D (blk a 15) (wMo cI cJ cZ a code kn ed ct ti nm xa xb 0 it vs se 0 rs wk ors owk) := hD
  refine lv_iconst (v := 0) hx hb d_Md_run_20 (by decide) ?_
  refine lv_istore (lv' := [(4, .int 0), (0, .ref a), (1, .int (nI j)), (2, .int 4), (3, .int t)]) hx hb d_Md_run_21 hl (by decide) rfl (fun ls hl => ?_)
  exact key_23 16 0 se _ _ ls (by omega) hR hl hP hS

def g_Mo_run_5_48 (ti : Nat → Int32) (xa : Nat → Int32) (xb : Nat → Int32) (j : Nat) (t : Int32) : Nat → Nat → Int32 → (Nat → Int32) → (Nat → Int32) → (Nat → Int32) → Int64 → (Nat → Int64) → (Nat → Int32) → Int32 × (Nat → Int32) × (Nat → Int32) × (Nat → Int32) × Int64 × (Nat → Int64) × (Nat → Int32)
  | 0, i, mc, it, vs, se, sm, rs, wk => (mc, it, vs, se, sm, rs, wk)
  | k + 1, i, mc, it, vs, se, sm, rs, wk => if t < (ti (32 * j + i)) then ((mc, it, vs, se, sm, rs, wk)) else (g_Mo_run_5_48 ti xa xb j t k (i + 1) ((f_Mo_doSets mc se ((xa (32 * j + i)).toNatClampNeg) ((xb (32 * j + i)).toNatClampNeg)).2.1) it vs ((f_Mo_doSets mc se ((xa (32 * j + i)).toNatClampNeg) ((xb (32 * j + i)).toNatClampNeg)).2.2) sm (vp_updL rs i 0) (upd wk i ((f_Mo_doSets mc se ((xa (32 * j + i)).toNatClampNeg) ((xb (32 * j + i)).toNatClampNeg)).1)))

def g_Mo_run_5_23 (ti : Nat → Int32) (xa : Nat → Int32) (xb : Nat → Int32) (it : Nat → Int32) (vs : Nat → Int32) (rs : Nat → Int64) (wk : Nat → Int32) (n : Nat) (j : Nat) (t : Int32) : Nat → Nat → (Nat → Int32) → Int32 × (Nat → Int32) × (Nat → Int32) × (Nat → Int32) × Int64 × (Nat → Int64) × (Nat → Int32)
  | 0, i, se => g_Mo_run_5_48 ti xa xb j t n 0 16 it vs se 0 rs wk
  | k + 1, i, se => g_Mo_run_5_23 ti xa xb it vs rs wk n j t k (i + 1) (upd se i (nI i))

def f_Mo_run_5 (ti : Nat → Int32) (xa : Nat → Int32) (xb : Nat → Int32) (it : Nat → Int32) (vs : Nat → Int32) (se : Nat → Int32) (rs : Nat → Int64) (wk : Nat → Int32) (n : Nat) (j : Nat) (t : Int32) : Int32 × (Nat → Int32) × (Nat → Int32) × (Nat → Int32) × Int64 × (Nat → Int64) × (Nat → Int32) := g_Mo_run_5_23 ti xa xb it vs rs wk n j t 16 0 se
set_option maxHeartbeats 4000000 in
set_option maxRecDepth 100000 in
theorem m_Mo_run_5 (l : Launch) (D : va_G) (cI cJ cZ cO : ClassId) (a : Nat) (code : Int32) (kn : Nat → Int32) (ed : Nat → Int32) (ct : Nat → Int32) (ti : Nat → Int32) (nm : Nat → Int32) (xa : Nat → Int32) (xb : Nat → Int32) (ma : Int32) (it : Nat → Int32) (vs : Nat → Int32) (se : Nat → Int32) (sm : Int64) (rs : Nat → Int64) (wk : Nat → Int32) (ors : Nat → Int64) (owk : Nat → Int32) (n : Nat) (j : Nat) (t : Int32) (hj : j < 8) (hct : ct j = nI n) (hn : n ≤ 32) (hop : ∀ i, i < n → (xa (32 * j + i) = nI (xa (32 * j + i)).toNatClampNeg ∧ (xa (32 * j + i)).toNatClampNeg < 16) ∧ (xb (32 * j + i) = nI (xb (32 * j + i)).toNatClampNeg ∧ (xb (32 * j + i)).toNatClampNeg < 16)) (R : Int32 × (Nat → Int32) × (Nat → Int32) × (Nat → Int32) × Int64 × (Nat → Int64) × (Nat → Int32)) (hR : f_Mo_run_5 ti xa xb it vs se rs wk n j t = R) : Met l y_Md_run (k_Md_run :: gt) rm_Md_run (Pc0 D cI cJ cZ cO [.ref a, .int (nI j), .int 5, .int t] (fun H => va_P D cls (wMo cI cJ cZ a code kn ed ct ti nm xa xb ma it vs se sm rs wk ors owk) H)) (Qd (blk a 15) none (fun H => va_P D cls (wMo cI cJ cZ a code kn ed ct ti nm xa xb R.1 R.2.1 R.2.2.1 R.2.2.2.1 R.2.2.2.2.1 R.2.2.2.2.2.1 R.2.2.2.2.2.2 ors owk) H)) 0 0 (blk a 15) := by
  refine Met.ofW (cc := c_Md_run) (maxL := 8) (ret := none) (by decide) rfl ?_
  intro p e s m args below meth c s₁ B hml hv
  obtain ⟨rfl, hKn, hP⟩ := hv
  have hx := B.exec
  have hb := B.bytes
  have hr := B.returns
  have hts := atoms_spec (ws := k_Md_run :: gt) B.pre
  have hg : ∀ w ∈ gt, w.before _ s = true := fun w h => hts w (List.mem_cons_of_mem _ h)
  have hown : s.vm.findClass R_Md = some m.cls := findClass_of_methodNamed B.named
  have hlocks := B.notSynchronized
  have hK := hKn.1
  have hl := lv_entry ([.ref a, .int (nI j), .int 5, .int t]) (n := 8) (Nat.le_of_ble_eq_true rfl)
  rw [lg_entry_eq]
  generalize (lg_sl ([.ref a, .int (nI j), .int 5, .int t]) ++ List.replicate (8 - (lg_sl ([.ref a, .int (nI j), .int 5, .int t])).length) Slot.unset).toArray = ls at hl ⊢
  have hl : lv_has ls 8 [(0, .ref a), (1, .int (nI j)), (2, .int 5), (3, .int t)] := hl
  have hS : va_S (blk a 15) s.heap s.heap [] := va_S.rf
  have hD : va_D (blk a 15) (wMo cI cJ cZ a code kn ed ct ti nm xa xb ma it vs se sm rs wk ors owk) := (blk_D (wMo_in))
  have key_48 : ∀ (k : Nat) (i : Nat) (mc : Int32) (it : Nat → Int32) (vs : Nat → Int32) (se : Nat → Int32) (sm : Int64) (rs : Nat → Int64) (wk : Nat → Int32) (H : Heap) (locs : List Loc) (ls : Array Slot), i + k = n → g_Mo_run_5_48 ti xa xb j t k i mc it vs se sm rs wk = R → lv_has ls 8 [(4, .int (nI i)), (0, .ref a), (1, .int (nI j)), (2, .int 5), (3, .int t)] → va_P D cls (wMo cI cJ cZ a code kn ed ct ti nm xa xb mc it vs se sm rs wk ors owk) H → va_S (blk a 15) s.heap H locs → W p l e (headSpec (k_Md_run :: gt) rm_Md_run).room s m ([.ref a, .int (nI j), .int 5, .int t] : List Value).toArray below meth c H locs 0 0 (MQ below (Qd (blk a 15) none (fun H => va_P D cls (wMo cI cJ cZ a code kn ed ct ti nm xa xb R.1 R.2.1 R.2.2.1 R.2.2.2.1 R.2.2.2.2.1 R.2.2.2.2.2.1 R.2.2.2.2.2.2 ors owk) H)) ([.ref a, .int (nI j), .int 5, .int t] : List Value).toArray s 0 0 (blk a 15)) (F0 m 48 ls []) := by
    intro k
    induction k with
    | zero =>
      intro i mc it vs se sm rs wk H locs ls hi hR hl hP hS
      have hR : ((mc, it, vs, se, sm, rs, wk)) = R := hR
      have hD : va_D (blk a 15) (wMo cI cJ cZ a code kn ed ct ti nm xa xb mc it vs se sm rs wk ors owk) := (blk_D (wMo_in))
      refine lv_iload hx hb d_Md_run_48 (lv_at hl 0 rfl) ?_
      refine lv_aload_n hx hb d_Md_run_50 rfl (lv_at hl 1 rfl) ?_
      refine va_get (D := D) (ci := 9) (v := .ref (a + 3)) (C := R_Md) (T := F_Md) (N := 17) hx hb hg in_Md hown hK hP 0 rfl rfl 3 (Nat.le_of_ble_eq_true rfl) (hg _ tw_709) (fun _ h9 => h9) rfl d_Md_run_51 ?_
      refine lv_iload_n hx hb d_Md_run_54 rfl (lv_at hl 2 rfl) ?_
      refine ep_iald hx hb hK hP 3 0 rfl rfl (i := j) (by omega) (by decide) d_Md_run_55 ?_
      refine lv_topi (fun z9 e_z9 => ?_)
      obtain rfl : z9 = nI n := by rw [e_z9]; exact hct
      refine lv_icmp_ge (tgt := 241) hx hb d_Md_run_56 (by decide) (fun hc => ?_) (fun hc => False.elim (by have hc : ¬ (n ≤ i) := fun h => hc (by exact (nI_leI (a := n) (b := i) (by omega) (by omega)).mpr h); omega))
      subst hR
      exact W.vret hx hb hr (fun t9 ht hW => ⟨rfl, hS.F ht, by rw [ht]; exact hP⟩) hS.2.2 d_Md_run_241
    | succ k ih =>
      intro i mc it vs se sm rs wk H locs ls hi hR hl hP hS
      have hR : (if t < (ti (32 * j + i)) then ((mc, it, vs, se, sm, rs, wk)) else (g_Mo_run_5_48 ti xa xb j t k (i + 1) ((f_Mo_doSets mc se ((xa (32 * j + i)).toNatClampNeg) ((xb (32 * j + i)).toNatClampNeg)).2.1) it vs ((f_Mo_doSets mc se ((xa (32 * j + i)).toNatClampNeg) ((xb (32 * j + i)).toNatClampNeg)).2.2) sm (vp_updL rs i 0) (upd wk i ((f_Mo_doSets mc se ((xa (32 * j + i)).toNatClampNeg) ((xb (32 * j + i)).toNatClampNeg)).1)))) = R := hR
      have hD : va_D (blk a 15) (wMo cI cJ cZ a code kn ed ct ti nm xa xb mc it vs se sm rs wk ors owk) := (blk_D (wMo_in))
      refine lv_iload hx hb d_Md_run_48 (lv_at hl 0 rfl) ?_
      refine lv_aload_n hx hb d_Md_run_50 rfl (lv_at hl 1 rfl) ?_
      refine va_get (D := D) (ci := 9) (v := .ref (a + 3)) (C := R_Md) (T := F_Md) (N := 17) hx hb hg in_Md hown hK hP 0 rfl rfl 3 (Nat.le_of_ble_eq_true rfl) (hg _ tw_709) (fun _ h9 => h9) rfl d_Md_run_51 ?_
      refine lv_iload_n hx hb d_Md_run_54 rfl (lv_at hl 2 rfl) ?_
      refine ep_iald hx hb hK hP 3 0 rfl rfl (i := j) (by omega) (by decide) d_Md_run_55 ?_
      refine lv_topi (fun z9 e_z9 => ?_)
      obtain rfl : z9 = nI n := by rw [e_z9]; exact hct
      refine lv_icmp_ge (tgt := 241) hx hb d_Md_run_56 (by decide) (fun hc => False.elim (by have hc := (nI_leI (a := n) (b := i) (by omega) (by omega)).mp hc; omega)) (fun hc => ?_)
      refine lv_aload_n hx hb d_Md_run_59 rfl (lv_at hl 1 rfl) ?_
      refine va_get (D := D) (ci := 9) (v := .ref (a + 4)) (C := R_Md) (T := F_Md) (N := 17) hx hb hg in_Md hown hK hP 0 rfl rfl 4 (Nat.le_of_ble_eq_true rfl) (hg _ tw_710) (fun _ h9 => h9) rfl d_Md_run_60 ?_
      refine lv_bipush (v := 32) hx hb d_Md_run_63 (by decide) ?_
      refine lv_iload_n hx hb d_Md_run_65 rfl (lv_at hl 2 rfl) ?_
      refine lv_imul hx hb d_Md_run_66 ?_
      refine lv_topi (fun z9 e_z9 => ?_)
      obtain rfl : z9 = nI (32 * j) := by rw [e_z9]; exact (nI_mul 32 j)
      refine lv_iload hx hb d_Md_run_67 (lv_at hl 0 rfl) ?_
      refine lv_iadd hx hb d_Md_run_69 ?_
      refine lv_topi (fun z9 e_z9 => ?_)
      obtain rfl : z9 = nI (32 * j + i) := by rw [e_z9]; exact (nI_add (32 * j) i)
      refine ep_iald hx hb hK hP 4 0 rfl rfl (i := (32 * j + i)) (by omega) (by decide) d_Md_run_70 ?_
      refine lv_iload_n hx hb d_Md_run_71 rfl (lv_at hl 4 rfl) ?_
      refine lv_icmp_gt (tgt := 241) hx hb d_Md_run_72 (by decide) (fun hc1 => ?_) (fun hc1 => ?_)
      · have hc1 : t < (ti (32 * j + i)) := hc1
        rw [if_pos hc1] at hR
        subst hR
        exact W.vret hx hb hr (fun t9 ht hW => ⟨rfl, hS.F ht, by rw [ht]; exact hP⟩) hS.2.2 d_Md_run_241
      · have hc1 : ¬ (t < (ti (32 * j + i))) := hc1
        refine lv_aload_n hx hb d_Md_run_75 rfl (lv_at hl 1 rfl) ?_
        refine va_get (D := D) (ci := 9) (v := .ref (a + 5)) (C := R_Md) (T := F_Md) (N := 17) hx hb hg in_Md hown hK hP 0 rfl rfl 5 (Nat.le_of_ble_eq_true rfl) (hg _ tw_711) (fun _ h9 => h9) rfl d_Md_run_76 ?_
        refine lv_bipush (v := 32) hx hb d_Md_run_79 (by decide) ?_
        refine lv_iload_n hx hb d_Md_run_81 rfl (lv_at hl 2 rfl) ?_
        refine lv_imul hx hb d_Md_run_82 ?_
        refine lv_topi (fun z9 e_z9 => ?_)
        obtain rfl : z9 = nI (32 * j) := by rw [e_z9]; exact (nI_mul 32 j)
        refine lv_iload hx hb d_Md_run_83 (lv_at hl 0 rfl) ?_
        refine lv_iadd hx hb d_Md_run_85 ?_
        refine lv_topi (fun z9 e_z9 => ?_)
        obtain rfl : z9 = nI (32 * j + i) := by rw [e_z9]; exact (nI_add (32 * j) i)
        refine ep_iald hx hb hK hP 5 0 rfl rfl (i := (32 * j + i)) (by omega) (by decide) d_Md_run_86 ?_
        refine lv_istore (lv' := [(5, .int (nm (32 * j + i))), (4, .int (nI i)), (0, .ref a), (1, .int (nI j)), (2, .int 5), (3, .int t)]) hx hb d_Md_run_87 hl (by decide) rfl (fun ls hl => ?_)
        refine lv_aload_n hx hb d_Md_run_89 rfl (lv_at hl 2 rfl) ?_
        refine va_get (D := D) (ci := 9) (v := .ref (a + 6)) (C := R_Md) (T := F_Md) (N := 17) hx hb hg in_Md hown hK hP 0 rfl rfl 6 (Nat.le_of_ble_eq_true rfl) (hg _ tw_712) (fun _ h9 => h9) rfl d_Md_run_90 ?_
        refine lv_bipush (v := 32) hx hb d_Md_run_93 (by decide) ?_
        refine lv_iload_n hx hb d_Md_run_95 rfl (lv_at hl 3 rfl) ?_
        refine lv_imul hx hb d_Md_run_96 ?_
        refine lv_topi (fun z9 e_z9 => ?_)
        obtain rfl : z9 = nI (32 * j) := by rw [e_z9]; exact (nI_mul 32 j)
        refine lv_iload hx hb d_Md_run_97 (lv_at hl 1 rfl) ?_
        refine lv_iadd hx hb d_Md_run_99 ?_
        refine lv_topi (fun z9 e_z9 => ?_)
        obtain rfl : z9 = nI (32 * j + i) := by rw [e_z9]; exact (nI_add (32 * j) i)
        refine ep_iald hx hb hK hP 6 0 rfl rfl (i := (32 * j + i)) (by omega) (by decide) d_Md_run_100 ?_
        refine lv_topi (fun z9 e_z9 => ?_)
        obtain rfl : z9 = nI ((xa (32 * j + i)).toNatClampNeg) := by rw [e_z9]; exact ((hop i (by omega)).1.1)
        refine lv_istore (lv' := [(6, .int (nI ((xa (32 * j + i)).toNatClampNeg))), (5, .int (nm (32 * j + i))), (4, .int (nI i)), (0, .ref a), (1, .int (nI j)), (2, .int 5), (3, .int t)]) hx hb d_Md_run_101 hl (by decide) rfl (fun ls hl => ?_)
        refine lv_aload_n hx hb d_Md_run_103 rfl (lv_at hl 3 rfl) ?_
        refine va_get (D := D) (ci := 9) (v := .ref (a + 7)) (C := R_Md) (T := F_Md) (N := 17) hx hb hg in_Md hown hK hP 0 rfl rfl 7 (Nat.le_of_ble_eq_true rfl) (hg _ tw_713) (fun _ h9 => h9) rfl d_Md_run_104 ?_
        refine lv_bipush (v := 32) hx hb d_Md_run_107 (by decide) ?_
        refine lv_iload_n hx hb d_Md_run_109 rfl (lv_at hl 4 rfl) ?_
        refine lv_imul hx hb d_Md_run_110 ?_
        refine lv_topi (fun z9 e_z9 => ?_)
        obtain rfl : z9 = nI (32 * j) := by rw [e_z9]; exact (nI_mul 32 j)
        refine lv_iload hx hb d_Md_run_111 (lv_at hl 2 rfl) ?_
        refine lv_iadd hx hb d_Md_run_113 ?_
        refine lv_topi (fun z9 e_z9 => ?_)
        obtain rfl : z9 = nI (32 * j + i) := by rw [e_z9]; exact (nI_add (32 * j) i)
        refine ep_iald hx hb hK hP 7 0 rfl rfl (i := (32 * j + i)) (by omega) (by decide) d_Md_run_114 ?_
        refine lv_topi (fun z9 e_z9 => ?_)
        obtain rfl : z9 = nI ((xb (32 * j + i)).toNatClampNeg) := by rw [e_z9]; exact ((hop i (by omega)).2.1)
        refine lv_istore (lv' := [(7, .int (nI ((xb (32 * j + i)).toNatClampNeg))), (6, .int (nI ((xa (32 * j + i)).toNatClampNeg))), (5, .int (nm (32 * j + i))), (4, .int (nI i)), (0, .ref a), (1, .int (nI j)), (2, .int 5), (3, .int t)]) hx hb d_Md_run_115 hl (by decide) rfl (fun ls hl => ?_)
        refine lv_aload_n hx hb d_Md_run_117 rfl (lv_at hl 4 rfl) ?_
        refine va_get (D := D) (ci := 9) (v := .ref (a + 11)) (C := R_Md) (T := F_Md) (N := 17) hx hb hg in_Md hown hK hP 0 rfl rfl 13 (Nat.le_of_ble_eq_true rfl) (hg _ tw_719) (fun _ h9 => h9) rfl d_Md_run_118 ?_
        refine lv_iload hx hb d_Md_run_121 (lv_at hl 3 rfl) ?_
        refine lv_lconst (v := 0) hx hb d_Md_run_123 (by decide) ?_
        refine ep_last hx hb hK hP hD hS 11 1 rfl rfl (i := i) (x := 0) (by omega) (by decide) d_Md_run_124 (fun H locs hP hD hS => ?_)
        have hP : va_P D cls (wMo cI cJ cZ a code kn ed ct ti nm xa xb mc it vs se sm (vp_updL rs i 0) wk ors owk) H := hP
        have hD : va_D (blk a 15) (wMo cI cJ cZ a code kn ed ct ti nm xa xb mc it vs se sm (vp_updL rs i 0) wk ors owk) := hD
        refine lv_iload_n hx hb d_Md_run_125 rfl (lv_at hl 6 rfl) ?_
        refine lv_iconst (v := 4) hx hb d_Md_run_126 (by decide) ?_
        refine lv_icmp_ne (tgt := 181) hx hb d_Md_run_127 (by decide) (fun hc => ?_) (fun hc => False.elim (by revert hc; decide))
        refine lv_aload_n hx hb d_Md_run_181 rfl (lv_at hl 4 rfl) ?_
        refine va_get (D := D) (ci := 9) (v := .ref (a + 12)) (C := R_Md) (T := F_Md) (N := 17) hx hb hg in_Md hown hK hP 0 rfl rfl 14 (Nat.le_of_ble_eq_true rfl) (hg _ tw_720) (fun _ h9 => h9) rfl d_Md_run_182 ?_
        refine lv_iload hx hb d_Md_run_185 (lv_at hl 3 rfl) ?_
        refine lv_iload_n hx hb d_Md_run_187 rfl (lv_at hl 6 rfl) ?_
        refine lv_iconst (v := 5) hx hb d_Md_run_188 (by decide) ?_
        refine lv_icmp_ne (tgt := 203) hx hb d_Md_run_189 (by decide) (fun hc => False.elim (by revert hc; decide)) (fun hc => ?_)
        refine lv_aload_n hx hb d_Md_run_192 rfl (lv_at hl 4 rfl) ?_
        refine lv_iload hx hb d_Md_run_193 (lv_at hl 1 rfl) ?_
        refine lv_iload hx hb d_Md_run_195 (lv_at hl 0 rfl) ?_
        refine ep_callH (W.runV (As := [.int (nI ((xa (32 * j + i)).toNatClampNeg)), .int (nI ((xb (32 * j + i)).toNatClampNeg))]) (rest := [.int (nI i), .ref (a + 12)]) ⟨hx, hb, hml, hown, hg⟩ (m_Mo_doSets l D cI cJ cZ cO a code kn ed ct ti nm xa xb mc it vs se sm (vp_updL rs i 0) wk ors owk ((xa (32 * j + i)).toNatClampNeg) ((xb (32 * j + i)).toNatClampNeg) (hop i (by omega)).1.2 (hop i (by omega)).2.2 _ rfl) (ep_cwV 2 hg tw_836 tw_838 ts_18 tw_12 tk_Md_doSets rfl rfl (by decide +kernel) ⟨(Nat.le_of_ble_eq_true rfl), (Nat.le_of_ble_eq_true rfl)⟩) ⟨ep_blind, va_recv (q0 := 0) (ci := 9) hK hP rfl rfl, ep_pre hKn (hP)⟩ rfl rfl hl.1 rfl (lv_room (Nat.le_of_ble_eq_true rfl)) d_Md_run_197 ⟨Nat.zero_le _, Nat.zero_le _⟩) hS (fun q h => h) (fun H locs hsz9 hk1 hP1 hS => ?_)
        refine W.eq (g2 := F0 m 200 ls [.int ((f_Mo_doSets mc se ((xa (32 * j + i)).toNatClampNeg) ((xb (32 * j + i)).toNatClampNeg)).1), .int (nI i), .ref (a + 12)]) rfl ?_
        have hP : va_P D cls (wMo cI cJ cZ a code kn ed ct ti nm xa xb ((f_Mo_doSets mc se ((xa (32 * j + i)).toNatClampNeg) ((xb (32 * j + i)).toNatClampNeg)).2.1) it vs ((f_Mo_doSets mc se ((xa (32 * j + i)).toNatClampNeg) ((xb (32 * j + i)).toNatClampNeg)).2.2) sm (vp_updL rs i 0) wk ors owk) H := hP1
        have hD : va_D (blk a 15) (wMo cI cJ cZ a code kn ed ct ti nm xa xb ((f_Mo_doSets mc se ((xa (32 * j + i)).toNatClampNeg) ((xb (32 * j + i)).toNatClampNeg)).2.1) it vs ((f_Mo_doSets mc se ((xa (32 * j + i)).toNatClampNeg) ((xb (32 * j + i)).toNatClampNeg)).2.2) sm (vp_updL rs i 0) wk ors owk) := (blk_D (wMo_in))
        refine lv_goto (tgt := 234) hx hb d_Md_run_200 (by decide) ?_
        refine ep_zast hx hb hK hP hD hS 12 2 rfl rfl (i := i) (x := ((f_Mo_doSets mc se ((xa (32 * j + i)).toNatClampNeg) ((xb (32 * j + i)).toNatClampNeg)).1)) (bz1 (doSets_bz _ _ _ _)) (by omega) (by decide) d_Md_run_234 (fun H locs hP hD hS => ?_)
        have hP : va_P D cls (wMo cI cJ cZ a code kn ed ct ti nm xa xb ((f_Mo_doSets mc se ((xa (32 * j + i)).toNatClampNeg) ((xb (32 * j + i)).toNatClampNeg)).2.1) it vs ((f_Mo_doSets mc se ((xa (32 * j + i)).toNatClampNeg) ((xb (32 * j + i)).toNatClampNeg)).2.2) sm (vp_updL rs i 0) (upd wk i ((f_Mo_doSets mc se ((xa (32 * j + i)).toNatClampNeg) ((xb (32 * j + i)).toNatClampNeg)).1)) ors owk) H := hP
        have hD : va_D (blk a 15) (wMo cI cJ cZ a code kn ed ct ti nm xa xb ((f_Mo_doSets mc se ((xa (32 * j + i)).toNatClampNeg) ((xb (32 * j + i)).toNatClampNeg)).2.1) it vs ((f_Mo_doSets mc se ((xa (32 * j + i)).toNatClampNeg) ((xb (32 * j + i)).toNatClampNeg)).2.2) sm (vp_updL rs i 0) (upd wk i ((f_Mo_doSets mc se ((xa (32 * j + i)).toNatClampNeg) ((xb (32 * j + i)).toNatClampNeg)).1)) ors owk) := hD
        refine lv_iinc (k := 3) (lv' := [(4, .int (nI (i + 1))), (7, .int (nI ((xb (32 * j + i)).toNatClampNeg))), (6, .int (nI ((xa (32 * j + i)).toNatClampNeg))), (5, .int (nm (32 * j + i))), (0, .ref a), (1, .int (nI j)), (2, .int 5), (3, .int t)]) hx hb d_Md_run_235 hl rfl (inc1 _) (by decide) rfl (fun ls hl => ?_)
        refine lv_goto (tgt := 48) hx hb d_Md_run_238 (by decide) ?_
        rw [if_neg hc1] at hR
        exact ih (i + 1) ((f_Mo_doSets mc se ((xa (32 * j + i)).toNatClampNeg) ((xb (32 * j + i)).toNatClampNeg)).2.1) it vs ((f_Mo_doSets mc se ((xa (32 * j + i)).toNatClampNeg) ((xb (32 * j + i)).toNatClampNeg)).2.2) sm (vp_updL rs i 0) (upd wk i ((f_Mo_doSets mc se ((xa (32 * j + i)).toNatClampNeg) ((xb (32 * j + i)).toNatClampNeg)).1)) _ _ ls (by omega) hR (lv_sub hl [0, 4, 5, 6, 7] rfl) hP hS
  have key_23 : ∀ (k : Nat) (i : Nat) (se : Nat → Int32) (H : Heap) (locs : List Loc) (ls : Array Slot), i + k = 16 → g_Mo_run_5_23 ti xa xb it vs rs wk n j t k i se = R → lv_has ls 8 [(4, .int (nI i)), (0, .ref a), (1, .int (nI j)), (2, .int 5), (3, .int t)] → va_P D cls (wMo cI cJ cZ a code kn ed ct ti nm xa xb 16 it vs se 0 rs wk ors owk) H → va_S (blk a 15) s.heap H locs → W p l e (headSpec (k_Md_run :: gt) rm_Md_run).room s m ([.ref a, .int (nI j), .int 5, .int t] : List Value).toArray below meth c H locs 0 0 (MQ below (Qd (blk a 15) none (fun H => va_P D cls (wMo cI cJ cZ a code kn ed ct ti nm xa xb R.1 R.2.1 R.2.2.1 R.2.2.2.1 R.2.2.2.2.1 R.2.2.2.2.2.1 R.2.2.2.2.2.2 ors owk) H)) ([.ref a, .int (nI j), .int 5, .int t] : List Value).toArray s 0 0 (blk a 15)) (F0 m 23 ls []) := by
    intro k
    induction k with
    | zero =>
      intro i se H locs ls hi hR hl hP hS
      have hR : (g_Mo_run_5_48 ti xa xb j t n 0 16 it vs se 0 rs wk) = R := hR
      have hD : va_D (blk a 15) (wMo cI cJ cZ a code kn ed ct ti nm xa xb 16 it vs se 0 rs wk ors owk) := (blk_D (wMo_in))
      refine lv_iload hx hb d_Md_run_23 (lv_at hl 0 rfl) ?_
      refine lv_bipush (v := 16) hx hb d_Md_run_25 (by decide) ?_
      refine lv_icmp_ge (tgt := 45) hx hb d_Md_run_27 (by decide) (fun hc => ?_) (fun hc => False.elim (by have hc : ¬ (16 ≤ i) := fun h => hc (by exact (nI_leI (a := 16) (b := i) (by omega) (by omega)).mpr h); omega))
      refine lv_iconst (v := 0) hx hb d_Md_run_45 (by decide) ?_
      refine lv_istore (lv' := [(4, .int 0), (0, .ref a), (1, .int (nI j)), (2, .int 5), (3, .int t)]) hx hb d_Md_run_46 hl (by decide) rfl (fun ls hl => ?_)
      exact key_48 n 0 16 it vs se 0 rs wk _ _ ls (by omega) hR hl hP hS
    | succ k ih =>
      intro i se H locs ls hi hR hl hP hS
      have hR : (g_Mo_run_5_23 ti xa xb it vs rs wk n j t k (i + 1) (upd se i (nI i))) = R := hR
      have hD : va_D (blk a 15) (wMo cI cJ cZ a code kn ed ct ti nm xa xb 16 it vs se 0 rs wk ors owk) := (blk_D (wMo_in))
      refine lv_iload hx hb d_Md_run_23 (lv_at hl 0 rfl) ?_
      refine lv_bipush (v := 16) hx hb d_Md_run_25 (by decide) ?_
      refine lv_icmp_ge (tgt := 45) hx hb d_Md_run_27 (by decide) (fun hc => False.elim (by have hc := (nI_leI (a := 16) (b := i) (by omega) (by omega)).mp hc; omega)) (fun hc => ?_)
      refine lv_aload_n hx hb d_Md_run_30 rfl (lv_at hl 1 rfl) ?_
      refine va_get (D := D) (ci := 9) (v := .ref (a + 10)) (C := R_Md) (T := F_Md) (N := 17) hx hb hg in_Md hown hK hP 0 rfl rfl 11 (Nat.le_of_ble_eq_true rfl) (hg _ tw_717) (fun _ h9 => h9) rfl d_Md_run_31 ?_
      refine lv_iload hx hb d_Md_run_34 (lv_at hl 0 rfl) ?_
      refine lv_iload hx hb d_Md_run_36 (lv_at hl 0 rfl) ?_
      refine ep_iast hx hb hK hP hD hS 10 0 rfl rfl (i := i) (x := (nI i)) (by omega) (by decide) d_Md_run_38 (fun H locs hP hD hS => ?_)
      have hP : va_P D cls (wMo cI cJ cZ a code kn ed ct ti nm xa xb 16 it vs (upd se i (nI i)) 0 rs wk ors owk) H := hP
      have hD : va_D (blk a 15) (wMo cI cJ cZ a code kn ed ct ti nm xa xb 16 it vs (upd se i (nI i)) 0 rs wk ors owk) := hD
      refine lv_iinc (k := 0) (lv' := [(4, .int (nI (i + 1))), (0, .ref a), (1, .int (nI j)), (2, .int 5), (3, .int t)]) hx hb d_Md_run_39 hl rfl (inc1 _) (by decide) rfl (fun ls hl => ?_)
      refine lv_goto (tgt := 23) hx hb d_Md_run_42 (by decide) ?_
      exact ih (i + 1) (upd se i (nI i)) _ _ ls (by omega) hR hl hP hS
  have hR : (g_Mo_run_5_23 ti xa xb it vs rs wk n j t 16 0 se) = R := hR
  refine lv_aload_n hx hb d_Md_run_0 rfl (lv_at hl 0 rfl) ?_
  refine lv_iload_n hx hb d_Md_run_1 rfl (lv_at hl 2 rfl) ?_
  refine lv_iconst (v := 5) hx hb d_Md_run_2 (by decide) ?_
  refine lv_icmp_ne (tgt := 11) hx hb d_Md_run_3 (by decide) (fun hc => False.elim (by revert hc; decide)) (fun hc => ?_)
  refine lv_bipush (v := 16) hx hb d_Md_run_6 (by decide) ?_
  refine lv_goto (tgt := 12) hx hb d_Md_run_8 (by decide) ?_
  refine va_put (D := D) (ci := 9) (v := .int 16) (ty := .int) (C := R_Md) (T := F_Md) (N := 17) hx hb hg in_Md t_Md t_Md_ok n_Md hown hK hP hD hS 0 rfl rfl 8 (Nat.le_of_ble_eq_true rfl) (hg _ tw_714) (fun _ h9 => h9) rfl (by decide +kernel) rfl rfl (Nat.le_of_ble_eq_true rfl) d_Md_run_12 (fun H locs hP hD hS => ?_)
  have hP : va_P D cls (wMo cI cJ cZ a code kn ed ct ti nm xa xb 16 it vs se sm rs wk ors owk) H := hP
  have hD : va_D (blk a 15) (wMo cI cJ cZ a code kn ed ct ti nm xa xb 16 it vs se sm rs wk ors owk) := hD
  refine lv_aload_n hx hb d_Md_run_15 rfl (lv_at hl 0 rfl) ?_
  refine lv_lconst (v := 0) hx hb d_Md_run_16 (by decide) ?_
  refine va_put (D := D) (ci := 9) (v := .long 0) (ty := .long) (C := R_Md) (T := F_Md) (N := 17) hx hb hg in_Md t_Md t_Md_ok n_Md hown hK hP hD hS 0 rfl rfl 12 (Nat.le_of_ble_eq_true rfl) (hg _ tw_718) (fun _ h9 => h9) rfl (by decide +kernel) rfl rfl (Nat.le_of_ble_eq_true rfl) d_Md_run_17 (fun H locs hP hD hS => ?_)
  have hP : va_P D cls (wMo cI cJ cZ a code kn ed ct ti nm xa xb 16 it vs se 0 rs wk ors owk) H := hP
  have hD : va_D (blk a 15) (wMo cI cJ cZ a code kn ed ct ti nm xa xb 16 it vs se 0 rs wk ors owk) := hD
  refine lv_iconst (v := 0) hx hb d_Md_run_20 (by decide) ?_
  refine lv_istore (lv' := [(4, .int 0), (0, .ref a), (1, .int (nI j)), (2, .int 5), (3, .int t)]) hx hb d_Md_run_21 hl (by decide) rfl (fun ls hl => ?_)
  exact key_23 16 0 se _ _ ls (by omega) hR hl hP hS
