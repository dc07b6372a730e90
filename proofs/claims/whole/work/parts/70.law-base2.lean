/-! the reference's state as one value; the law's cases (by wip/whole/gen/lawloop.py) -/
abbrev MT : Type := Int32 × (Nat → Int32) × (Nat → Int32) × (Nat → Int32) × (Nat → Int32) × (Nat → Int32) × (Nat → Int32) × (Nat → Int32) × Int32 × (Nat → Int32) × (Nat → Int32) × (Nat → Int32) × Int64 × (Nat → Int64) × (Nat → Int32) × (Nat → Int64) × (Nat → Int32)
abbrev wMt (cI cJ cZ : ClassId) (a : Nat) (M : MT) : va_W := wMo cI cJ cZ a M.1 M.2.1 M.2.2.1 M.2.2.2.1 M.2.2.2.2.1 M.2.2.2.2.2.1 M.2.2.2.2.2.2.1 M.2.2.2.2.2.2.2.1 M.2.2.2.2.2.2.2.2.1 M.2.2.2.2.2.2.2.2.2.1 M.2.2.2.2.2.2.2.2.2.2.1 M.2.2.2.2.2.2.2.2.2.2.2.1 M.2.2.2.2.2.2.2.2.2.2.2.2.1 M.2.2.2.2.2.2.2.2.2.2.2.2.2.1 M.2.2.2.2.2.2.2.2.2.2.2.2.2.2.1 M.2.2.2.2.2.2.2.2.2.2.2.2.2.2.2.1 M.2.2.2.2.2.2.2.2.2.2.2.2.2.2.2.2
abbrev M_code (M : MT) : Int32 := M.1
abbrev M_kn (M : MT) : Nat → Int32 := M.2.1
abbrev M_ed (M : MT) : Nat → Int32 := M.2.2.1
abbrev M_ct (M : MT) : Nat → Int32 := M.2.2.2.1
abbrev M_ti (M : MT) : Nat → Int32 := M.2.2.2.2.1
abbrev M_nm (M : MT) : Nat → Int32 := M.2.2.2.2.2.1
abbrev M_xa (M : MT) : Nat → Int32 := M.2.2.2.2.2.2.1
abbrev M_xb (M : MT) : Nat → Int32 := M.2.2.2.2.2.2.2.1
abbrev M_ma (M : MT) : Int32 := M.2.2.2.2.2.2.2.2.1
abbrev M_it (M : MT) : Nat → Int32 := M.2.2.2.2.2.2.2.2.2.1
abbrev M_vs (M : MT) : Nat → Int32 := M.2.2.2.2.2.2.2.2.2.2.1
abbrev M_se (M : MT) : Nat → Int32 := M.2.2.2.2.2.2.2.2.2.2.2.1
abbrev M_sm (M : MT) : Int64 := M.2.2.2.2.2.2.2.2.2.2.2.2.1
abbrev M_rs (M : MT) : Nat → Int64 := M.2.2.2.2.2.2.2.2.2.2.2.2.2.1
abbrev M_wk (M : MT) : Nat → Int32 := M.2.2.2.2.2.2.2.2.2.2.2.2.2.2.1
abbrev M_ors (M : MT) : Nat → Int64 := M.2.2.2.2.2.2.2.2.2.2.2.2.2.2.2.1
abbrev M_owk (M : MT) : Nat → Int32 := M.2.2.2.2.2.2.2.2.2.2.2.2.2.2.2.2
/-- a call of the reference -/
def MS (l : Launch) (D : va_G) (cI cJ cZ cO : ClassId) (a : Nat) (y : MethodName) (k : Cond) (rm : Room) (av : List Value) (v : Option Value) (M M1 : MT) : Prop :=
  Met l y (k :: gt) rm (Pc0 D cI cJ cZ cO av (fun H => va_P D cls (wMt cI cJ cZ a M) H)) (Qd (blk a 15) v (fun H => va_P D cls (wMt cI cJ cZ a M1) H)) 0 0 (blk a 15)
/-- what lies in the heap between two calls: the object at o, the reference behind it, the law's own long -/
def LI (D : va_G) (cI cJ cZ cO : ClassId) (o : Nat) (C : Nat → CoT) (M : MT) (fo : Nat → Int64) (H : Heap) : Prop := PC D cI cJ cZ cO o C H ∧ va_P D cls (wMt cI cJ cZ (o + 74) M) H ∧ va_P D cls (wOut cJ (o + 89) fo) H
theorem ep_sld {p : Program} {l : Launch} {e : Env} {R : Room} {s : State} {m : MethodId} {args : Array Value} {below : List Frame} {meth : Method} {c : Code} {H H0 : Heap} {locs : List Loc} {cells slots : Nat} {Q : State → Prop} {cc : ByteArray} {pc : Nat} {ls : Array Slot} {rest : List Value} {A : Nat → Prop} {b L : Nat} {xs : Nat → Int32} (hx : p.tables.exec = Jvm.exec) (hb : c.code = cc) (hX : va_X b L xs s H0) (hbl : b < H0.size) (hbA : ¬ A b) (hS : va_S A H0 H locs) {i : Nat} (hi : i < L) (hL : L < 2 ^ 31) (hdg : decode cc pc = .ok (.iaload, 1))
    (kk : W p l e R s m args below meth c H locs cells slots Q (F0 m (pc + 1) ls (.int (xs i) :: rest))) : W p l e R s m args below meth c H locs cells slots Q (F0 m pc ls (.int (nI i) :: .ref b :: rest)) := by
  refine va_sld hx hb hX hbl hbA hS (vp_in_nI hi hL) hdg ?_
  rw [nI_clamp (Nat.lt_trans hi hL)]
  exact kk
theorem ep_cwX {R : Room} {s : State} {args : Array Value} {own : String} {index maxL mc ms : Nat} {y : MethodName} {bytes : ByteArray} {ret : Option FieldType} {hh : List (Nat × Nat × Nat × Nat)} {rm : Room} (n : Nat) (hg : ∀ w ∈ gt, w.before args s = true) (m1 : Cond.methodLink own index y ∈ gt) (m2 : Cond.static y ∈ gt) (m4 : Cond.initialized y.cls ∈ gt) (m5 : Cond.codeWith y bytes maxL ret hh ∈ gt) (hrc : rm.cells = mc) (hrs : rm.slots = ms)
    (hd : y.cls ≠ "java/lang/invoke/MethodHandle" ∧ y.cls ≠ "java/lang/invoke/VarHandle" ∧ (parseMethodDescriptor y.desc).map (fun d => d.parameters.length) = some n) (hR : rm.frames + 1 ≤ R.frames ∧ 8 + (maxL + 11) + rm.locals ≤ R.locals) :
    vx_CSW R s args own index y bytes maxL ret hh (Cond.codeWith y bytes maxL ret hh :: gt) rm mc ms n :=
  vx_cwSW n hg (gd_of (gd_app (gd_cons m1 (gd_cons m2 (gd_cons m4 gd_nil))) (gd_c m5))) rfl hrc hrs hd hR
/-- open, on both sides -/
def OP_open (l : Launch) (D : va_G) (cI cJ cZ cO : ClassId) (o : Nat) (Iv : (Nat → CoT) → MT → Prop) (M : MT) (H : Heap) (a0 a1 : Int32) : Prop :=
  ∃ (kap : Nat) (C1 : Nat → CoT) (M1 : MT), kap ≤ 2 ∧ CS l D cI cJ cZ cO o y_EP_open k_EP_open rx_EP_open [.ref o, .int a0, .int a1] E_NSE none kap C1 H ∧ MS l D cI cJ cZ cO (o + 74) y_Md_open k_Md_open rm_Md_open [.ref (o + 74), .int a0, .int a1] none M M1 ∧ M_code M1 = nI kap ∧ Iv C1 M1
/-- close, on both sides -/
def OP_close (l : Launch) (D : va_G) (cI cJ cZ cO : ClassId) (o : Nat) (Iv : (Nat → CoT) → MT → Prop) (M : MT) (H : Heap) (a0 : Int32) : Prop :=
  ∃ (kap : Nat) (r r1 : Int32) (C1 : Nat → CoT) (M1 : MT), kap ≤ 2 ∧ CS l D cI cJ cZ cO o y_EP_close k_EP_close rx_EP_close [.ref o, .int a0] E_NSE (some (.int r)) kap C1 H ∧ MS l D cI cJ cZ cO (o + 74) y_Md_close k_Md_close rm_Md_close [.ref (o + 74), .int a0] (some (.int r1)) M M1 ∧ M_code M1 = nI kap ∧ (kap = 0 → r = r1) ∧ Iv C1 M1
/-- put, on both sides -/
def OP_put (l : Launch) (D : va_G) (cI cJ cZ cO : ClassId) (o : Nat) (Iv : (Nat → CoT) → MT → Prop) (M : MT) (H : Heap) (a0 a1 a2 a3 a4 : Int32) : Prop :=
  ∃ (kap : Nat) (C1 : Nat → CoT) (M1 : MT), kap ≤ 3 ∧ CS l D cI cJ cZ cO o y_EP_put k_EP_put rx_EP_put [.ref o, .int a0, .int a1, .int a2, .int a3, .int a4] E_UOE none kap C1 H ∧ MS l D cI cJ cZ cO (o + 74) y_Md_put k_Md_put rm_Md_put [.ref (o + 74), .int a0, .int a1, .int a2, .int a3, .int a4] none M M1 ∧ M_code M1 = nI kap ∧ Iv C1 M1
/-- strike, on both sides -/
def OP_strike (l : Launch) (D : va_G) (cI cJ cZ cO : ClassId) (o : Nat) (Iv : (Nat → CoT) → MT → Prop) (M : MT) (H : Heap) (a0 a1 : Int32) : Prop :=
  ∃ (kap : Nat) (r r1 : Int32) (C1 : Nat → CoT) (M1 : MT), kap ≤ 2 ∧ CS l D cI cJ cZ cO o y_EP_strike k_EP_strike rx_EP_strike [.ref o, .int a0, .int a1] E_NSE (some (.int r)) kap C1 H ∧ MS l D cI cJ cZ cO (o + 74) y_Md_strike k_Md_strike rm_Md_strike [.ref (o + 74), .int a0, .int a1] (some (.int r1)) M M1 ∧ M_code M1 = nI kap ∧ (r = 0 ∨ r = 1) ∧ (kap = 0 → r = r1) ∧ Iv C1 M1
/-- shift, on both sides -/
def OP_shift (l : Launch) (D : va_G) (cI cJ cZ cO : ClassId) (o : Nat) (Iv : (Nat → CoT) → MT → Prop) (M : MT) (H : Heap) (a0 a1 a2 : Int32) : Prop :=
  ∃ (kap : Nat) (C1 : Nat → CoT) (M1 : MT), kap ≤ 3 ∧ CS l D cI cJ cZ cO o y_EP_shift k_EP_shift rx_EP_shift [.ref o, .int a0, .int a1, .int a2] E_NSE none kap C1 H ∧ MS l D cI cJ cZ cO (o + 74) y_Md_shift k_Md_shift rm_Md_shift [.ref (o + 74), .int a0, .int a1, .int a2] none M M1 ∧ M_code M1 = nI kap ∧ Iv C1 M1
/-- front, on both sides -/
def OP_front (l : Launch) (D : va_G) (cI cJ cZ cO : ClassId) (o : Nat) (Iv : (Nat → CoT) → MT → Prop) (M : MT) (H : Heap) (a0 a1 : Int32) : Prop :=
  ∃ (kap : Nat) (r r1 : Int32) (C1 : Nat → CoT) (M1 : MT), kap ≤ 3 ∧ CS l D cI cJ cZ cO o y_EP_front k_EP_front rx_EP_front [.ref o, .int a0, .int a1] E_NSE (some (.int r)) kap C1 H ∧ MS l D cI cJ cZ cO (o + 74) y_Md_front k_Md_front rm_Md_front [.ref (o + 74), .int a0, .int a1] (some (.int r1)) M M1 ∧ M_code M1 = nI kap ∧ (kap = 0 → r = r1) ∧ Iv C1 M1
/-- size, on both sides -/
def OP_size (l : Launch) (D : va_G) (cI cJ cZ cO : ClassId) (o : Nat) (Iv : (Nat → CoT) → MT → Prop) (M : MT) (H : Heap) (a0 a1 : Int32) : Prop :=
  ∃ (kap : Nat) (r r1 : Int32) (C1 : Nat → CoT) (M1 : MT), kap ≤ 2 ∧ CS l D cI cJ cZ cO o y_EP_size k_EP_size rx_EP_size [.ref o, .int a0, .int a1] E_NSE (some (.int r)) kap C1 H ∧ MS l D cI cJ cZ cO (o + 74) y_Md_size k_Md_size rm_Md_size [.ref (o + 74), .int a0, .int a1] (some (.int r1)) M M1 ∧ M_code M1 = nI kap ∧ (kap = 0 → r = r1) ∧ Iv C1 M1
/-- at, on both sides -/
def OP_at (l : Launch) (D : va_G) (cI cJ cZ cO : ClassId) (o : Nat) (Iv : (Nat → CoT) → MT → Prop) (M : MT) (H : Heap) (a0 a1 a2 : Int32) : Prop :=
  ∃ (kap : Nat) (r r1 : Int32) (C1 : Nat → CoT) (M1 : MT), kap ≤ 3 ∧ CS l D cI cJ cZ cO o y_EP_at k_EP_at rx_EP_at [.ref o, .int a0, .int a1, .int a2] E_NSE (some (.int r)) kap C1 H ∧ MS l D cI cJ cZ cO (o + 74) y_Md_at k_Md_at rm_Md_at [.ref (o + 74), .int a0, .int a1, .int a2] (some (.int r1)) M M1 ∧ M_code M1 = nI kap ∧ (kap = 0 → r = r1) ∧ Iv C1 M1
/-- least, on both sides -/
def OP_least (l : Launch) (D : va_G) (cI cJ cZ cO : ClassId) (o : Nat) (Iv : (Nat → CoT) → MT → Prop) (M : MT) (H : Heap) (a0 a1 a2 : Int32) : Prop :=
  ∃ (kap : Nat) (r r1 : Int32) (C1 : Nat → CoT) (M1 : MT), kap ≤ 3 ∧ CS l D cI cJ cZ cO o y_EP_least k_EP_least rx_EP_least [.ref o, .int a0, .int a1, .int a2] E_IOB (some (.int r)) kap C1 H ∧ MS l D cI cJ cZ cO (o + 74) y_Md_least k_Md_least rm_Md_least [.ref (o + 74), .int a0, .int a1, .int a2] (some (.int r1)) M M1 ∧ M_code M1 = nI kap ∧ (kap = 0 → r = r1) ∧ Iv C1 M1
/-- sum, on both sides -/
def OP_sum (l : Launch) (D : va_G) (cI cJ cZ cO : ClassId) (o : Nat) (Iv : (Nat → CoT) → MT → Prop) (M : MT) (H : Heap) (a0 a1 : Int32) : Prop :=
  ∃ (kap : Nat) (r r1 : Int64) (C1 : Nat → CoT) (M1 : MT), kap ≤ 2 ∧ CS l D cI cJ cZ cO o y_EP_sum k_EP_sum rx_EP_sum [.ref o, .int a0, .int a1] E_NSE (some (.long r)) kap C1 H ∧ MS l D cI cJ cZ cO (o + 74) y_Md_sum k_Md_sum rm_Md_sum [.ref (o + 74), .int a0, .int a1] (some (.long r1)) M M1 ∧ M_code M1 = nI kap ∧ (kap = 0 → r = r1) ∧ Iv C1 M1
/-- together, on both sides -/
def OP_together (l : Launch) (D : va_G) (cI cJ cZ cO : ClassId) (o : Nat) (Iv : (Nat → CoT) → MT → Prop) (M : MT) (H : Heap) (a0 a1 a2 a3 : Int32) : Prop :=
  ∃ (kap : Nat) (r r1 : Int32) (C1 : Nat → CoT) (M1 : MT), kap ≤ 2 ∧ CS l D cI cJ cZ cO o y_EP_together k_EP_together rx_EP_together [.ref o, .int a0, .int a1, .int a2, .int a3] E_NSE (some (.int r)) kap C1 H ∧ MS l D cI cJ cZ cO (o + 74) y_Md_together k_Md_together rm_Md_together [.ref (o + 74), .int a0, .int a1, .int a2, .int a3] (some (.int r1)) M M1 ∧ M_code M1 = nI kap ∧ (r = 0 ∨ r = 1) ∧ (kap = 0 → r = r1) ∧ Iv C1 M1
/-- result, on both sides -/
def OP_result (l : Launch) (D : va_G) (cI cJ cZ cO : ClassId) (o : Nat) (Iv : (Nat → CoT) → MT → Prop) (M : MT) (H : Heap) (a0 a1 : Int32) : Prop :=
  ∃ (kap : Nat) (r r1 : Int64) (C1 : Nat → CoT) (M1 : MT), kap ≤ 3 ∧ CS l D cI cJ cZ cO o y_EP_result k_EP_result rx_EP_result [.ref o, .int a0, .int a1] E_NSE (some (.long r)) kap C1 H ∧ MS l D cI cJ cZ cO (o + 74) y_Md_result k_Md_result rm_Md_result [.ref (o + 74), .int a0, .int a1] (some (.long r1)) M M1 ∧ M_code M1 = nI kap ∧ (kap = 0 → r = r1) ∧ Iv C1 M1
/-- works, on both sides -/
def OP_works (l : Launch) (D : va_G) (cI cJ cZ cO : ClassId) (o : Nat) (Iv : (Nat → CoT) → MT → Prop) (M : MT) (H : Heap) (a0 a1 : Int32) : Prop :=
  ∃ (kap : Nat) (r r1 : Int32) (C1 : Nat → CoT) (M1 : MT), kap ≤ 3 ∧ CS l D cI cJ cZ cO o y_EP_works k_EP_works rx_EP_works [.ref o, .int a0, .int a1] E_NSE (some (.int r)) kap C1 H ∧ MS l D cI cJ cZ cO (o + 74) y_Md_works k_Md_works rm_Md_works [.ref (o + 74), .int a0, .int a1] (some (.int r1)) M M1 ∧ M_code M1 = nI kap ∧ (r = 0 ∨ r = 1) ∧ (kap = 0 → r = r1) ∧ Iv C1 M1
/-- effective, on both sides -/
def OP_effective (l : Launch) (D : va_G) (cI cJ cZ cO : ClassId) (o : Nat) (Iv : (Nat → CoT) → MT → Prop) (M : MT) (H : Heap) (a0 a1 a2 : Int32) : Prop :=
  ∃ (kap : Nat) (r r1 : Int32) (C1 : Nat → CoT) (M1 : MT), kap ≤ 2 ∧ CS l D cI cJ cZ cO o y_EP_effective k_EP_effective rx_EP_effective [.ref o, .int a0, .int a1, .int a2] E_NSE (some (.int r)) kap C1 H ∧ MS l D cI cJ cZ cO (o + 74) y_Md_effective k_Md_effective rm_Md_effective [.ref (o + 74), .int a0, .int a1, .int a2] (some (.int r1)) M M1 ∧ M_code M1 = nI kap ∧ (kap = 0 → r = r1) ∧ Iv C1 M1
/-- firstChange, on both sides -/
def OP_firstChange (l : Launch) (D : va_G) (cI cJ cZ cO : ClassId) (o : Nat) (Iv : (Nat → CoT) → MT → Prop) (M : MT) (H : Heap) (a0 a1 a2 : Int32) : Prop :=
  ∃ (kap : Nat) (r r1 : Int32) (C1 : Nat → CoT) (M1 : MT), kap ≤ 2 ∧ CS l D cI cJ cZ cO o y_EP_firstChange k_EP_firstChange rx_EP_firstChange [.ref o, .int a0, .int a1, .int a2] E_NSE (some (.int r)) kap C1 H ∧ MS l D cI cJ cZ cO (o + 74) y_Md_firstChange k_Md_firstChange rm_Md_firstChange [.ref (o + 74), .int a0, .int a1, .int a2] (some (.int r1)) M M1 ∧ M_code M1 = nI kap ∧ (kap = 0 → r = r1) ∧ Iv C1 M1
/-- operations, on both sides -/
def OP_operations (l : Launch) (D : va_G) (cI cJ cZ cO : ClassId) (o : Nat) (Iv : (Nat → CoT) → MT → Prop) (M : MT) (H : Heap) (a0 : Int32) : Prop :=
  ∃ (kap : Nat) (r r1 : Int32) (C1 : Nat → CoT) (M1 : MT), kap ≤ 2 ∧ CS l D cI cJ cZ cO o y_EP_operations k_EP_operations rx_EP_operations [.ref o, .int a0] E_NSE (some (.int r)) kap C1 H ∧ MS l D cI cJ cZ cO (o + 74) y_Md_operations k_Md_operations rm_Md_operations [.ref (o + 74), .int a0] (some (.int r1)) M M1 ∧ M_code M1 = nI kap ∧ (kap = 0 → r = r1) ∧ Iv C1 M1
/-- operation, on both sides -/
def OP_operation (l : Launch) (D : va_G) (cI cJ cZ cO : ClassId) (o : Nat) (Iv : (Nat → CoT) → MT → Prop) (M : MT) (H : Heap) (a0 a1 a2 : Int32) : Prop :=
  ∃ (kap : Nat) (r r1 : Int32) (C1 : Nat → CoT) (M1 : MT), kap ≤ 3 ∧ CS l D cI cJ cZ cO o y_EP_operation k_EP_operation rx_EP_operation [.ref o, .int a0, .int a1, .int a2] E_IOB (some (.int r)) kap C1 H ∧ MS l D cI cJ cZ cO (o + 74) y_Md_operation k_Md_operation rm_Md_operation [.ref (o + 74), .int a0, .int a1, .int a2] (some (.int r1)) M M1 ∧ M_code M1 = nI kap ∧ (kap = 0 → r = r1) ∧ Iv C1 M1
