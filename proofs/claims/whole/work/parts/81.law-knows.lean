/-! what the law's start knows (by wip/whole/gen/law3.py) -/
theorem kn_nest_0 : (.methodLinkNest "EditablePast" 15 ⟨"EditablePast$Collection", "<init>", "()V"⟩ "EditablePast" : Cond) ∈ lw_tbl := (List.mem_append_right _ (List.mem_of_getElem? (i := 33) (by decide +kernel)))
theorem kn_nest_1 : (.methodLinkNest "EditablePast$Collection" 17 ⟨"EditablePast$Line", "<init>", "()V"⟩ "EditablePast" : Cond) ∈ lw_tbl := (List.mem_append_right _ (List.mem_of_getElem? (i := 39) (by decide +kernel)))
theorem kn_nest_2 : (.methodLinkNest "EditablePast" 18 ⟨"EditablePast$Queue", "<init>", "()V"⟩ "EditablePast" : Cond) ∈ lw_tbl := (List.mem_append_right _ (List.mem_of_getElem? (i := 90) (by decide +kernel)))
theorem kn_nest_3 : (.methodLinkNest "EditablePast$Queue" 1 ⟨"EditablePast$Bag", "<init>", "()V"⟩ "EditablePast" : Cond) ∈ lw_tbl := (List.mem_append_right _ (List.mem_of_getElem? (i := 93) (by decide +kernel)))
theorem kn_nest_4 : (.methodLinkNest "EditablePast$Bag" 3 ⟨"EditablePast$Contents", "<init>", "()V"⟩ "EditablePast" : Cond) ∈ lw_tbl := (List.mem_append_right _ (List.mem_of_getElem? (i := 96) (by decide +kernel)))
theorem kn_nest_5 : (.methodLinkNest "EditablePast" 25 ⟨"EditablePast$Stack", "<init>", "()V"⟩ "EditablePast" : Cond) ∈ lw_tbl := (List.mem_append_right _ (List.mem_of_getElem? (i := 133) (by decide +kernel)))
theorem kn_nest_6 : (.methodLinkNest "EditablePast$Stack" 1 ⟨"EditablePast$Bag", "<init>", "()V"⟩ "EditablePast" : Cond) ∈ lw_tbl := (List.mem_append_right _ (List.mem_of_getElem? (i := 136) (by decide +kernel)))
theorem kn_nest_7 : (.methodLinkNest "EditablePast" 32 ⟨"EditablePast$Table", "<init>", "()V"⟩ "EditablePast" : Cond) ∈ lw_tbl := (List.mem_append_right _ (List.mem_of_getElem? (i := 144) (by decide +kernel)))
theorem kn_nest_8 : (.methodLinkNest "EditablePast$Table" 3 ⟨"EditablePast$Contents", "<init>", "()V"⟩ "EditablePast" : Cond) ∈ lw_tbl := (List.mem_append_right _ (List.mem_of_getElem? (i := 147) (by decide +kernel)))
theorem kn_nest_9 : (.methodLinkNest "EditablePast" 39 ⟨"EditablePast$Heap", "<init>", "()V"⟩ "EditablePast" : Cond) ∈ lw_tbl := (List.mem_append_right _ (List.mem_of_getElem? (i := 161) (by decide +kernel)))
theorem kn_nest_10 : (.methodLinkNest "EditablePast$Heap" 1 ⟨"EditablePast$Bag", "<init>", "()V"⟩ "EditablePast" : Cond) ∈ lw_tbl := (List.mem_append_right _ (List.mem_of_getElem? (i := 164) (by decide +kernel)))
theorem kn_nest_11 : (.methodLinkNest "EditablePast" 46 ⟨"EditablePast$Register", "<init>", "()V"⟩ "EditablePast" : Cond) ∈ lw_tbl := (List.mem_append_right _ (List.mem_of_getElem? (i := 172) (by decide +kernel)))
theorem kn_nest_12 : (.methodLinkNest "EditablePast$Register" 3 ⟨"EditablePast$Contents", "<init>", "()V"⟩ "EditablePast" : Cond) ∈ lw_tbl := (List.mem_append_right _ (List.mem_of_getElem? (i := 175) (by decide +kernel)))
theorem kn_nest_13 : (.methodLinkNest "EditablePast" 53 ⟨"EditablePast$Sets", "<init>", "()V"⟩ "EditablePast" : Cond) ∈ lw_tbl := (List.mem_append_right _ (List.mem_of_getElem? (i := 186) (by decide +kernel)))
theorem kn_nest_14 : (.methodLinkNest "EditablePast$Sets" 3 ⟨"EditablePast$Contents", "<init>", "()V"⟩ "EditablePast" : Cond) ∈ lw_tbl := (List.mem_append_right _ (List.mem_of_getElem? (i := 189) (by decide +kernel)))
theorem kn_nest_15 : (.methodLinkNest "EditablePast$Bag" 15 ⟨"EditablePast", "isValue", "(I)Z"⟩ "EditablePast" : Cond) ∈ lw_tbl := (List.mem_append_right _ (List.mem_of_getElem? (i := 368) (by decide +kernel)))
theorem kn_nest_16 : (.methodLinkNest "EditablePast$Sets" 15 ⟨"EditablePast", "isElement", "(I)Z"⟩ "EditablePast" : Cond) ∈ lw_tbl := (List.mem_append_right _ (List.mem_of_getElem? (i := 380) (by decide +kernel)))
theorem kn_nest_17 : (.methodLinkNest "EditablePast$Table" 22 ⟨"EditablePast", "isValue", "(I)Z"⟩ "EditablePast" : Cond) ∈ lw_tbl := (List.mem_append_right _ (List.mem_of_getElem? (i := 387) (by decide +kernel)))
theorem kn_nest {s : State} {b : Nat} (hts : ∀ w ∈ lw_tbl, w.before #[Value.ref b] s = true) : ∀ q ∈ nestq, va_Nw (.methodLinkNest q.1 q.2.1 q.2.2 "EditablePast") s := by
  unfold nestq
  exact List.forall_mem_cons.mpr ⟨va_Nw.of rfl (hts _ kn_nest_0), List.forall_mem_cons.mpr ⟨va_Nw.of rfl (hts _ kn_nest_1), List.forall_mem_cons.mpr ⟨va_Nw.of rfl (hts _ kn_nest_2), List.forall_mem_cons.mpr ⟨va_Nw.of rfl (hts _ kn_nest_3), List.forall_mem_cons.mpr ⟨va_Nw.of rfl (hts _ kn_nest_4), List.forall_mem_cons.mpr ⟨va_Nw.of rfl (hts _ kn_nest_5), List.forall_mem_cons.mpr ⟨va_Nw.of rfl (hts _ kn_nest_6), List.forall_mem_cons.mpr ⟨va_Nw.of rfl (hts _ kn_nest_7), List.forall_mem_cons.mpr ⟨va_Nw.of rfl (hts _ kn_nest_8), List.forall_mem_cons.mpr ⟨va_Nw.of rfl (hts _ kn_nest_9), List.forall_mem_cons.mpr ⟨va_Nw.of rfl (hts _ kn_nest_10), List.forall_mem_cons.mpr ⟨va_Nw.of rfl (hts _ kn_nest_11), List.forall_mem_cons.mpr ⟨va_Nw.of rfl (hts _ kn_nest_12), List.forall_mem_cons.mpr ⟨va_Nw.of rfl (hts _ kn_nest_13), List.forall_mem_cons.mpr ⟨va_Nw.of rfl (hts _ kn_nest_14), List.forall_mem_cons.mpr ⟨va_Nw.of rfl (hts _ kn_nest_15), List.forall_mem_cons.mpr ⟨va_Nw.of rfl (hts _ kn_nest_16), List.forall_mem_cons.mpr ⟨va_Nw.of rfl (hts _ kn_nest_17), fun _ h => absurd h List.not_mem_nil⟩⟩⟩⟩⟩⟩⟩⟩⟩⟩⟩⟩⟩⟩⟩⟩⟩⟩
theorem kn_decl_0 : (.declares ⟨"java/lang/RuntimeException", "<init>", "()V"⟩ : Cond) ∈ lw_tbl := (List.mem_append_right _ (List.mem_of_getElem? (i := 232) (by decide +kernel)))
theorem kn_decl_1 : (.declares ⟨"java/lang/RuntimeException", "<init>", "(Ljava/lang/String;)V"⟩ : Cond) ∈ lw_tbl := (List.mem_append_right _ (List.mem_of_getElem? (i := 233) (by decide +kernel)))
theorem kn_decl_2 : (.declares ⟨"java/lang/Exception", "<init>", "()V"⟩ : Cond) ∈ lw_tbl := (List.mem_append_right _ (List.mem_of_getElem? (i := 234) (by decide +kernel)))
theorem kn_decl_3 : (.declares ⟨"java/lang/Exception", "<init>", "(Ljava/lang/String;)V"⟩ : Cond) ∈ lw_tbl := (List.mem_append_right _ (List.mem_of_getElem? (i := 235) (by decide +kernel)))
theorem kn_decl_4 : (.declares ⟨"java/lang/Throwable", "<init>", "()V"⟩ : Cond) ∈ lw_tbl := (List.mem_append_right _ (List.mem_of_getElem? (i := 236) (by decide +kernel)))
theorem kn_decl_5 : (.declares ⟨"java/lang/Throwable", "<init>", "(Ljava/lang/String;)V"⟩ : Cond) ∈ lw_tbl := (List.mem_append_right _ (List.mem_of_getElem? (i := 237) (by decide +kernel)))
theorem kn_decl_6 : (.declares ⟨"EditablePast$Contents", "allows", "(III)Z"⟩ : Cond) ∈ lw_tbl := (List.mem_append_right _ (List.mem_of_getElem? (i := 363) (by decide +kernel)))
theorem kn_decl_7 : (.declares ⟨"EditablePast$Contents", "clear", "()V"⟩ : Cond) ∈ lw_tbl := (List.mem_append_right _ (List.mem_of_getElem? (i := 421) (by decide +kernel)))
theorem kn_decl_8 : (.declares ⟨"EditablePast$Contents", "perform", "(III)V"⟩ : Cond) ∈ lw_tbl := (List.mem_append_right _ (List.mem_of_getElem? (i := 438) (by decide +kernel)))
theorem kn_decl_9 : (.declares ⟨"EditablePast$Bag", "placeFor", "(I)I"⟩ : Cond) ∈ lw_tbl := (List.mem_append_right _ (List.mem_of_getElem? (i := 444) (by decide +kernel)))
theorem kn_decl_10 : (.declares ⟨"EditablePast$Contents", "noteEffect", "(J)V"⟩ : Cond) ∈ lw_tbl := (List.mem_append_right _ (List.mem_of_getElem? (i := 461) (by decide +kernel)))
theorem kn_decl_11 : (.declares ⟨"EditablePast$Contents", "noteNoEffect", "()V"⟩ : Cond) ∈ lw_tbl := (List.mem_append_right _ (List.mem_of_getElem? (i := 473) (by decide +kernel)))
theorem kn_decl {s : State} {b : Nat} (hts : ∀ w ∈ lw_tbl, w.before #[Value.ref b] s = true) : ∀ x ∈ declq, va_Nw (.declares x) s := by
  unfold declq
  exact List.forall_mem_cons.mpr ⟨va_Nw.of rfl (hts _ kn_decl_0), List.forall_mem_cons.mpr ⟨va_Nw.of rfl (hts _ kn_decl_1), List.forall_mem_cons.mpr ⟨va_Nw.of rfl (hts _ kn_decl_2), List.forall_mem_cons.mpr ⟨va_Nw.of rfl (hts _ kn_decl_3), List.forall_mem_cons.mpr ⟨va_Nw.of rfl (hts _ kn_decl_4), List.forall_mem_cons.mpr ⟨va_Nw.of rfl (hts _ kn_decl_5), List.forall_mem_cons.mpr ⟨va_Nw.of rfl (hts _ kn_decl_6), List.forall_mem_cons.mpr ⟨va_Nw.of rfl (hts _ kn_decl_7), List.forall_mem_cons.mpr ⟨va_Nw.of rfl (hts _ kn_decl_8), List.forall_mem_cons.mpr ⟨va_Nw.of rfl (hts _ kn_decl_9), List.forall_mem_cons.mpr ⟨va_Nw.of rfl (hts _ kn_decl_10), List.forall_mem_cons.mpr ⟨va_Nw.of rfl (hts _ kn_decl_11), fun _ h => absurd h List.not_mem_nil⟩⟩⟩⟩⟩⟩⟩⟩⟩⟩⟩⟩
theorem kn_cast_0 : (.castable "java/lang/IllegalArgumentException" "java/lang/IllegalArgumentException" : Cond) ∈ lw_tbl := (List.mem_append_right _ (List.mem_of_getElem? (i := 231) (by decide +kernel)))
theorem kn_cast_1 : (.castable "java/lang/IllegalStateException" "java/lang/IllegalStateException" : Cond) ∈ lw_tbl := (List.mem_append_right _ (List.mem_of_getElem? (i := 306) (by decide +kernel)))
theorem kn_cast_2 : (.castable "java/lang/UnsupportedOperationException" "java/lang/UnsupportedOperationException" : Cond) ∈ lw_tbl := (List.mem_append_right _ (List.mem_of_getElem? (i := 390) (by decide +kernel)))
theorem kn_cast_3 : (.castable "java/util/NoSuchElementException" "java/util/NoSuchElementException" : Cond) ∈ lw_tbl := (List.mem_append_right _ (List.mem_of_getElem? (i := 544) (by decide +kernel)))
theorem kn_cast_4 : (.castable "java/lang/IndexOutOfBoundsException" "java/lang/IndexOutOfBoundsException" : Cond) ∈ lw_tbl := (List.mem_append_right _ (List.mem_of_getElem? (i := 606) (by decide +kernel)))
theorem kn_cast {s : State} {b : Nat} (hts : ∀ w ∈ lw_tbl, w.before #[Value.ref b] s = true) : ∀ q ∈ castq, va_Nw (.castable q.1 q.2) s := by
  unfold castq
  exact List.forall_mem_cons.mpr ⟨va_Nw.of rfl (hts _ kn_cast_0), List.forall_mem_cons.mpr ⟨va_Nw.of rfl (hts _ kn_cast_1), List.forall_mem_cons.mpr ⟨va_Nw.of rfl (hts _ kn_cast_2), List.forall_mem_cons.mpr ⟨va_Nw.of rfl (hts _ kn_cast_3), List.forall_mem_cons.mpr ⟨va_Nw.of rfl (hts _ kn_cast_4), fun _ h => absurd h List.not_mem_nil⟩⟩⟩⟩⟩
theorem kn_priv_0 : (.privateMethod ⟨"EditablePast$Bag", "insert", "(II)V"⟩ : Cond) ∈ lw_tbl := (List.mem_append_right _ (List.mem_of_getElem? (i := 456) (by decide +kernel)))
theorem kn_priv_1 : (.privateMethod ⟨"EditablePast$Bag", "removeFirst", "()I"⟩ : Cond) ∈ lw_tbl := (List.mem_append_right _ (List.mem_of_getElem? (i := 468) (by decide +kernel)))
theorem kn_priv {s : State} {b : Nat} (hts : ∀ w ∈ lw_tbl, w.before #[Value.ref b] s = true) : ∀ x ∈ privq, va_Nw (.privateMethod x) s := by
  unfold privq
  exact List.forall_mem_cons.mpr ⟨va_Nw.of rfl (hts _ kn_priv_0), List.forall_mem_cons.mpr ⟨va_Nw.of rfl (hts _ kn_priv_1), fun _ h => absurd h List.not_mem_nil⟩⟩
theorem kn_str_0 : (.stringRef "EditablePast" 60 "there is no such kind" : Cond) ∈ lw_tbl := (List.mem_append_right _ (List.mem_of_getElem? (i := 272) (by decide +kernel)))
theorem kn_str_1 : (.stringRef "EditablePast" 223 "there is no such collection" : Cond) ∈ lw_tbl := (List.mem_append_right _ (List.mem_of_getElem? (i := 303) (by decide +kernel)))
theorem kn_str_2 : (.stringRef "EditablePast" 75 "the collection is open" : Cond) ∈ lw_tbl := (List.mem_append_right _ (List.mem_of_getElem? (i := 313) (by decide +kernel)))
theorem kn_str_3 : (.stringRef "EditablePast" 225 "the collection is not open" : Cond) ∈ lw_tbl := (List.mem_append_right _ (List.mem_of_getElem? (i := 331) (by decide +kernel)))
theorem kn_str_4 : (.stringRef "EditablePast" 228 "there is no such moment" : Cond) ∈ lw_tbl := (List.mem_append_right _ (List.mem_of_getElem? (i := 344) (by decide +kernel)))
theorem kn_str_5 : (.stringRef "EditablePast" 232 "the moment is taken" : Cond) ∈ lw_tbl := (List.mem_append_right _ (List.mem_of_getElem? (i := 356) (by decide +kernel)))
theorem kn_str_6 : (.stringRef "EditablePast" 101 "the line is full" : Cond) ∈ lw_tbl := (List.mem_append_right _ (List.mem_of_getElem? (i := 357) (by decide +kernel)))
theorem kn_str_7 : (.stringRef "EditablePast" 115 "the kind has no such operation" : Cond) ∈ lw_tbl := (List.mem_append_right _ (List.mem_of_getElem? (i := 397) (by decide +kernel)))
theorem kn_str_8 : (.stringRef "EditablePast" 234 "there is no operation at the moment" : Cond) ∈ lw_tbl := (List.mem_append_right _ (List.mem_of_getElem? (i := 551) (by decide +kernel)))
theorem kn_str_9 : (.stringRef "EditablePast" 230 "the call is not for collections of this kind" : Cond) ∈ lw_tbl := (List.mem_append_right _ (List.mem_of_getElem? (i := 574) (by decide +kernel)))
theorem kn_str_10 : (.stringRef "EditablePast" 158 "nothing is in" : Cond) ∈ lw_tbl := (List.mem_append_right _ (List.mem_of_getElem? (i := 579) (by decide +kernel)))
theorem kn_str_11 : (.stringRef "EditablePast" 169 "the key has no value" : Cond) ∈ lw_tbl := (List.mem_append_right _ (List.mem_of_getElem? (i := 595) (by decide +kernel)))
theorem kn_str_12 : (.stringRef "EditablePast" 175 "there are not so many values" : Cond) ∈ lw_tbl := (List.mem_append_right _ (List.mem_of_getElem? (i := 613) (by decide +kernel)))
theorem kn_str_13 : (.stringRef "EditablePast" 187 "there is no such element" : Cond) ∈ lw_tbl := (List.mem_append_right _ (List.mem_of_getElem? (i := 635) (by decide +kernel)))
theorem kn_str_14 : (.stringRef "EditablePast" 207 "an operation has no such number" : Cond) ∈ lw_tbl := (List.mem_append_right _ (List.mem_of_getElem? (i := 698) (by decide +kernel)))
theorem kn_str_15 : (.stringRef "EditablePast" 209 "the line has not so many operations" : Cond) ∈ lw_tbl := (List.mem_append_right _ (List.mem_of_getElem? (i := 699) (by decide +kernel)))
theorem kn_s {own tx : String} {k : Nat} {A : Array Value} {s : State} (h1 : (Cond.stringRef own k tx).before A s = true) (h2 : (Cond.exactly (.string own k) "java/lang/String").before A s = true) : ∃ a, vk_R own k tx a s := by
  obtain ⟨a, c, cA, kA, q1, -⟩ := Cond.exactly_spec (args := A) (first := s) (o := none) (s := s) (idx := []) (t := .string own k) (cls := "java/lang/String") h2
  exact ⟨a, vk_R.of h1 q1⟩
theorem kn_str {s : State} {b : Nat} (hts : ∀ w ∈ lw_tbl, w.before #[Value.ref b] s = true) (hgv : (Jvm.Cond.and given_1 narrow_1).before #[Value.ref b] s = true) : ∀ q ∈ strq, ∃ a, vk_R q.1 q.2.1 q.2.2 a s := by
  have hs := flat_of_before _ hgv
  unfold strq
  exact List.forall_mem_cons.mpr ⟨kn_s (hts _ kn_str_0) (hs _ (by decide +kernel)), List.forall_mem_cons.mpr ⟨kn_s (hts _ kn_str_1) (hs _ (by decide +kernel)), List.forall_mem_cons.mpr ⟨kn_s (hts _ kn_str_2) (hs _ (by decide +kernel)), List.forall_mem_cons.mpr ⟨kn_s (hts _ kn_str_3) (hs _ (by decide +kernel)), List.forall_mem_cons.mpr ⟨kn_s (hts _ kn_str_4) (hs _ (by decide +kernel)), List.forall_mem_cons.mpr ⟨kn_s (hts _ kn_str_5) (hs _ (by decide +kernel)), List.forall_mem_cons.mpr ⟨kn_s (hts _ kn_str_6) (hs _ (by decide +kernel)), List.forall_mem_cons.mpr ⟨kn_s (hts _ kn_str_7) (hs _ (by decide +kernel)), List.forall_mem_cons.mpr ⟨kn_s (hts _ kn_str_8) (hs _ (by decide +kernel)), List.forall_mem_cons.mpr ⟨kn_s (hts _ kn_str_9) (hs _ (by decide +kernel)), List.forall_mem_cons.mpr ⟨kn_s (hts _ kn_str_10) (hs _ (by decide +kernel)), List.forall_mem_cons.mpr ⟨kn_s (hts _ kn_str_11) (hs _ (by decide +kernel)), List.forall_mem_cons.mpr ⟨kn_s (hts _ kn_str_12) (hs _ (by decide +kernel)), List.forall_mem_cons.mpr ⟨kn_s (hts _ kn_str_13) (hs _ (by decide +kernel)), List.forall_mem_cons.mpr ⟨kn_s (hts _ kn_str_14) (hs _ (by decide +kernel)), List.forall_mem_cons.mpr ⟨kn_s (hts _ kn_str_15) (hs _ (by decide +kernel)), fun _ h => absurd h List.not_mem_nil⟩⟩⟩⟩⟩⟩⟩⟩⟩⟩⟩⟩⟩⟩⟩⟩
theorem law_nx {s : State} {b : Nat} (hgv : (Jvm.Cond.and given_1 narrow_1).before #[Value.ref b] s = true) : Nx s := by
  have hs := flat_of_before _ hgv
  unfold Nx ncq
  exact List.forall_mem_cons.mpr ⟨va_Nc.of (args := #[Value.ref b]) (hs _ (by decide +kernel)), List.forall_mem_cons.mpr ⟨va_Nc.of (args := #[Value.ref b]) (hs _ (by decide +kernel)), List.forall_mem_cons.mpr ⟨va_Nc.of (args := #[Value.ref b]) (hs _ (by decide +kernel)), List.forall_mem_cons.mpr ⟨va_Nc.of (args := #[Value.ref b]) (hs _ (by decide +kernel)), List.forall_mem_cons.mpr ⟨va_Nc.of (args := #[Value.ref b]) (hs _ (by decide +kernel)), List.forall_mem_cons.mpr ⟨va_Nc.of (args := #[Value.ref b]) (hs _ (by decide +kernel)), List.forall_mem_cons.mpr ⟨va_Nc.of (args := #[Value.ref b]) (hs _ (by decide +kernel)), fun _ h => absurd h List.not_mem_nil⟩⟩⟩⟩⟩⟩⟩
theorem kn_ao : (.arrayOver (.object "EditablePast$Collection") : Cond) ∈ lw_tbl := (List.mem_append_right _ (List.mem_of_getElem? (i := 31) (by decide +kernel)))
theorem kn_l1 : (.laysStatic Bundle.tN "UNASSIGNED_STACK" Bundle.steD : Cond) ∈ lw_tbl := (List.mem_append_right _ (List.mem_of_getElem? (i := 256) (by decide +kernel)))
theorem kn_l2 : (.laysStatic Bundle.tN "SUPPRESSED_SENTINEL" Bundle.listD : Cond) ∈ lw_tbl := (List.mem_append_right _ (List.mem_of_getElem? (i := 258) (by decide +kernel)))
theorem law_zs {s : State} {b : Nat} (hts : ∀ w ∈ lw_tbl, w.before #[Value.ref b] s = true) (hg : ∀ w ∈ gt, w.before #[Value.ref b] s = true) (hgv : (Jvm.Cond.and given_1 narrow_1).before #[Value.ref b] s = true) : Zs (fun q => s.heap.size ≤ q) s s.heap := by
  have hs := flat_of_before _ hgv
  exact ⟨vx_Zqof (hts _ kn_l1) (hg _ tw_13) (hs _ (by decide +kernel)) (fun a h => Nat.not_le.mpr h), vx_Zqof (hts _ kn_l2) (hg _ tw_13) (hs _ (by decide +kernel)) (fun a h => Nat.not_le.mpr h)⟩
theorem law_knows {s : State} {b : Nat} (hts : ∀ w ∈ lw_tbl, w.before #[Value.ref b] s = true) (hg : ∀ w ∈ gt, w.before #[Value.ref b] s = true) (hgv : (Jvm.Cond.and given_1 narrow_1).before #[Value.ref b] s = true) : ∃ (D : va_G) (cI cJ cZ cO : ClassId), Kn D cI cJ cZ cO s ∧ va_AO "EditablePast$Collection" s := by
  obtain ⟨c0, i0, h0⟩ := u_known hg in_Co (hg _ tw_32)
  obtain ⟨c1, i1, h1⟩ := u_known hg in_Li (hg _ tw_38)
  obtain ⟨c2, i2, h2⟩ := u_known hg in_Qu (hg _ tw_89)
  obtain ⟨c3, i3, h3⟩ := u_known hg in_St (hg _ tw_132)
  obtain ⟨c4, i4, h4⟩ := u_known hg in_He (hg _ tw_160)
  obtain ⟨c5, i5, h5⟩ := u_known hg in_Ta (hg _ tw_143)
  obtain ⟨c6, i6, h6⟩ := u_known hg in_Re (hg _ tw_171)
  obtain ⟨c7, i7, h7⟩ := u_known hg in_Se (hg _ tw_185)
  obtain ⟨c8, i8, h8⟩ := u_known hg in_EP (hg _ tw_23)
  obtain ⟨c9, i9, h9⟩ := u_known hg in_Md (hg _ tw_701)
  obtain ⟨cI, kI, pI, I1, I2, I3⟩ := Cond.arrayClass_spec (hg _ tw_72)
  obtain ⟨cJ, kJ, pJ, J1, J2, J3⟩ := Cond.arrayClass_spec (hg _ tw_73)
  obtain ⟨cZ, kZ, pZ, Z1, Z2, Z3⟩ := Cond.arrayClass_spec (hg _ tw_74)
  have hAO : va_AO "EditablePast$Collection" s := va_AO.of (hts _ kn_ao)
  obtain ⟨pO, cO, kO, O1, O2, O3, O4, O5⟩ := Cond.arrayOver_spec hAO
  refine ⟨(fun k => [c0, c1, c2, c3, c4, c5, c6, c7, c8, c9].getD k c0, fun k => [i0, i1, i2, i3, i4, i5, i6, i7, i8, i9].getD k i0), cI, cJ, cZ, cO, ⟨⟨fun k q hk => ?_, fun k q hk => ?_⟩, kn_nest hts, kn_decl hts, kn_cast hts, kn_priv hts, kn_str hts hgv⟩, hAO⟩
  · have hk9 : k < 10 := (List.getElem?_eq_some_iff.mp hk).1
    rcases (show k = 0 ∨ k = 1 ∨ k = 2 ∨ k = 3 ∨ k = 4 ∨ k = 5 ∨ k = 6 ∨ k = 7 ∨ k = 8 ∨ k = 9 by omega) with rfl | rfl | rfl | rfl | rfl | rfl | rfl | rfl | rfl | rfl
    · obtain rfl : (R_Co, F_Co, 3) = q := Option.some.inj hk
      exact h0
    · obtain rfl : (R_Li, F_Li, 7) = q := Option.some.inj hk
      exact h1
    · obtain rfl : (R_Qu, F_Qu, 4) = q := Option.some.inj hk
      exact h2
    · obtain rfl : (R_St, F_St, 4) = q := Option.some.inj hk
      exact h3
    · obtain rfl : (R_He, F_He, 4) = q := Option.some.inj hk
      exact h4
    · obtain rfl : (R_Ta, F_Ta, 5) = q := Option.some.inj hk
      exact h5
    · obtain rfl : (R_Re, F_Re, 4) = q := Option.some.inj hk
      exact h6
    · obtain rfl : (R_Se, F_Se, 4) = q := Option.some.inj hk
      exact h7
    · obtain rfl : (R_EP, F_EP, 7) = q := Option.some.inj hk
      exact h8
    · obtain rfl : (R_Md, F_Md, 17) = q := Option.some.inj hk
      exact h9
  · have hk9 : k < 4 := (List.getElem?_eq_some_iff.mp hk).1
    rcases (show k = 0 ∨ k = 1 ∨ k = 2 ∨ k = 3 by omega) with rfl | rfl | rfl | rfl
    · obtain rfl : (cI, .int) = q := Option.some.inj hk
      exact ⟨fun n z => ⟨fun k h => (by cases h), kI, I2, pI, I3⟩, I1⟩
    · obtain rfl : (cJ, .long) = q := Option.some.inj hk
      exact ⟨fun n z => ⟨fun k h => (by cases h), kJ, J2, pJ, J3⟩, J1⟩
    · obtain rfl : (cZ, .boolean) = q := Option.some.inj hk
      exact ⟨fun n z => ⟨fun k h => (by cases h), kZ, Z2, pZ, Z3⟩, Z1⟩
    · obtain rfl : (cO, .object "EditablePast$Collection") = q := Option.some.inj hk
      exact ⟨fun n z => ⟨fun k h => (by cases h), kO, O3, pO, O4⟩, kO, pO, O3, O4, O1, O5⟩
