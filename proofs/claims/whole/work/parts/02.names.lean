/-! names, by program (wip/whole/gen/names.py): classes and fields, the good words of the tables, methods -/
def gt : List Cond := lw_tbl.filter goodWord
theorem gt_tab {w : Cond} (h : w ∈ tables_1) (g : goodWord w = true) : w ∈ gt := List.mem_filter.mpr ⟨List.mem_append_right _ h, g⟩
theorem gt_sel {w : Cond} (h : w ∈ k2_sels lw_privs) (g : goodWord w = true) : w ∈ gt := List.mem_filter.mpr ⟨List.mem_append_left _ h, g⟩
theorem gt_good {w : Cond} (h : w ∈ gt) : goodWord w = true := (List.mem_filter.mp h).2
theorem gt_lw {w : Cond} (h : w ∈ gt) : w ∈ lw_tbl := (List.mem_filter.mp h).1
abbrev R_EP : String := "EditablePast"
abbrev R_Co : String := "EditablePast$Collection"
abbrev R_Li : String := "EditablePast$Line"
abbrev R_Ct : String := "EditablePast$Contents"
abbrev R_Ba : String := "EditablePast$Bag"
abbrev R_Qu : String := "EditablePast$Queue"
abbrev R_St : String := "EditablePast$Stack"
abbrev R_He : String := "EditablePast$Heap"
abbrev R_Ta : String := "EditablePast$Table"
abbrev R_Re : String := "EditablePast$Register"
abbrev R_Se : String := "EditablePast$Sets"
abbrev R_Md : String := "EditablePastModel"
abbrev R_Lw : String := "EditablePastLaw"
abbrev R_Ma : String := "java/lang/Math"
abbrev R_Ob : String := "java/lang/Object"
theorem tw_0 : (.initialized "EditablePastLaw" : Cond) ∈ gt := gt_tab (List.mem_of_getElem? (i := 0) (by decide +kernel)) (by decide +kernel)
theorem tw_1 : (.initialized "EditablePast" : Cond) ∈ gt := gt_tab (List.mem_of_getElem? (i := 1) (by decide +kernel)) (by decide +kernel)
theorem tw_2 : (.initialized "EditablePast$Collection" : Cond) ∈ gt := gt_tab (List.mem_of_getElem? (i := 2) (by decide +kernel)) (by decide +kernel)
theorem tw_3 : (.initialized "EditablePast$Line" : Cond) ∈ gt := gt_tab (List.mem_of_getElem? (i := 3) (by decide +kernel)) (by decide +kernel)
theorem tw_4 : (.initialized "EditablePast$Contents" : Cond) ∈ gt := gt_tab (List.mem_of_getElem? (i := 4) (by decide +kernel)) (by decide +kernel)
theorem tw_5 : (.initialized "EditablePast$Bag" : Cond) ∈ gt := gt_tab (List.mem_of_getElem? (i := 5) (by decide +kernel)) (by decide +kernel)
theorem tw_6 : (.initialized "EditablePast$Queue" : Cond) ∈ gt := gt_tab (List.mem_of_getElem? (i := 6) (by decide +kernel)) (by decide +kernel)
theorem tw_7 : (.initialized "EditablePast$Stack" : Cond) ∈ gt := gt_tab (List.mem_of_getElem? (i := 7) (by decide +kernel)) (by decide +kernel)
theorem tw_8 : (.initialized "EditablePast$Table" : Cond) ∈ gt := gt_tab (List.mem_of_getElem? (i := 8) (by decide +kernel)) (by decide +kernel)
theorem tw_9 : (.initialized "EditablePast$Heap" : Cond) ∈ gt := gt_tab (List.mem_of_getElem? (i := 9) (by decide +kernel)) (by decide +kernel)
theorem tw_10 : (.initialized "EditablePast$Register" : Cond) ∈ gt := gt_tab (List.mem_of_getElem? (i := 10) (by decide +kernel)) (by decide +kernel)
theorem tw_11 : (.initialized "EditablePast$Sets" : Cond) ∈ gt := gt_tab (List.mem_of_getElem? (i := 11) (by decide +kernel)) (by decide +kernel)
theorem tw_12 : (.initialized "EditablePastModel" : Cond) ∈ gt := gt_tab (List.mem_of_getElem? (i := 12) (by decide +kernel)) (by decide +kernel)
theorem tw_13 : (.initialized "java/lang/Throwable" : Cond) ∈ gt := gt_tab (List.mem_of_getElem? (i := 13) (by decide +kernel)) (by decide +kernel)
theorem tw_14 : (.initialized "java/lang/Exception" : Cond) ∈ gt := gt_tab (List.mem_of_getElem? (i := 14) (by decide +kernel)) (by decide +kernel)
theorem tw_15 : (.initialized "java/lang/RuntimeException" : Cond) ∈ gt := gt_tab (List.mem_of_getElem? (i := 15) (by decide +kernel)) (by decide +kernel)
theorem tw_16 : (.initialized "java/lang/IllegalArgumentException" : Cond) ∈ gt := gt_tab (List.mem_of_getElem? (i := 16) (by decide +kernel)) (by decide +kernel)
theorem tw_17 : (.initialized "java/lang/IllegalStateException" : Cond) ∈ gt := gt_tab (List.mem_of_getElem? (i := 17) (by decide +kernel)) (by decide +kernel)
theorem tw_18 : (.initialized "java/lang/UnsupportedOperationException" : Cond) ∈ gt := gt_tab (List.mem_of_getElem? (i := 18) (by decide +kernel)) (by decide +kernel)
theorem tw_19 : (.initialized "java/lang/Math" : Cond) ∈ gt := gt_tab (List.mem_of_getElem? (i := 19) (by decide +kernel)) (by decide +kernel)
theorem tw_20 : (.initialized "java/util/NoSuchElementException" : Cond) ∈ gt := gt_tab (List.mem_of_getElem? (i := 20) (by decide +kernel)) (by decide +kernel)
theorem tw_21 : (.initialized "java/lang/IndexOutOfBoundsException" : Cond) ∈ gt := gt_tab (List.mem_of_getElem? (i := 21) (by decide +kernel)) (by decide +kernel)
theorem tw_22 : (.classLink "EditablePastLaw" 8 "EditablePast" : Cond) ∈ gt := gt_tab (List.mem_of_getElem? (i := 22) (by decide +kernel)) (by decide +kernel)
theorem tw_23 : (.instantiable "EditablePast" 7 : Cond) ∈ gt := gt_tab (List.mem_of_getElem? (i := 23) (by decide +kernel)) (by decide +kernel)
theorem tw_24 : (.methodLink "EditablePastLaw" 79 ⟨"EditablePast", "<init>", "()V"⟩ : Cond) ∈ gt := gt_tab (List.mem_of_getElem? (i := 24) (by decide +kernel)) (by decide +kernel)
theorem tw_25 : (.instanceMethod ⟨"EditablePast", "<init>", "()V"⟩ : Cond) ∈ gt := gt_tab (List.mem_of_getElem? (i := 25) (by decide +kernel)) (by decide +kernel)
theorem tw_27 : (.methodLink "EditablePast" 3 ⟨"java/lang/Object", "<init>", "()V"⟩ : Cond) ∈ gt := gt_tab (List.mem_of_getElem? (i := 27) (by decide +kernel)) (by decide +kernel)
theorem tw_28 : (.instanceMethod ⟨"java/lang/Object", "<init>", "()V"⟩ : Cond) ∈ gt := gt_tab (List.mem_of_getElem? (i := 28) (by decide +kernel)) (by decide +kernel)
theorem tw_30 : (.classLink "EditablePast" 9 "EditablePast$Collection" : Cond) ∈ gt := gt_tab (List.mem_of_getElem? (i := 30) (by decide +kernel)) (by decide +kernel)
theorem tw_32 : (.instantiable "EditablePast$Collection" 3 : Cond) ∈ gt := gt_tab (List.mem_of_getElem? (i := 32) (by decide +kernel)) (by decide +kernel)
theorem tw_34 : (.instanceMethod ⟨"EditablePast$Collection", "<init>", "()V"⟩ : Cond) ∈ gt := gt_tab (List.mem_of_getElem? (i := 34) (by decide +kernel)) (by decide +kernel)
theorem tw_36 : (.methodLink "EditablePast$Collection" 3 ⟨"java/lang/Object", "<init>", "()V"⟩ : Cond) ∈ gt := gt_tab (List.mem_of_getElem? (i := 36) (by decide +kernel)) (by decide +kernel)
theorem tw_37 : (.classLink "EditablePast$Collection" 15 "EditablePast$Line" : Cond) ∈ gt := gt_tab (List.mem_of_getElem? (i := 37) (by decide +kernel)) (by decide +kernel)
theorem tw_38 : (.instantiable "EditablePast$Line" 7 : Cond) ∈ gt := gt_tab (List.mem_of_getElem? (i := 38) (by decide +kernel)) (by decide +kernel)
theorem tw_40 : (.instanceMethod ⟨"EditablePast$Line", "<init>", "()V"⟩ : Cond) ∈ gt := gt_tab (List.mem_of_getElem? (i := 40) (by decide +kernel)) (by decide +kernel)
theorem tw_42 : (.methodLink "EditablePast$Line" 3 ⟨"java/lang/Object", "<init>", "()V"⟩ : Cond) ∈ gt := gt_tab (List.mem_of_getElem? (i := 42) (by decide +kernel)) (by decide +kernel)
theorem tw_43 : (.fieldLink "EditablePast$Line" 32 "EditablePast$Line" "count" "I" : Cond) ∈ gt := gt_tab (List.mem_of_getElem? (i := 43) (by decide +kernel)) (by decide +kernel)
theorem tw_44 : (.fieldLink "EditablePast" 82 "EditablePast$Line" "count" "I" : Cond) ∈ gt := gt_tab (List.mem_of_getElem? (i := 44) (by decide +kernel)) (by decide +kernel)
theorem tw_45 : (.fieldLink "EditablePast$Line" 9 "EditablePast$Line" "moments" "[I" : Cond) ∈ gt := gt_tab (List.mem_of_getElem? (i := 45) (by decide +kernel)) (by decide +kernel)
theorem tw_46 : (.fieldLink "EditablePast" 211 "EditablePast$Line" "moments" "[I" : Cond) ∈ gt := gt_tab (List.mem_of_getElem? (i := 46) (by decide +kernel)) (by decide +kernel)
theorem tw_47 : (.fieldLink "EditablePast$Line" 15 "EditablePast$Line" "names" "[I" : Cond) ∈ gt := gt_tab (List.mem_of_getElem? (i := 47) (by decide +kernel)) (by decide +kernel)
theorem tw_48 : (.fieldLink "EditablePast" 214 "EditablePast$Line" "names" "[I" : Cond) ∈ gt := gt_tab (List.mem_of_getElem? (i := 48) (by decide +kernel)) (by decide +kernel)
theorem tw_49 : (.fieldLink "EditablePast$Line" 18 "EditablePast$Line" "as" "[I" : Cond) ∈ gt := gt_tab (List.mem_of_getElem? (i := 49) (by decide +kernel)) (by decide +kernel)
theorem tw_50 : (.fieldLink "EditablePast" 217 "EditablePast$Line" "as" "[I" : Cond) ∈ gt := gt_tab (List.mem_of_getElem? (i := 50) (by decide +kernel)) (by decide +kernel)
theorem tw_51 : (.fieldLink "EditablePast$Line" 21 "EditablePast$Line" "bs" "[I" : Cond) ∈ gt := gt_tab (List.mem_of_getElem? (i := 51) (by decide +kernel)) (by decide +kernel)
theorem tw_52 : (.fieldLink "EditablePast" 220 "EditablePast$Line" "bs" "[I" : Cond) ∈ gt := gt_tab (List.mem_of_getElem? (i := 52) (by decide +kernel)) (by decide +kernel)
theorem tw_53 : (.fieldLink "EditablePast$Line" 24 "EditablePast$Line" "results" "[J" : Cond) ∈ gt := gt_tab (List.mem_of_getElem? (i := 53) (by decide +kernel)) (by decide +kernel)
theorem tw_54 : (.fieldLink "EditablePast" 192 "EditablePast$Line" "results" "[J" : Cond) ∈ gt := gt_tab (List.mem_of_getElem? (i := 54) (by decide +kernel)) (by decide +kernel)
theorem tw_55 : (.fieldLink "EditablePast$Line" 28 "EditablePast$Line" "effects" "[Z" : Cond) ∈ gt := gt_tab (List.mem_of_getElem? (i := 55) (by decide +kernel)) (by decide +kernel)
theorem tw_56 : (.fieldLink "EditablePast" 196 "EditablePast$Line" "effects" "[Z" : Cond) ∈ gt := gt_tab (List.mem_of_getElem? (i := 56) (by decide +kernel)) (by decide +kernel)
theorem tw_57 : (.lays "EditablePast$Line" "EditablePast$Line" "count" "I" : Cond) ∈ gt := gt_tab (List.mem_of_getElem? (i := 57) (by decide +kernel)) (by decide +kernel)
theorem tw_59 : (.laysFinal "EditablePast$Line" "EditablePast$Line" "moments" "[I" : Cond) ∈ gt := gt_tab (List.mem_of_getElem? (i := 59) (by decide +kernel)) (by decide +kernel)
theorem tw_61 : (.laysFinal "EditablePast$Line" "EditablePast$Line" "names" "[I" : Cond) ∈ gt := gt_tab (List.mem_of_getElem? (i := 61) (by decide +kernel)) (by decide +kernel)
theorem tw_63 : (.laysFinal "EditablePast$Line" "EditablePast$Line" "as" "[I" : Cond) ∈ gt := gt_tab (List.mem_of_getElem? (i := 63) (by decide +kernel)) (by decide +kernel)
theorem tw_65 : (.laysFinal "EditablePast$Line" "EditablePast$Line" "bs" "[I" : Cond) ∈ gt := gt_tab (List.mem_of_getElem? (i := 65) (by decide +kernel)) (by decide +kernel)
theorem tw_67 : (.laysFinal "EditablePast$Line" "EditablePast$Line" "results" "[J" : Cond) ∈ gt := gt_tab (List.mem_of_getElem? (i := 67) (by decide +kernel)) (by decide +kernel)
theorem tw_69 : (.laysFinal "EditablePast$Line" "EditablePast$Line" "effects" "[Z" : Cond) ∈ gt := gt_tab (List.mem_of_getElem? (i := 69) (by decide +kernel)) (by decide +kernel)
theorem tw_72 : (.arrayClass FieldType.int : Cond) ∈ gt := gt_tab (List.mem_of_getElem? (i := 72) (by decide +kernel)) (by decide +kernel)
theorem tw_73 : (.arrayClass FieldType.long : Cond) ∈ gt := gt_tab (List.mem_of_getElem? (i := 73) (by decide +kernel)) (by decide +kernel)
theorem tw_74 : (.arrayClass FieldType.boolean : Cond) ∈ gt := gt_tab (List.mem_of_getElem? (i := 74) (by decide +kernel)) (by decide +kernel)
theorem tw_75 : (.fieldLink "EditablePast$Collection" 9 "EditablePast$Collection" "kind" "I" : Cond) ∈ gt := gt_tab (List.mem_of_getElem? (i := 75) (by decide +kernel)) (by decide +kernel)
theorem tw_76 : (.fieldLink "EditablePast" 69 "EditablePast$Collection" "kind" "I" : Cond) ∈ gt := gt_tab (List.mem_of_getElem? (i := 76) (by decide +kernel)) (by decide +kernel)
theorem tw_77 : (.fieldLink "EditablePast$Collection" 18 "EditablePast$Collection" "now" "LEditablePast$Line;" : Cond) ∈ gt := gt_tab (List.mem_of_getElem? (i := 77) (by decide +kernel)) (by decide +kernel)
theorem tw_78 : (.fieldLink "EditablePast" 87 "EditablePast$Collection" "now" "LEditablePast$Line;" : Cond) ∈ gt := gt_tab (List.mem_of_getElem? (i := 78) (by decide +kernel)) (by decide +kernel)
theorem tw_79 : (.fieldLink "EditablePast$Collection" 22 "EditablePast$Collection" "before" "LEditablePast$Line;" : Cond) ∈ gt := gt_tab (List.mem_of_getElem? (i := 79) (by decide +kernel)) (by decide +kernel)
theorem tw_80 : (.fieldLink "EditablePast" 78 "EditablePast$Collection" "before" "LEditablePast$Line;" : Cond) ∈ gt := gt_tab (List.mem_of_getElem? (i := 80) (by decide +kernel)) (by decide +kernel)
theorem tw_81 : (.lays "EditablePast$Collection" "EditablePast$Collection" "kind" "I" : Cond) ∈ gt := gt_tab (List.mem_of_getElem? (i := 81) (by decide +kernel)) (by decide +kernel)
theorem tw_83 : (.laysFinal "EditablePast$Collection" "EditablePast$Collection" "now" "LEditablePast$Line;" : Cond) ∈ gt := gt_tab (List.mem_of_getElem? (i := 83) (by decide +kernel)) (by decide +kernel)
theorem tw_85 : (.laysFinal "EditablePast$Collection" "EditablePast$Collection" "before" "LEditablePast$Line;" : Cond) ∈ gt := gt_tab (List.mem_of_getElem? (i := 85) (by decide +kernel)) (by decide +kernel)
theorem tw_88 : (.classLink "EditablePast" 16 "EditablePast$Queue" : Cond) ∈ gt := gt_tab (List.mem_of_getElem? (i := 88) (by decide +kernel)) (by decide +kernel)
theorem tw_89 : (.instantiable "EditablePast$Queue" 4 : Cond) ∈ gt := gt_tab (List.mem_of_getElem? (i := 89) (by decide +kernel)) (by decide +kernel)
theorem tw_91 : (.instanceMethod ⟨"EditablePast$Queue", "<init>", "()V"⟩ : Cond) ∈ gt := gt_tab (List.mem_of_getElem? (i := 91) (by decide +kernel)) (by decide +kernel)
theorem tw_94 : (.instanceMethod ⟨"EditablePast$Bag", "<init>", "()V"⟩ : Cond) ∈ gt := gt_tab (List.mem_of_getElem? (i := 94) (by decide +kernel)) (by decide +kernel)
theorem tw_97 : (.instanceMethod ⟨"EditablePast$Contents", "<init>", "()V"⟩ : Cond) ∈ gt := gt_tab (List.mem_of_getElem? (i := 97) (by decide +kernel)) (by decide +kernel)
theorem tw_99 : (.methodLink "EditablePast$Contents" 1 ⟨"java/lang/Object", "<init>", "()V"⟩ : Cond) ∈ gt := gt_tab (List.mem_of_getElem? (i := 99) (by decide +kernel)) (by decide +kernel)
theorem tw_100 : (.fieldLink "EditablePast$Bag" 9 "EditablePast$Bag" "values" "[I" : Cond) ∈ gt := gt_tab (List.mem_of_getElem? (i := 100) (by decide +kernel)) (by decide +kernel)
theorem tw_101 : (.fieldLink "EditablePast$Heap" 13 "EditablePast$Heap" "values" "[I" : Cond) ∈ gt := gt_tab (List.mem_of_getElem? (i := 101) (by decide +kernel)) (by decide +kernel)
theorem tw_102 : (.sameField "EditablePast$Heap" "EditablePast$Bag" "values" "[I" : Cond) ∈ gt := gt_tab (List.mem_of_getElem? (i := 102) (by decide +kernel)) (by decide +kernel)
theorem tw_103 : (.fieldLink "EditablePast" 161 "EditablePast$Bag" "values" "[I" : Cond) ∈ gt := gt_tab (List.mem_of_getElem? (i := 103) (by decide +kernel)) (by decide +kernel)
theorem tw_104 : (.fieldLink "EditablePast" 178 "EditablePast$Heap" "values" "[I" : Cond) ∈ gt := gt_tab (List.mem_of_getElem? (i := 104) (by decide +kernel)) (by decide +kernel)
theorem tw_105 : (.fieldLink "EditablePast$Queue" 7 "EditablePast$Queue" "count" "I" : Cond) ∈ gt := gt_tab (List.mem_of_getElem? (i := 105) (by decide +kernel)) (by decide +kernel)
theorem tw_106 : (.sameField "EditablePast$Queue" "EditablePast$Contents" "count" "I" : Cond) ∈ gt := gt_tab (List.mem_of_getElem? (i := 106) (by decide +kernel)) (by decide +kernel)
theorem tw_107 : (.fieldLink "EditablePast$Heap" 7 "EditablePast$Heap" "count" "I" : Cond) ∈ gt := gt_tab (List.mem_of_getElem? (i := 107) (by decide +kernel)) (by decide +kernel)
theorem tw_108 : (.sameField "EditablePast$Heap" "EditablePast$Contents" "count" "I" : Cond) ∈ gt := gt_tab (List.mem_of_getElem? (i := 108) (by decide +kernel)) (by decide +kernel)
theorem tw_109 : (.fieldLink "EditablePast$Table" 18 "EditablePast$Table" "count" "I" : Cond) ∈ gt := gt_tab (List.mem_of_getElem? (i := 109) (by decide +kernel)) (by decide +kernel)
theorem tw_110 : (.sameField "EditablePast$Table" "EditablePast$Contents" "count" "I" : Cond) ∈ gt := gt_tab (List.mem_of_getElem? (i := 110) (by decide +kernel)) (by decide +kernel)
theorem tw_111 : (.fieldLink "EditablePast$Sets" 19 "EditablePast$Sets" "count" "I" : Cond) ∈ gt := gt_tab (List.mem_of_getElem? (i := 111) (by decide +kernel)) (by decide +kernel)
theorem tw_112 : (.sameField "EditablePast$Sets" "EditablePast$Contents" "count" "I" : Cond) ∈ gt := gt_tab (List.mem_of_getElem? (i := 112) (by decide +kernel)) (by decide +kernel)
theorem tw_113 : (.fieldLink "EditablePast$Bag" 19 "EditablePast$Bag" "count" "I" : Cond) ∈ gt := gt_tab (List.mem_of_getElem? (i := 113) (by decide +kernel)) (by decide +kernel)
theorem tw_114 : (.sameField "EditablePast$Bag" "EditablePast$Contents" "count" "I" : Cond) ∈ gt := gt_tab (List.mem_of_getElem? (i := 114) (by decide +kernel)) (by decide +kernel)
theorem tw_115 : (.fieldLink "EditablePast" 153 "EditablePast$Bag" "count" "I" : Cond) ∈ gt := gt_tab (List.mem_of_getElem? (i := 115) (by decide +kernel)) (by decide +kernel)
theorem tw_116 : (.fieldLink "EditablePast" 165 "EditablePast$Contents" "count" "I" : Cond) ∈ gt := gt_tab (List.mem_of_getElem? (i := 116) (by decide +kernel)) (by decide +kernel)
theorem tw_117 : (.fieldLink "EditablePast" 172 "EditablePast$Heap" "count" "I" : Cond) ∈ gt := gt_tab (List.mem_of_getElem? (i := 117) (by decide +kernel)) (by decide +kernel)
theorem tw_118 : (.fieldLink "EditablePast$Contents" 7 "EditablePast$Contents" "lastResult" "J" : Cond) ∈ gt := gt_tab (List.mem_of_getElem? (i := 118) (by decide +kernel)) (by decide +kernel)
theorem tw_119 : (.fieldLink "EditablePast$Line" 61 "EditablePast$Contents" "lastResult" "J" : Cond) ∈ gt := gt_tab (List.mem_of_getElem? (i := 119) (by decide +kernel)) (by decide +kernel)
theorem tw_120 : (.fieldLink "EditablePast$Contents" 13 "EditablePast$Contents" "lastEffect" "Z" : Cond) ∈ gt := gt_tab (List.mem_of_getElem? (i := 120) (by decide +kernel)) (by decide +kernel)
theorem tw_121 : (.fieldLink "EditablePast$Line" 65 "EditablePast$Contents" "lastEffect" "Z" : Cond) ∈ gt := gt_tab (List.mem_of_getElem? (i := 121) (by decide +kernel)) (by decide +kernel)
theorem tw_122 : (.laysFinal "EditablePast$Queue" "EditablePast$Bag" "values" "[I" : Cond) ∈ gt := gt_tab (List.mem_of_getElem? (i := 122) (by decide +kernel)) (by decide +kernel)
theorem tw_124 : (.lays "EditablePast$Queue" "EditablePast$Contents" "count" "I" : Cond) ∈ gt := gt_tab (List.mem_of_getElem? (i := 124) (by decide +kernel)) (by decide +kernel)
theorem tw_126 : (.lays "EditablePast$Queue" "EditablePast$Contents" "lastResult" "J" : Cond) ∈ gt := gt_tab (List.mem_of_getElem? (i := 126) (by decide +kernel)) (by decide +kernel)
theorem tw_128 : (.lays "EditablePast$Queue" "EditablePast$Contents" "lastEffect" "Z" : Cond) ∈ gt := gt_tab (List.mem_of_getElem? (i := 128) (by decide +kernel)) (by decide +kernel)
theorem tw_131 : (.classLink "EditablePast" 23 "EditablePast$Stack" : Cond) ∈ gt := gt_tab (List.mem_of_getElem? (i := 131) (by decide +kernel)) (by decide +kernel)
theorem tw_132 : (.instantiable "EditablePast$Stack" 4 : Cond) ∈ gt := gt_tab (List.mem_of_getElem? (i := 132) (by decide +kernel)) (by decide +kernel)
theorem tw_134 : (.instanceMethod ⟨"EditablePast$Stack", "<init>", "()V"⟩ : Cond) ∈ gt := gt_tab (List.mem_of_getElem? (i := 134) (by decide +kernel)) (by decide +kernel)
theorem tw_137 : (.laysFinal "EditablePast$Stack" "EditablePast$Bag" "values" "[I" : Cond) ∈ gt := gt_tab (List.mem_of_getElem? (i := 137) (by decide +kernel)) (by decide +kernel)
theorem tw_138 : (.lays "EditablePast$Stack" "EditablePast$Contents" "count" "I" : Cond) ∈ gt := gt_tab (List.mem_of_getElem? (i := 138) (by decide +kernel)) (by decide +kernel)
theorem tw_139 : (.lays "EditablePast$Stack" "EditablePast$Contents" "lastResult" "J" : Cond) ∈ gt := gt_tab (List.mem_of_getElem? (i := 139) (by decide +kernel)) (by decide +kernel)
theorem tw_140 : (.lays "EditablePast$Stack" "EditablePast$Contents" "lastEffect" "Z" : Cond) ∈ gt := gt_tab (List.mem_of_getElem? (i := 140) (by decide +kernel)) (by decide +kernel)
theorem tw_142 : (.classLink "EditablePast" 30 "EditablePast$Table" : Cond) ∈ gt := gt_tab (List.mem_of_getElem? (i := 142) (by decide +kernel)) (by decide +kernel)
theorem tw_143 : (.instantiable "EditablePast$Table" 5 : Cond) ∈ gt := gt_tab (List.mem_of_getElem? (i := 143) (by decide +kernel)) (by decide +kernel)
theorem tw_145 : (.instanceMethod ⟨"EditablePast$Table", "<init>", "()V"⟩ : Cond) ∈ gt := gt_tab (List.mem_of_getElem? (i := 145) (by decide +kernel)) (by decide +kernel)
theorem tw_148 : (.fieldLink "EditablePast$Table" 9 "EditablePast$Table" "keys" "[I" : Cond) ∈ gt := gt_tab (List.mem_of_getElem? (i := 148) (by decide +kernel)) (by decide +kernel)
theorem tw_149 : (.fieldLink "EditablePast$Table" 15 "EditablePast$Table" "values" "[I" : Cond) ∈ gt := gt_tab (List.mem_of_getElem? (i := 149) (by decide +kernel)) (by decide +kernel)
theorem tw_150 : (.fieldLink "EditablePast" 171 "EditablePast$Table" "values" "[I" : Cond) ∈ gt := gt_tab (List.mem_of_getElem? (i := 150) (by decide +kernel)) (by decide +kernel)
theorem tw_151 : (.laysFinal "EditablePast$Table" "EditablePast$Table" "keys" "[I" : Cond) ∈ gt := gt_tab (List.mem_of_getElem? (i := 151) (by decide +kernel)) (by decide +kernel)
theorem tw_153 : (.laysFinal "EditablePast$Table" "EditablePast$Table" "values" "[I" : Cond) ∈ gt := gt_tab (List.mem_of_getElem? (i := 153) (by decide +kernel)) (by decide +kernel)
theorem tw_155 : (.lays "EditablePast$Table" "EditablePast$Contents" "count" "I" : Cond) ∈ gt := gt_tab (List.mem_of_getElem? (i := 155) (by decide +kernel)) (by decide +kernel)
theorem tw_156 : (.lays "EditablePast$Table" "EditablePast$Contents" "lastResult" "J" : Cond) ∈ gt := gt_tab (List.mem_of_getElem? (i := 156) (by decide +kernel)) (by decide +kernel)
theorem tw_157 : (.lays "EditablePast$Table" "EditablePast$Contents" "lastEffect" "Z" : Cond) ∈ gt := gt_tab (List.mem_of_getElem? (i := 157) (by decide +kernel)) (by decide +kernel)
theorem tw_159 : (.classLink "EditablePast" 37 "EditablePast$Heap" : Cond) ∈ gt := gt_tab (List.mem_of_getElem? (i := 159) (by decide +kernel)) (by decide +kernel)
theorem tw_160 : (.instantiable "EditablePast$Heap" 4 : Cond) ∈ gt := gt_tab (List.mem_of_getElem? (i := 160) (by decide +kernel)) (by decide +kernel)
theorem tw_162 : (.instanceMethod ⟨"EditablePast$Heap", "<init>", "()V"⟩ : Cond) ∈ gt := gt_tab (List.mem_of_getElem? (i := 162) (by decide +kernel)) (by decide +kernel)
theorem tw_165 : (.laysFinal "EditablePast$Heap" "EditablePast$Bag" "values" "[I" : Cond) ∈ gt := gt_tab (List.mem_of_getElem? (i := 165) (by decide +kernel)) (by decide +kernel)
theorem tw_166 : (.lays "EditablePast$Heap" "EditablePast$Contents" "count" "I" : Cond) ∈ gt := gt_tab (List.mem_of_getElem? (i := 166) (by decide +kernel)) (by decide +kernel)
theorem tw_167 : (.lays "EditablePast$Heap" "EditablePast$Contents" "lastResult" "J" : Cond) ∈ gt := gt_tab (List.mem_of_getElem? (i := 167) (by decide +kernel)) (by decide +kernel)
theorem tw_168 : (.lays "EditablePast$Heap" "EditablePast$Contents" "lastEffect" "Z" : Cond) ∈ gt := gt_tab (List.mem_of_getElem? (i := 168) (by decide +kernel)) (by decide +kernel)
theorem tw_170 : (.classLink "EditablePast" 44 "EditablePast$Register" : Cond) ∈ gt := gt_tab (List.mem_of_getElem? (i := 170) (by decide +kernel)) (by decide +kernel)
theorem tw_171 : (.instantiable "EditablePast$Register" 4 : Cond) ∈ gt := gt_tab (List.mem_of_getElem? (i := 171) (by decide +kernel)) (by decide +kernel)
theorem tw_173 : (.instanceMethod ⟨"EditablePast$Register", "<init>", "()V"⟩ : Cond) ∈ gt := gt_tab (List.mem_of_getElem? (i := 173) (by decide +kernel)) (by decide +kernel)
theorem tw_176 : (.fieldLink "EditablePast$Register" 11 "EditablePast$Register" "total" "J" : Cond) ∈ gt := gt_tab (List.mem_of_getElem? (i := 176) (by decide +kernel)) (by decide +kernel)
theorem tw_177 : (.fieldLink "EditablePast" 179 "EditablePast$Register" "total" "J" : Cond) ∈ gt := gt_tab (List.mem_of_getElem? (i := 177) (by decide +kernel)) (by decide +kernel)
theorem tw_178 : (.lays "EditablePast$Register" "EditablePast$Register" "total" "J" : Cond) ∈ gt := gt_tab (List.mem_of_getElem? (i := 178) (by decide +kernel)) (by decide +kernel)
theorem tw_180 : (.lays "EditablePast$Register" "EditablePast$Contents" "count" "I" : Cond) ∈ gt := gt_tab (List.mem_of_getElem? (i := 180) (by decide +kernel)) (by decide +kernel)
theorem tw_181 : (.lays "EditablePast$Register" "EditablePast$Contents" "lastResult" "J" : Cond) ∈ gt := gt_tab (List.mem_of_getElem? (i := 181) (by decide +kernel)) (by decide +kernel)
theorem tw_182 : (.lays "EditablePast$Register" "EditablePast$Contents" "lastEffect" "Z" : Cond) ∈ gt := gt_tab (List.mem_of_getElem? (i := 182) (by decide +kernel)) (by decide +kernel)
theorem tw_184 : (.classLink "EditablePast" 51 "EditablePast$Sets" : Cond) ∈ gt := gt_tab (List.mem_of_getElem? (i := 184) (by decide +kernel)) (by decide +kernel)
theorem tw_185 : (.instantiable "EditablePast$Sets" 4 : Cond) ∈ gt := gt_tab (List.mem_of_getElem? (i := 185) (by decide +kernel)) (by decide +kernel)
theorem tw_187 : (.instanceMethod ⟨"EditablePast$Sets", "<init>", "()V"⟩ : Cond) ∈ gt := gt_tab (List.mem_of_getElem? (i := 187) (by decide +kernel)) (by decide +kernel)
theorem tw_190 : (.fieldLink "EditablePast$Sets" 9 "EditablePast$Sets" "leaders" "[I" : Cond) ∈ gt := gt_tab (List.mem_of_getElem? (i := 190) (by decide +kernel)) (by decide +kernel)
theorem tw_191 : (.fieldLink "EditablePast" 189 "EditablePast$Sets" "leaders" "[I" : Cond) ∈ gt := gt_tab (List.mem_of_getElem? (i := 191) (by decide +kernel)) (by decide +kernel)
theorem tw_192 : (.laysFinal "EditablePast$Sets" "EditablePast$Sets" "leaders" "[I" : Cond) ∈ gt := gt_tab (List.mem_of_getElem? (i := 192) (by decide +kernel)) (by decide +kernel)
theorem tw_194 : (.lays "EditablePast$Sets" "EditablePast$Contents" "count" "I" : Cond) ∈ gt := gt_tab (List.mem_of_getElem? (i := 194) (by decide +kernel)) (by decide +kernel)
theorem tw_195 : (.lays "EditablePast$Sets" "EditablePast$Contents" "lastResult" "J" : Cond) ∈ gt := gt_tab (List.mem_of_getElem? (i := 195) (by decide +kernel)) (by decide +kernel)
theorem tw_196 : (.lays "EditablePast$Sets" "EditablePast$Contents" "lastEffect" "Z" : Cond) ∈ gt := gt_tab (List.mem_of_getElem? (i := 196) (by decide +kernel)) (by decide +kernel)
theorem tw_198 : (.fieldLink "EditablePast" 11 "EditablePast" "collections" "[LEditablePast$Collection;" : Cond) ∈ gt := gt_tab (List.mem_of_getElem? (i := 198) (by decide +kernel)) (by decide +kernel)
theorem tw_199 : (.fieldLink "EditablePast" 19 "EditablePast" "queue" "LEditablePast$Queue;" : Cond) ∈ gt := gt_tab (List.mem_of_getElem? (i := 199) (by decide +kernel)) (by decide +kernel)
theorem tw_200 : (.fieldLink "EditablePast" 26 "EditablePast" "stack" "LEditablePast$Stack;" : Cond) ∈ gt := gt_tab (List.mem_of_getElem? (i := 200) (by decide +kernel)) (by decide +kernel)
theorem tw_201 : (.fieldLink "EditablePast" 33 "EditablePast" "table" "LEditablePast$Table;" : Cond) ∈ gt := gt_tab (List.mem_of_getElem? (i := 201) (by decide +kernel)) (by decide +kernel)
theorem tw_202 : (.fieldLink "EditablePast" 40 "EditablePast" "heap" "LEditablePast$Heap;" : Cond) ∈ gt := gt_tab (List.mem_of_getElem? (i := 202) (by decide +kernel)) (by decide +kernel)
theorem tw_203 : (.fieldLink "EditablePast" 47 "EditablePast" "register" "LEditablePast$Register;" : Cond) ∈ gt := gt_tab (List.mem_of_getElem? (i := 203) (by decide +kernel)) (by decide +kernel)
theorem tw_204 : (.fieldLink "EditablePast" 54 "EditablePast" "sets" "LEditablePast$Sets;" : Cond) ∈ gt := gt_tab (List.mem_of_getElem? (i := 204) (by decide +kernel)) (by decide +kernel)
theorem tw_205 : (.laysFinal "EditablePast" "EditablePast" "collections" "[LEditablePast$Collection;" : Cond) ∈ gt := gt_tab (List.mem_of_getElem? (i := 205) (by decide +kernel)) (by decide +kernel)
theorem tw_207 : (.laysFinal "EditablePast" "EditablePast" "queue" "LEditablePast$Queue;" : Cond) ∈ gt := gt_tab (List.mem_of_getElem? (i := 207) (by decide +kernel)) (by decide +kernel)
theorem tw_209 : (.laysFinal "EditablePast" "EditablePast" "stack" "LEditablePast$Stack;" : Cond) ∈ gt := gt_tab (List.mem_of_getElem? (i := 209) (by decide +kernel)) (by decide +kernel)
theorem tw_211 : (.laysFinal "EditablePast" "EditablePast" "table" "LEditablePast$Table;" : Cond) ∈ gt := gt_tab (List.mem_of_getElem? (i := 211) (by decide +kernel)) (by decide +kernel)
theorem tw_213 : (.laysFinal "EditablePast" "EditablePast" "heap" "LEditablePast$Heap;" : Cond) ∈ gt := gt_tab (List.mem_of_getElem? (i := 213) (by decide +kernel)) (by decide +kernel)
theorem tw_215 : (.laysFinal "EditablePast" "EditablePast" "register" "LEditablePast$Register;" : Cond) ∈ gt := gt_tab (List.mem_of_getElem? (i := 215) (by decide +kernel)) (by decide +kernel)
theorem tw_217 : (.laysFinal "EditablePast" "EditablePast" "sets" "LEditablePast$Sets;" : Cond) ∈ gt := gt_tab (List.mem_of_getElem? (i := 217) (by decide +kernel)) (by decide +kernel)
theorem tw_220 : (.methodLink "EditablePastLaw" 83 ⟨"EditablePastLaw", "open", "(LEditablePast;II)I"⟩ : Cond) ∈ gt := gt_tab (List.mem_of_getElem? (i := 220) (by decide +kernel)) (by decide +kernel)
theorem tw_221 : (.static ⟨"EditablePastLaw", "open", "(LEditablePast;II)I"⟩ : Cond) ∈ gt := gt_tab (List.mem_of_getElem? (i := 221) (by decide +kernel)) (by decide +kernel)
theorem tw_223 : (.classLink "EditablePastLaw" 13 "java/lang/IllegalArgumentException" : Cond) ∈ gt := gt_tab (List.mem_of_getElem? (i := 223) (by decide +kernel)) (by decide +kernel)
theorem tw_224 : (.classLink "EditablePastLaw" 15 "java/lang/IllegalStateException" : Cond) ∈ gt := gt_tab (List.mem_of_getElem? (i := 224) (by decide +kernel)) (by decide +kernel)
theorem tw_225 : (.methodLink "EditablePastLaw" 7 ⟨"EditablePast", "open", "(II)V"⟩ : Cond) ∈ gt := gt_tab (List.mem_of_getElem? (i := 225) (by decide +kernel)) (by decide +kernel)
theorem tw_226 : (.instanceMethod ⟨"EditablePast", "open", "(II)V"⟩ : Cond) ∈ gt := gt_tab (List.mem_of_getElem? (i := 226) (by decide +kernel)) (by decide +kernel)
theorem tw_227 : (.selects "EditablePast" ⟨"EditablePast", "open", "(II)V"⟩ ⟨"EditablePast", "open", "(II)V"⟩ : Cond) ∈ gt := gt_tab (List.mem_of_getElem? (i := 227) (by decide +kernel)) (by decide +kernel)
theorem tw_229 : (.classLink "EditablePast" 58 "java/lang/IllegalArgumentException" : Cond) ∈ gt := gt_tab (List.mem_of_getElem? (i := 229) (by decide +kernel)) (by decide +kernel)
theorem tw_230 : (.instantiable "java/lang/IllegalArgumentException" 6 : Cond) ∈ gt := gt_tab (List.mem_of_getElem? (i := 230) (by decide +kernel)) (by decide +kernel)
theorem tw_238 : (.selects "java/lang/IllegalArgumentException" ⟨"java/lang/Throwable", "fillInStackTrace", "(I)Ljava/lang/Throwable;"⟩ ⟨"java/lang/Throwable", "fillInStackTrace", "(I)Ljava/lang/Throwable;"⟩ : Cond) ∈ gt := gt_tab (List.mem_of_getElem? (i := 238) (by decide +kernel)) (by decide +kernel)
theorem tw_239 : (.selects "java/lang/IllegalArgumentException" ⟨"java/lang/Throwable", "fillInStackTrace", "()Ljava/lang/Throwable;"⟩ ⟨"java/lang/Throwable", "fillInStackTrace", "()Ljava/lang/Throwable;"⟩ : Cond) ∈ gt := gt_tab (List.mem_of_getElem? (i := 239) (by decide +kernel)) (by decide +kernel)
theorem tw_240 : (.lays "java/lang/IllegalArgumentException" "java/lang/Throwable" "cause" "Ljava/lang/Throwable;" : Cond) ∈ gt := gt_tab (List.mem_of_getElem? (i := 240) (by decide +kernel)) (by decide +kernel)
theorem tw_241 : (.lays "java/lang/Throwable" "java/lang/Throwable" "cause" "Ljava/lang/Throwable;" : Cond) ∈ gt := gt_tab (List.mem_of_getElem? (i := 241) (by decide +kernel)) (by decide +kernel)
theorem tw_242 : (.lays "java/lang/IllegalArgumentException" "java/lang/Throwable" "stackTrace" "[Ljava/lang/StackTraceElement;" : Cond) ∈ gt := gt_tab (List.mem_of_getElem? (i := 242) (by decide +kernel)) (by decide +kernel)
theorem tw_243 : (.lays "java/lang/Throwable" "java/lang/Throwable" "stackTrace" "[Ljava/lang/StackTraceElement;" : Cond) ∈ gt := gt_tab (List.mem_of_getElem? (i := 243) (by decide +kernel)) (by decide +kernel)
theorem tw_244 : (.lays "java/lang/IllegalArgumentException" "java/lang/Throwable" "suppressedExceptions" "Ljava/util/List;" : Cond) ∈ gt := gt_tab (List.mem_of_getElem? (i := 244) (by decide +kernel)) (by decide +kernel)
theorem tw_245 : (.lays "java/lang/Throwable" "java/lang/Throwable" "suppressedExceptions" "Ljava/util/List;" : Cond) ∈ gt := gt_tab (List.mem_of_getElem? (i := 245) (by decide +kernel)) (by decide +kernel)
theorem tw_246 : (.lays "java/lang/IllegalArgumentException" "java/lang/Throwable" "detailMessage" "Ljava/lang/String;" : Cond) ∈ gt := gt_tab (List.mem_of_getElem? (i := 246) (by decide +kernel)) (by decide +kernel)
theorem tw_247 : (.lays "java/lang/Throwable" "java/lang/Throwable" "detailMessage" "Ljava/lang/String;" : Cond) ∈ gt := gt_tab (List.mem_of_getElem? (i := 247) (by decide +kernel)) (by decide +kernel)
theorem tw_248 : (.lays "java/lang/IllegalArgumentException" "java/lang/Throwable" "backtrace" "Ljava/lang/Object;" : Cond) ∈ gt := gt_tab (List.mem_of_getElem? (i := 248) (by decide +kernel)) (by decide +kernel)
theorem tw_249 : (.lays "java/lang/Throwable" "java/lang/Throwable" "backtrace" "Ljava/lang/Object;" : Cond) ∈ gt := gt_tab (List.mem_of_getElem? (i := 249) (by decide +kernel)) (by decide +kernel)
theorem tw_250 : (.fieldLink "java/lang/Throwable" 198 "java/lang/Throwable" "backtrace" "Ljava/lang/Object;" : Cond) ∈ gt := gt_tab (List.mem_of_getElem? (i := 250) (by decide +kernel)) (by decide +kernel)
theorem tw_252 : (.instanceMethod ⟨"java/lang/Throwable", "<init>", "()V"⟩ : Cond) ∈ gt := gt_tab (List.mem_of_getElem? (i := 252) (by decide +kernel)) (by decide +kernel)
theorem tw_254 : (.methodLink "java/lang/Throwable" 1 ⟨"java/lang/Object", "<init>", "()V"⟩ : Cond) ∈ gt := gt_tab (List.mem_of_getElem? (i := 254) (by decide +kernel)) (by decide +kernel)
theorem tw_255 : (.fieldLink "java/lang/Throwable" 13 "java/lang/Throwable" "UNASSIGNED_STACK" "[Ljava/lang/StackTraceElement;" : Cond) ∈ gt := gt_tab (List.mem_of_getElem? (i := 255) (by decide +kernel)) (by decide +kernel)
theorem tw_257 : (.fieldLink "java/lang/Throwable" 20 "java/lang/Throwable" "SUPPRESSED_SENTINEL" "Ljava/util/List;" : Cond) ∈ gt := gt_tab (List.mem_of_getElem? (i := 257) (by decide +kernel)) (by decide +kernel)
theorem tw_259 : (.methodLink "java/lang/Throwable" 27 ⟨"java/lang/Throwable", "fillInStackTrace", "()Ljava/lang/Throwable;"⟩ : Cond) ∈ gt := gt_tab (List.mem_of_getElem? (i := 259) (by decide +kernel)) (by decide +kernel)
theorem tw_260 : (.instanceMethod ⟨"java/lang/Throwable", "fillInStackTrace", "()Ljava/lang/Throwable;"⟩ : Cond) ∈ gt := gt_tab (List.mem_of_getElem? (i := 260) (by decide +kernel)) (by decide +kernel)
theorem tw_261 : (.sameMethod "java/lang/Throwable" "java/lang/Throwable" "fillInStackTrace" "()Ljava/lang/Throwable;" : Cond) ∈ gt := gt_tab (List.mem_of_getElem? (i := 261) (by decide +kernel)) (by decide +kernel)
theorem tw_262 : (.selects "java/lang/IllegalStateException" ⟨"java/lang/Throwable", "fillInStackTrace", "()Ljava/lang/Throwable;"⟩ ⟨"java/lang/Throwable", "fillInStackTrace", "()Ljava/lang/Throwable;"⟩ : Cond) ∈ gt := gt_tab (List.mem_of_getElem? (i := 262) (by decide +kernel)) (by decide +kernel)
theorem tw_263 : (.selects "java/lang/IndexOutOfBoundsException" ⟨"java/lang/Throwable", "fillInStackTrace", "()Ljava/lang/Throwable;"⟩ ⟨"java/lang/Throwable", "fillInStackTrace", "()Ljava/lang/Throwable;"⟩ : Cond) ∈ gt := gt_tab (List.mem_of_getElem? (i := 263) (by decide +kernel)) (by decide +kernel)
theorem tw_264 : (.selects "java/lang/UnsupportedOperationException" ⟨"java/lang/Throwable", "fillInStackTrace", "()Ljava/lang/Throwable;"⟩ ⟨"java/lang/Throwable", "fillInStackTrace", "()Ljava/lang/Throwable;"⟩ : Cond) ∈ gt := gt_tab (List.mem_of_getElem? (i := 264) (by decide +kernel)) (by decide +kernel)
theorem tw_265 : (.selects "java/util/NoSuchElementException" ⟨"java/lang/Throwable", "fillInStackTrace", "()Ljava/lang/Throwable;"⟩ ⟨"java/lang/Throwable", "fillInStackTrace", "()Ljava/lang/Throwable;"⟩ : Cond) ∈ gt := gt_tab (List.mem_of_getElem? (i := 265) (by decide +kernel)) (by decide +kernel)
theorem tw_267 : (.methodLink "java/lang/Throwable" 202 ⟨"java/lang/Throwable", "fillInStackTrace", "(I)Ljava/lang/Throwable;"⟩ : Cond) ∈ gt := gt_tab (List.mem_of_getElem? (i := 267) (by decide +kernel)) (by decide +kernel)
theorem tw_269 : (.instanceMethod ⟨"java/lang/Throwable", "fillInStackTrace", "(I)Ljava/lang/Throwable;"⟩ : Cond) ∈ gt := gt_tab (List.mem_of_getElem? (i := 269) (by decide +kernel)) (by decide +kernel)
theorem tw_270 : (.instantiable "java/lang/Throwable" 6 : Cond) ∈ gt := gt_tab (List.mem_of_getElem? (i := 270) (by decide +kernel)) (by decide +kernel)
theorem tw_273 : (.methodLink "EditablePast" 62 ⟨"java/lang/IllegalArgumentException", "<init>", "(Ljava/lang/String;)V"⟩ : Cond) ∈ gt := gt_tab (List.mem_of_getElem? (i := 273) (by decide +kernel)) (by decide +kernel)
theorem tw_274 : (.instanceMethod ⟨"java/lang/IllegalArgumentException", "<init>", "(Ljava/lang/String;)V"⟩ : Cond) ∈ gt := gt_tab (List.mem_of_getElem? (i := 274) (by decide +kernel)) (by decide +kernel)
theorem tw_276 : (.methodLink "java/lang/IllegalArgumentException" 7 ⟨"java/lang/RuntimeException", "<init>", "(Ljava/lang/String;)V"⟩ : Cond) ∈ gt := gt_tab (List.mem_of_getElem? (i := 276) (by decide +kernel)) (by decide +kernel)
theorem tw_277 : (.instanceMethod ⟨"java/lang/RuntimeException", "<init>", "(Ljava/lang/String;)V"⟩ : Cond) ∈ gt := gt_tab (List.mem_of_getElem? (i := 277) (by decide +kernel)) (by decide +kernel)
theorem tw_279 : (.methodLink "java/lang/RuntimeException" 7 ⟨"java/lang/Exception", "<init>", "(Ljava/lang/String;)V"⟩ : Cond) ∈ gt := gt_tab (List.mem_of_getElem? (i := 279) (by decide +kernel)) (by decide +kernel)
theorem tw_280 : (.instanceMethod ⟨"java/lang/Exception", "<init>", "(Ljava/lang/String;)V"⟩ : Cond) ∈ gt := gt_tab (List.mem_of_getElem? (i := 280) (by decide +kernel)) (by decide +kernel)
theorem tw_282 : (.methodLink "java/lang/Exception" 7 ⟨"java/lang/Throwable", "<init>", "(Ljava/lang/String;)V"⟩ : Cond) ∈ gt := gt_tab (List.mem_of_getElem? (i := 282) (by decide +kernel)) (by decide +kernel)
theorem tw_283 : (.instanceMethod ⟨"java/lang/Throwable", "<init>", "(Ljava/lang/String;)V"⟩ : Cond) ∈ gt := gt_tab (List.mem_of_getElem? (i := 283) (by decide +kernel)) (by decide +kernel)
theorem tw_285 : (.fieldLink "java/lang/Throwable" 198 "java/lang/Throwable" "backtrace" "Ljava/lang/Object;" : Cond) ∈ gt := gt_tab (List.mem_of_getElem? (i := 285) (by decide +kernel)) (by decide +kernel)
theorem tw_286 : (.fieldLink "java/lang/Throwable" 31 "java/lang/Throwable" "detailMessage" "Ljava/lang/String;" : Cond) ∈ gt := gt_tab (List.mem_of_getElem? (i := 286) (by decide +kernel)) (by decide +kernel)
theorem tw_287 : (.fieldLink "java/lang/Throwable" 7 "java/lang/Throwable" "cause" "Ljava/lang/Throwable;" : Cond) ∈ gt := gt_tab (List.mem_of_getElem? (i := 287) (by decide +kernel)) (by decide +kernel)
theorem tw_288 : (.fieldLink "java/lang/Throwable" 17 "java/lang/Throwable" "stackTrace" "[Ljava/lang/StackTraceElement;" : Cond) ∈ gt := gt_tab (List.mem_of_getElem? (i := 288) (by decide +kernel)) (by decide +kernel)
theorem tw_289 : (.fieldLink "java/lang/Throwable" 24 "java/lang/Throwable" "suppressedExceptions" "Ljava/util/List;" : Cond) ∈ gt := gt_tab (List.mem_of_getElem? (i := 289) (by decide +kernel)) (by decide +kernel)
theorem tw_294 : (.lays "java/lang/IllegalArgumentException" "java/lang/Throwable" "depth" "I" : Cond) ∈ gt := gt_tab (List.mem_of_getElem? (i := 294) (by decide +kernel)) (by decide +kernel)
theorem tw_298 : (.arrayClass FieldType.byte : Cond) ∈ gt := gt_tab (List.mem_of_getElem? (i := 298) (by decide +kernel)) (by decide +kernel)
theorem tw_299 : (.methodLink "EditablePast" 65 ⟨"EditablePast", "collectionOf", "(I)LEditablePast$Collection;"⟩ : Cond) ∈ gt := gt_tab (List.mem_of_getElem? (i := 299) (by decide +kernel)) (by decide +kernel)
theorem tw_301 : (.instanceMethod ⟨"EditablePast", "collectionOf", "(I)LEditablePast$Collection;"⟩ : Cond) ∈ gt := gt_tab (List.mem_of_getElem? (i := 301) (by decide +kernel)) (by decide +kernel)
theorem tw_304 : (.classLink "EditablePast" 73 "java/lang/IllegalStateException" : Cond) ∈ gt := gt_tab (List.mem_of_getElem? (i := 304) (by decide +kernel)) (by decide +kernel)
theorem tw_305 : (.instantiable "java/lang/IllegalStateException" 6 : Cond) ∈ gt := gt_tab (List.mem_of_getElem? (i := 305) (by decide +kernel)) (by decide +kernel)
theorem tw_307 : (.selects "java/lang/IllegalStateException" ⟨"java/lang/Throwable", "fillInStackTrace", "(I)Ljava/lang/Throwable;"⟩ ⟨"java/lang/Throwable", "fillInStackTrace", "(I)Ljava/lang/Throwable;"⟩ : Cond) ∈ gt := gt_tab (List.mem_of_getElem? (i := 307) (by decide +kernel)) (by decide +kernel)
theorem tw_308 : (.lays "java/lang/IllegalStateException" "java/lang/Throwable" "cause" "Ljava/lang/Throwable;" : Cond) ∈ gt := gt_tab (List.mem_of_getElem? (i := 308) (by decide +kernel)) (by decide +kernel)
theorem tw_309 : (.lays "java/lang/IllegalStateException" "java/lang/Throwable" "stackTrace" "[Ljava/lang/StackTraceElement;" : Cond) ∈ gt := gt_tab (List.mem_of_getElem? (i := 309) (by decide +kernel)) (by decide +kernel)
theorem tw_310 : (.lays "java/lang/IllegalStateException" "java/lang/Throwable" "suppressedExceptions" "Ljava/util/List;" : Cond) ∈ gt := gt_tab (List.mem_of_getElem? (i := 310) (by decide +kernel)) (by decide +kernel)
theorem tw_311 : (.lays "java/lang/IllegalStateException" "java/lang/Throwable" "detailMessage" "Ljava/lang/String;" : Cond) ∈ gt := gt_tab (List.mem_of_getElem? (i := 311) (by decide +kernel)) (by decide +kernel)
theorem tw_312 : (.lays "java/lang/IllegalStateException" "java/lang/Throwable" "backtrace" "Ljava/lang/Object;" : Cond) ∈ gt := gt_tab (List.mem_of_getElem? (i := 312) (by decide +kernel)) (by decide +kernel)
theorem tw_314 : (.methodLink "EditablePast" 77 ⟨"java/lang/IllegalStateException", "<init>", "(Ljava/lang/String;)V"⟩ : Cond) ∈ gt := gt_tab (List.mem_of_getElem? (i := 314) (by decide +kernel)) (by decide +kernel)
theorem tw_315 : (.instanceMethod ⟨"java/lang/IllegalStateException", "<init>", "(Ljava/lang/String;)V"⟩ : Cond) ∈ gt := gt_tab (List.mem_of_getElem? (i := 315) (by decide +kernel)) (by decide +kernel)
theorem tw_317 : (.methodLink "java/lang/IllegalStateException" 7 ⟨"java/lang/RuntimeException", "<init>", "(Ljava/lang/String;)V"⟩ : Cond) ∈ gt := gt_tab (List.mem_of_getElem? (i := 317) (by decide +kernel)) (by decide +kernel)
theorem tw_318 : (.lays "java/lang/IllegalStateException" "java/lang/Throwable" "depth" "I" : Cond) ∈ gt := gt_tab (List.mem_of_getElem? (i := 318) (by decide +kernel)) (by decide +kernel)
theorem tw_320 : (.methodLink "EditablePastLaw" 93 ⟨"EditablePastLaw", "close", "(LEditablePast;I[J)I"⟩ : Cond) ∈ gt := gt_tab (List.mem_of_getElem? (i := 320) (by decide +kernel)) (by decide +kernel)
theorem tw_321 : (.static ⟨"EditablePastLaw", "close", "(LEditablePast;I[J)I"⟩ : Cond) ∈ gt := gt_tab (List.mem_of_getElem? (i := 321) (by decide +kernel)) (by decide +kernel)
theorem tw_323 : (.methodLink "EditablePastLaw" 17 ⟨"EditablePast", "close", "(I)I"⟩ : Cond) ∈ gt := gt_tab (List.mem_of_getElem? (i := 323) (by decide +kernel)) (by decide +kernel)
theorem tw_324 : (.instanceMethod ⟨"EditablePast", "close", "(I)I"⟩ : Cond) ∈ gt := gt_tab (List.mem_of_getElem? (i := 324) (by decide +kernel)) (by decide +kernel)
theorem tw_325 : (.selects "EditablePast" ⟨"EditablePast", "close", "(I)I"⟩ ⟨"EditablePast", "close", "(I)I"⟩ : Cond) ∈ gt := gt_tab (List.mem_of_getElem? (i := 325) (by decide +kernel)) (by decide +kernel)
theorem tw_327 : (.methodLink "EditablePast" 90 ⟨"EditablePast", "openCollection", "(I)LEditablePast$Collection;"⟩ : Cond) ∈ gt := gt_tab (List.mem_of_getElem? (i := 327) (by decide +kernel)) (by decide +kernel)
theorem tw_329 : (.instanceMethod ⟨"EditablePast", "openCollection", "(I)LEditablePast$Collection;"⟩ : Cond) ∈ gt := gt_tab (List.mem_of_getElem? (i := 329) (by decide +kernel)) (by decide +kernel)
theorem tw_332 : (.methodLink "EditablePastLaw" 97 ⟨"EditablePastLaw", "put", "(LEditablePast;IIIII)I"⟩ : Cond) ∈ gt := gt_tab (List.mem_of_getElem? (i := 332) (by decide +kernel)) (by decide +kernel)
theorem tw_333 : (.static ⟨"EditablePastLaw", "put", "(LEditablePast;IIIII)I"⟩ : Cond) ∈ gt := gt_tab (List.mem_of_getElem? (i := 333) (by decide +kernel)) (by decide +kernel)
theorem tw_335 : (.classLink "EditablePastLaw" 25 "java/lang/UnsupportedOperationException" : Cond) ∈ gt := gt_tab (List.mem_of_getElem? (i := 335) (by decide +kernel)) (by decide +kernel)
theorem tw_336 : (.methodLink "EditablePastLaw" 21 ⟨"EditablePast", "put", "(IIIII)V"⟩ : Cond) ∈ gt := gt_tab (List.mem_of_getElem? (i := 336) (by decide +kernel)) (by decide +kernel)
theorem tw_337 : (.instanceMethod ⟨"EditablePast", "put", "(IIIII)V"⟩ : Cond) ∈ gt := gt_tab (List.mem_of_getElem? (i := 337) (by decide +kernel)) (by decide +kernel)
theorem tw_338 : (.selects "EditablePast" ⟨"EditablePast", "put", "(IIIII)V"⟩ ⟨"EditablePast", "put", "(IIIII)V"⟩ : Cond) ∈ gt := gt_tab (List.mem_of_getElem? (i := 338) (by decide +kernel)) (by decide +kernel)
theorem tw_340 : (.methodLink "EditablePast" 93 ⟨"EditablePast", "checkMoment", "(I)V"⟩ : Cond) ∈ gt := gt_tab (List.mem_of_getElem? (i := 340) (by decide +kernel)) (by decide +kernel)
theorem tw_341 : (.static ⟨"EditablePast", "checkMoment", "(I)V"⟩ : Cond) ∈ gt := gt_tab (List.mem_of_getElem? (i := 341) (by decide +kernel)) (by decide +kernel)
theorem tw_343 : (.constant "EditablePast" 227 (1000000000) : Cond) ∈ gt := gt_tab (List.mem_of_getElem? (i := 343) (by decide +kernel)) (by decide +kernel)
theorem tw_345 : (.methodLink "EditablePast" 97 ⟨"EditablePast", "checkFree", "(LEditablePast$Line;I)V"⟩ : Cond) ∈ gt := gt_tab (List.mem_of_getElem? (i := 345) (by decide +kernel)) (by decide +kernel)
theorem tw_346 : (.static ⟨"EditablePast", "checkFree", "(LEditablePast$Line;I)V"⟩ : Cond) ∈ gt := gt_tab (List.mem_of_getElem? (i := 346) (by decide +kernel)) (by decide +kernel)
theorem tw_348 : (.methodLink "EditablePast" 130 ⟨"EditablePast$Line", "placeAt", "(I)I"⟩ : Cond) ∈ gt := gt_tab (List.mem_of_getElem? (i := 348) (by decide +kernel)) (by decide +kernel)
theorem tw_349 : (.instanceMethod ⟨"EditablePast$Line", "placeAt", "(I)I"⟩ : Cond) ∈ gt := gt_tab (List.mem_of_getElem? (i := 349) (by decide +kernel)) (by decide +kernel)
theorem tw_350 : (.selects "EditablePast$Line" ⟨"EditablePast$Line", "placeAt", "(I)I"⟩ ⟨"EditablePast$Line", "placeAt", "(I)I"⟩ : Cond) ∈ gt := gt_tab (List.mem_of_getElem? (i := 350) (by decide +kernel)) (by decide +kernel)
theorem tw_352 : (.methodLink "EditablePast$Line" 36 ⟨"EditablePast$Line", "placeFrom", "(I)I"⟩ : Cond) ∈ gt := gt_tab (List.mem_of_getElem? (i := 352) (by decide +kernel)) (by decide +kernel)
theorem tw_353 : (.instanceMethod ⟨"EditablePast$Line", "placeFrom", "(I)I"⟩ : Cond) ∈ gt := gt_tab (List.mem_of_getElem? (i := 353) (by decide +kernel)) (by decide +kernel)
theorem tw_354 : (.selects "EditablePast$Line" ⟨"EditablePast$Line", "placeFrom", "(I)I"⟩ ⟨"EditablePast$Line", "placeFrom", "(I)I"⟩ : Cond) ∈ gt := gt_tab (List.mem_of_getElem? (i := 354) (by decide +kernel)) (by decide +kernel)
theorem tw_358 : (.methodLink "EditablePast" 103 ⟨"EditablePast", "contentsOf", "(I)LEditablePast$Contents;"⟩ : Cond) ∈ gt := gt_tab (List.mem_of_getElem? (i := 358) (by decide +kernel)) (by decide +kernel)
theorem tw_360 : (.instanceMethod ⟨"EditablePast", "contentsOf", "(I)LEditablePast$Contents;"⟩ : Cond) ∈ gt := gt_tab (List.mem_of_getElem? (i := 360) (by decide +kernel)) (by decide +kernel)
theorem tw_362 : (.methodLink "EditablePast" 107 ⟨"EditablePast$Contents", "allows", "(III)Z"⟩ : Cond) ∈ gt := gt_tab (List.mem_of_getElem? (i := 362) (by decide +kernel)) (by decide +kernel)
theorem tw_364 : (.sameMethod "EditablePast$Contents" "EditablePast$Contents" "allows" "(III)Z" : Cond) ∈ gt := gt_tab (List.mem_of_getElem? (i := 364) (by decide +kernel)) (by decide +kernel)
theorem tw_365 : (.selects "EditablePast$Heap" ⟨"EditablePast$Contents", "allows", "(III)Z"⟩ ⟨"EditablePast$Bag", "allows", "(III)Z"⟩ : Cond) ∈ gt := gt_tab (List.mem_of_getElem? (i := 365) (by decide +kernel)) (by decide +kernel)
theorem tw_366 : (.instanceMethod ⟨"EditablePast$Bag", "allows", "(III)Z"⟩ : Cond) ∈ gt := gt_tab (List.mem_of_getElem? (i := 366) (by decide +kernel)) (by decide +kernel)
theorem tw_369 : (.static ⟨"EditablePast", "isValue", "(I)Z"⟩ : Cond) ∈ gt := gt_tab (List.mem_of_getElem? (i := 369) (by decide +kernel)) (by decide +kernel)
theorem tw_371 : (.selects "EditablePast$Queue" ⟨"EditablePast$Contents", "allows", "(III)Z"⟩ ⟨"EditablePast$Bag", "allows", "(III)Z"⟩ : Cond) ∈ gt := gt_tab (List.mem_of_getElem? (i := 371) (by decide +kernel)) (by decide +kernel)
theorem tw_372 : (.selects "EditablePast$Register" ⟨"EditablePast$Contents", "allows", "(III)Z"⟩ ⟨"EditablePast$Register", "allows", "(III)Z"⟩ : Cond) ∈ gt := gt_tab (List.mem_of_getElem? (i := 372) (by decide +kernel)) (by decide +kernel)
theorem tw_373 : (.instanceMethod ⟨"EditablePast$Register", "allows", "(III)Z"⟩ : Cond) ∈ gt := gt_tab (List.mem_of_getElem? (i := 373) (by decide +kernel)) (by decide +kernel)
theorem tw_375 : (.constant "EditablePast$Register" 9 (-1000000000) : Cond) ∈ gt := gt_tab (List.mem_of_getElem? (i := 375) (by decide +kernel)) (by decide +kernel)
theorem tw_376 : (.constant "EditablePast$Register" 10 (1000000000) : Cond) ∈ gt := gt_tab (List.mem_of_getElem? (i := 376) (by decide +kernel)) (by decide +kernel)
theorem tw_377 : (.selects "EditablePast$Sets" ⟨"EditablePast$Contents", "allows", "(III)Z"⟩ ⟨"EditablePast$Sets", "allows", "(III)Z"⟩ : Cond) ∈ gt := gt_tab (List.mem_of_getElem? (i := 377) (by decide +kernel)) (by decide +kernel)
theorem tw_378 : (.instanceMethod ⟨"EditablePast$Sets", "allows", "(III)Z"⟩ : Cond) ∈ gt := gt_tab (List.mem_of_getElem? (i := 378) (by decide +kernel)) (by decide +kernel)
theorem tw_381 : (.static ⟨"EditablePast", "isElement", "(I)Z"⟩ : Cond) ∈ gt := gt_tab (List.mem_of_getElem? (i := 381) (by decide +kernel)) (by decide +kernel)
theorem tw_383 : (.selects "EditablePast$Stack" ⟨"EditablePast$Contents", "allows", "(III)Z"⟩ ⟨"EditablePast$Bag", "allows", "(III)Z"⟩ : Cond) ∈ gt := gt_tab (List.mem_of_getElem? (i := 383) (by decide +kernel)) (by decide +kernel)
theorem tw_384 : (.selects "EditablePast$Table" ⟨"EditablePast$Contents", "allows", "(III)Z"⟩ ⟨"EditablePast$Table", "allows", "(III)Z"⟩ : Cond) ∈ gt := gt_tab (List.mem_of_getElem? (i := 384) (by decide +kernel)) (by decide +kernel)
theorem tw_385 : (.instanceMethod ⟨"EditablePast$Table", "allows", "(III)Z"⟩ : Cond) ∈ gt := gt_tab (List.mem_of_getElem? (i := 385) (by decide +kernel)) (by decide +kernel)
theorem tw_388 : (.classLink "EditablePast" 113 "java/lang/UnsupportedOperationException" : Cond) ∈ gt := gt_tab (List.mem_of_getElem? (i := 388) (by decide +kernel)) (by decide +kernel)
theorem tw_389 : (.instantiable "java/lang/UnsupportedOperationException" 6 : Cond) ∈ gt := gt_tab (List.mem_of_getElem? (i := 389) (by decide +kernel)) (by decide +kernel)
theorem tw_391 : (.selects "java/lang/UnsupportedOperationException" ⟨"java/lang/Throwable", "fillInStackTrace", "(I)Ljava/lang/Throwable;"⟩ ⟨"java/lang/Throwable", "fillInStackTrace", "(I)Ljava/lang/Throwable;"⟩ : Cond) ∈ gt := gt_tab (List.mem_of_getElem? (i := 391) (by decide +kernel)) (by decide +kernel)
theorem tw_392 : (.lays "java/lang/UnsupportedOperationException" "java/lang/Throwable" "cause" "Ljava/lang/Throwable;" : Cond) ∈ gt := gt_tab (List.mem_of_getElem? (i := 392) (by decide +kernel)) (by decide +kernel)
theorem tw_393 : (.lays "java/lang/UnsupportedOperationException" "java/lang/Throwable" "stackTrace" "[Ljava/lang/StackTraceElement;" : Cond) ∈ gt := gt_tab (List.mem_of_getElem? (i := 393) (by decide +kernel)) (by decide +kernel)
theorem tw_394 : (.lays "java/lang/UnsupportedOperationException" "java/lang/Throwable" "suppressedExceptions" "Ljava/util/List;" : Cond) ∈ gt := gt_tab (List.mem_of_getElem? (i := 394) (by decide +kernel)) (by decide +kernel)
theorem tw_395 : (.lays "java/lang/UnsupportedOperationException" "java/lang/Throwable" "detailMessage" "Ljava/lang/String;" : Cond) ∈ gt := gt_tab (List.mem_of_getElem? (i := 395) (by decide +kernel)) (by decide +kernel)
theorem tw_396 : (.lays "java/lang/UnsupportedOperationException" "java/lang/Throwable" "backtrace" "Ljava/lang/Object;" : Cond) ∈ gt := gt_tab (List.mem_of_getElem? (i := 396) (by decide +kernel)) (by decide +kernel)
theorem tw_398 : (.methodLink "EditablePast" 117 ⟨"java/lang/UnsupportedOperationException", "<init>", "(Ljava/lang/String;)V"⟩ : Cond) ∈ gt := gt_tab (List.mem_of_getElem? (i := 398) (by decide +kernel)) (by decide +kernel)
theorem tw_399 : (.instanceMethod ⟨"java/lang/UnsupportedOperationException", "<init>", "(Ljava/lang/String;)V"⟩ : Cond) ∈ gt := gt_tab (List.mem_of_getElem? (i := 399) (by decide +kernel)) (by decide +kernel)
theorem tw_401 : (.methodLink "java/lang/UnsupportedOperationException" 7 ⟨"java/lang/RuntimeException", "<init>", "(Ljava/lang/String;)V"⟩ : Cond) ∈ gt := gt_tab (List.mem_of_getElem? (i := 401) (by decide +kernel)) (by decide +kernel)
theorem tw_402 : (.lays "java/lang/UnsupportedOperationException" "java/lang/Throwable" "depth" "I" : Cond) ∈ gt := gt_tab (List.mem_of_getElem? (i := 402) (by decide +kernel)) (by decide +kernel)
theorem tw_404 : (.methodLink "EditablePast" 118 ⟨"EditablePast$Line", "copyFrom", "(LEditablePast$Line;)V"⟩ : Cond) ∈ gt := gt_tab (List.mem_of_getElem? (i := 404) (by decide +kernel)) (by decide +kernel)
theorem tw_405 : (.instanceMethod ⟨"EditablePast$Line", "copyFrom", "(LEditablePast$Line;)V"⟩ : Cond) ∈ gt := gt_tab (List.mem_of_getElem? (i := 405) (by decide +kernel)) (by decide +kernel)
theorem tw_406 : (.selects "EditablePast$Line" ⟨"EditablePast$Line", "copyFrom", "(LEditablePast$Line;)V"⟩ ⟨"EditablePast$Line", "copyFrom", "(LEditablePast$Line;)V"⟩ : Cond) ∈ gt := gt_tab (List.mem_of_getElem? (i := 406) (by decide +kernel)) (by decide +kernel)
theorem tw_408 : (.methodLink "EditablePast$Line" 40 ⟨"EditablePast$Line", "copyOperation", "(LEditablePast$Line;II)V"⟩ : Cond) ∈ gt := gt_tab (List.mem_of_getElem? (i := 408) (by decide +kernel)) (by decide +kernel)
theorem tw_410 : (.instanceMethod ⟨"EditablePast$Line", "copyOperation", "(LEditablePast$Line;II)V"⟩ : Cond) ∈ gt := gt_tab (List.mem_of_getElem? (i := 410) (by decide +kernel)) (by decide +kernel)
theorem tw_412 : (.methodLink "EditablePast" 122 ⟨"EditablePast$Line", "insert", "(IIII)V"⟩ : Cond) ∈ gt := gt_tab (List.mem_of_getElem? (i := 412) (by decide +kernel)) (by decide +kernel)
theorem tw_413 : (.instanceMethod ⟨"EditablePast$Line", "insert", "(IIII)V"⟩ : Cond) ∈ gt := gt_tab (List.mem_of_getElem? (i := 413) (by decide +kernel)) (by decide +kernel)
theorem tw_414 : (.selects "EditablePast$Line" ⟨"EditablePast$Line", "insert", "(IIII)V"⟩ ⟨"EditablePast$Line", "insert", "(IIII)V"⟩ : Cond) ∈ gt := gt_tab (List.mem_of_getElem? (i := 414) (by decide +kernel)) (by decide +kernel)
theorem tw_416 : (.methodLink "EditablePast" 126 ⟨"EditablePast$Line", "redo", "(LEditablePast$Contents;)V"⟩ : Cond) ∈ gt := gt_tab (List.mem_of_getElem? (i := 416) (by decide +kernel)) (by decide +kernel)
theorem tw_417 : (.instanceMethod ⟨"EditablePast$Line", "redo", "(LEditablePast$Contents;)V"⟩ : Cond) ∈ gt := gt_tab (List.mem_of_getElem? (i := 417) (by decide +kernel)) (by decide +kernel)
theorem tw_418 : (.selects "EditablePast$Line" ⟨"EditablePast$Line", "redo", "(LEditablePast$Contents;)V"⟩ ⟨"EditablePast$Line", "redo", "(LEditablePast$Contents;)V"⟩ : Cond) ∈ gt := gt_tab (List.mem_of_getElem? (i := 418) (by decide +kernel)) (by decide +kernel)
theorem tw_420 : (.methodLink "EditablePast$Line" 52 ⟨"EditablePast$Contents", "clear", "()V"⟩ : Cond) ∈ gt := gt_tab (List.mem_of_getElem? (i := 420) (by decide +kernel)) (by decide +kernel)
theorem tw_422 : (.sameMethod "EditablePast$Contents" "EditablePast$Contents" "clear" "()V" : Cond) ∈ gt := gt_tab (List.mem_of_getElem? (i := 422) (by decide +kernel)) (by decide +kernel)
theorem tw_423 : (.selects "EditablePast$Heap" ⟨"EditablePast$Contents", "clear", "()V"⟩ ⟨"EditablePast$Bag", "clear", "()V"⟩ : Cond) ∈ gt := gt_tab (List.mem_of_getElem? (i := 423) (by decide +kernel)) (by decide +kernel)
theorem tw_424 : (.instanceMethod ⟨"EditablePast$Bag", "clear", "()V"⟩ : Cond) ∈ gt := gt_tab (List.mem_of_getElem? (i := 424) (by decide +kernel)) (by decide +kernel)
theorem tw_426 : (.selects "EditablePast$Queue" ⟨"EditablePast$Contents", "clear", "()V"⟩ ⟨"EditablePast$Bag", "clear", "()V"⟩ : Cond) ∈ gt := gt_tab (List.mem_of_getElem? (i := 426) (by decide +kernel)) (by decide +kernel)
theorem tw_427 : (.selects "EditablePast$Register" ⟨"EditablePast$Contents", "clear", "()V"⟩ ⟨"EditablePast$Register", "clear", "()V"⟩ : Cond) ∈ gt := gt_tab (List.mem_of_getElem? (i := 427) (by decide +kernel)) (by decide +kernel)
theorem tw_428 : (.instanceMethod ⟨"EditablePast$Register", "clear", "()V"⟩ : Cond) ∈ gt := gt_tab (List.mem_of_getElem? (i := 428) (by decide +kernel)) (by decide +kernel)
theorem tw_430 : (.selects "EditablePast$Sets" ⟨"EditablePast$Contents", "clear", "()V"⟩ ⟨"EditablePast$Sets", "clear", "()V"⟩ : Cond) ∈ gt := gt_tab (List.mem_of_getElem? (i := 430) (by decide +kernel)) (by decide +kernel)
theorem tw_431 : (.instanceMethod ⟨"EditablePast$Sets", "clear", "()V"⟩ : Cond) ∈ gt := gt_tab (List.mem_of_getElem? (i := 431) (by decide +kernel)) (by decide +kernel)
theorem tw_433 : (.selects "EditablePast$Stack" ⟨"EditablePast$Contents", "clear", "()V"⟩ ⟨"EditablePast$Bag", "clear", "()V"⟩ : Cond) ∈ gt := gt_tab (List.mem_of_getElem? (i := 433) (by decide +kernel)) (by decide +kernel)
theorem tw_434 : (.selects "EditablePast$Table" ⟨"EditablePast$Contents", "clear", "()V"⟩ ⟨"EditablePast$Table", "clear", "()V"⟩ : Cond) ∈ gt := gt_tab (List.mem_of_getElem? (i := 434) (by decide +kernel)) (by decide +kernel)
theorem tw_435 : (.instanceMethod ⟨"EditablePast$Table", "clear", "()V"⟩ : Cond) ∈ gt := gt_tab (List.mem_of_getElem? (i := 435) (by decide +kernel)) (by decide +kernel)
theorem tw_437 : (.methodLink "EditablePast$Line" 57 ⟨"EditablePast$Contents", "perform", "(III)V"⟩ : Cond) ∈ gt := gt_tab (List.mem_of_getElem? (i := 437) (by decide +kernel)) (by decide +kernel)
theorem tw_439 : (.sameMethod "EditablePast$Contents" "EditablePast$Contents" "perform" "(III)V" : Cond) ∈ gt := gt_tab (List.mem_of_getElem? (i := 439) (by decide +kernel)) (by decide +kernel)
theorem tw_440 : (.selects "EditablePast$Heap" ⟨"EditablePast$Contents", "perform", "(III)V"⟩ ⟨"EditablePast$Bag", "perform", "(III)V"⟩ : Cond) ∈ gt := gt_tab (List.mem_of_getElem? (i := 440) (by decide +kernel)) (by decide +kernel)
theorem tw_441 : (.instanceMethod ⟨"EditablePast$Bag", "perform", "(III)V"⟩ : Cond) ∈ gt := gt_tab (List.mem_of_getElem? (i := 441) (by decide +kernel)) (by decide +kernel)
theorem tw_443 : (.methodLink "EditablePast$Bag" 23 ⟨"EditablePast$Bag", "placeFor", "(I)I"⟩ : Cond) ∈ gt := gt_tab (List.mem_of_getElem? (i := 443) (by decide +kernel)) (by decide +kernel)
theorem tw_445 : (.sameMethod "EditablePast$Bag" "EditablePast$Bag" "placeFor" "(I)I" : Cond) ∈ gt := gt_tab (List.mem_of_getElem? (i := 445) (by decide +kernel)) (by decide +kernel)
theorem tw_446 : (.selects "EditablePast$Heap" ⟨"EditablePast$Bag", "placeFor", "(I)I"⟩ ⟨"EditablePast$Heap", "placeFor", "(I)I"⟩ : Cond) ∈ gt := gt_tab (List.mem_of_getElem? (i := 446) (by decide +kernel)) (by decide +kernel)
theorem tw_447 : (.instanceMethod ⟨"EditablePast$Heap", "placeFor", "(I)I"⟩ : Cond) ∈ gt := gt_tab (List.mem_of_getElem? (i := 447) (by decide +kernel)) (by decide +kernel)
theorem tw_449 : (.selects "EditablePast$Queue" ⟨"EditablePast$Bag", "placeFor", "(I)I"⟩ ⟨"EditablePast$Queue", "placeFor", "(I)I"⟩ : Cond) ∈ gt := gt_tab (List.mem_of_getElem? (i := 449) (by decide +kernel)) (by decide +kernel)
theorem tw_450 : (.instanceMethod ⟨"EditablePast$Queue", "placeFor", "(I)I"⟩ : Cond) ∈ gt := gt_tab (List.mem_of_getElem? (i := 450) (by decide +kernel)) (by decide +kernel)
theorem tw_452 : (.selects "EditablePast$Stack" ⟨"EditablePast$Bag", "placeFor", "(I)I"⟩ ⟨"EditablePast$Stack", "placeFor", "(I)I"⟩ : Cond) ∈ gt := gt_tab (List.mem_of_getElem? (i := 452) (by decide +kernel)) (by decide +kernel)
theorem tw_453 : (.instanceMethod ⟨"EditablePast$Stack", "placeFor", "(I)I"⟩ : Cond) ∈ gt := gt_tab (List.mem_of_getElem? (i := 453) (by decide +kernel)) (by decide +kernel)
theorem tw_455 : (.methodLink "EditablePast$Bag" 27 ⟨"EditablePast$Bag", "insert", "(II)V"⟩ : Cond) ∈ gt := gt_tab (List.mem_of_getElem? (i := 455) (by decide +kernel)) (by decide +kernel)
theorem tw_457 : (.instanceMethod ⟨"EditablePast$Bag", "insert", "(II)V"⟩ : Cond) ∈ gt := gt_tab (List.mem_of_getElem? (i := 457) (by decide +kernel)) (by decide +kernel)
theorem tw_459 : (.methodLink "EditablePast$Bag" 31 ⟨"EditablePast$Bag", "noteEffect", "(J)V"⟩ : Cond) ∈ gt := gt_tab (List.mem_of_getElem? (i := 459) (by decide +kernel)) (by decide +kernel)
theorem tw_460 : (.sameMethod "EditablePast$Bag" "EditablePast$Contents" "noteEffect" "(J)V" : Cond) ∈ gt := gt_tab (List.mem_of_getElem? (i := 460) (by decide +kernel)) (by decide +kernel)
theorem tw_462 : (.selects "EditablePast$Heap" ⟨"EditablePast$Bag", "noteEffect", "(J)V"⟩ ⟨"EditablePast$Contents", "noteEffect", "(J)V"⟩ : Cond) ∈ gt := gt_tab (List.mem_of_getElem? (i := 462) (by decide +kernel)) (by decide +kernel)
theorem tw_463 : (.selects "EditablePast$Queue" ⟨"EditablePast$Bag", "noteEffect", "(J)V"⟩ ⟨"EditablePast$Contents", "noteEffect", "(J)V"⟩ : Cond) ∈ gt := gt_tab (List.mem_of_getElem? (i := 463) (by decide +kernel)) (by decide +kernel)
theorem tw_464 : (.selects "EditablePast$Stack" ⟨"EditablePast$Bag", "noteEffect", "(J)V"⟩ ⟨"EditablePast$Contents", "noteEffect", "(J)V"⟩ : Cond) ∈ gt := gt_tab (List.mem_of_getElem? (i := 464) (by decide +kernel)) (by decide +kernel)
theorem tw_465 : (.instanceMethod ⟨"EditablePast$Contents", "noteEffect", "(J)V"⟩ : Cond) ∈ gt := gt_tab (List.mem_of_getElem? (i := 465) (by decide +kernel)) (by decide +kernel)
theorem tw_467 : (.methodLink "EditablePast$Bag" 35 ⟨"EditablePast$Bag", "removeFirst", "()I"⟩ : Cond) ∈ gt := gt_tab (List.mem_of_getElem? (i := 467) (by decide +kernel)) (by decide +kernel)
theorem tw_469 : (.instanceMethod ⟨"EditablePast$Bag", "removeFirst", "()I"⟩ : Cond) ∈ gt := gt_tab (List.mem_of_getElem? (i := 469) (by decide +kernel)) (by decide +kernel)
theorem tw_471 : (.methodLink "EditablePast$Bag" 39 ⟨"EditablePast$Bag", "noteNoEffect", "()V"⟩ : Cond) ∈ gt := gt_tab (List.mem_of_getElem? (i := 471) (by decide +kernel)) (by decide +kernel)
theorem tw_472 : (.sameMethod "EditablePast$Bag" "EditablePast$Contents" "noteNoEffect" "()V" : Cond) ∈ gt := gt_tab (List.mem_of_getElem? (i := 472) (by decide +kernel)) (by decide +kernel)
theorem tw_474 : (.selects "EditablePast$Heap" ⟨"EditablePast$Bag", "noteNoEffect", "()V"⟩ ⟨"EditablePast$Contents", "noteNoEffect", "()V"⟩ : Cond) ∈ gt := gt_tab (List.mem_of_getElem? (i := 474) (by decide +kernel)) (by decide +kernel)
theorem tw_475 : (.selects "EditablePast$Queue" ⟨"EditablePast$Bag", "noteNoEffect", "()V"⟩ ⟨"EditablePast$Contents", "noteNoEffect", "()V"⟩ : Cond) ∈ gt := gt_tab (List.mem_of_getElem? (i := 475) (by decide +kernel)) (by decide +kernel)
theorem tw_476 : (.selects "EditablePast$Stack" ⟨"EditablePast$Bag", "noteNoEffect", "()V"⟩ ⟨"EditablePast$Contents", "noteNoEffect", "()V"⟩ : Cond) ∈ gt := gt_tab (List.mem_of_getElem? (i := 476) (by decide +kernel)) (by decide +kernel)
theorem tw_477 : (.instanceMethod ⟨"EditablePast$Contents", "noteNoEffect", "()V"⟩ : Cond) ∈ gt := gt_tab (List.mem_of_getElem? (i := 477) (by decide +kernel)) (by decide +kernel)
theorem tw_479 : (.selects "EditablePast$Queue" ⟨"EditablePast$Contents", "perform", "(III)V"⟩ ⟨"EditablePast$Bag", "perform", "(III)V"⟩ : Cond) ∈ gt := gt_tab (List.mem_of_getElem? (i := 479) (by decide +kernel)) (by decide +kernel)
theorem tw_480 : (.selects "EditablePast$Register" ⟨"EditablePast$Contents", "perform", "(III)V"⟩ ⟨"EditablePast$Register", "perform", "(III)V"⟩ : Cond) ∈ gt := gt_tab (List.mem_of_getElem? (i := 480) (by decide +kernel)) (by decide +kernel)
theorem tw_481 : (.instanceMethod ⟨"EditablePast$Register", "perform", "(III)V"⟩ : Cond) ∈ gt := gt_tab (List.mem_of_getElem? (i := 481) (by decide +kernel)) (by decide +kernel)
theorem tw_483 : (.methodLink "EditablePast$Register" 17 ⟨"java/lang/Math", "max", "(JJ)J"⟩ : Cond) ∈ gt := gt_tab (List.mem_of_getElem? (i := 483) (by decide +kernel)) (by decide +kernel)
theorem tw_484 : (.static ⟨"java/lang/Math", "max", "(JJ)J"⟩ : Cond) ∈ gt := gt_tab (List.mem_of_getElem? (i := 484) (by decide +kernel)) (by decide +kernel)
theorem tw_486 : (.methodLink "EditablePast$Register" 23 ⟨"EditablePast$Register", "noteEffect", "(J)V"⟩ : Cond) ∈ gt := gt_tab (List.mem_of_getElem? (i := 486) (by decide +kernel)) (by decide +kernel)
theorem tw_487 : (.sameMethod "EditablePast$Register" "EditablePast$Contents" "noteEffect" "(J)V" : Cond) ∈ gt := gt_tab (List.mem_of_getElem? (i := 487) (by decide +kernel)) (by decide +kernel)
theorem tw_488 : (.selects "EditablePast$Register" ⟨"EditablePast$Register", "noteEffect", "(J)V"⟩ ⟨"EditablePast$Contents", "noteEffect", "(J)V"⟩ : Cond) ∈ gt := gt_tab (List.mem_of_getElem? (i := 488) (by decide +kernel)) (by decide +kernel)
theorem tw_489 : (.selects "EditablePast$Sets" ⟨"EditablePast$Contents", "perform", "(III)V"⟩ ⟨"EditablePast$Sets", "perform", "(III)V"⟩ : Cond) ∈ gt := gt_tab (List.mem_of_getElem? (i := 489) (by decide +kernel)) (by decide +kernel)
theorem tw_490 : (.instanceMethod ⟨"EditablePast$Sets", "perform", "(III)V"⟩ : Cond) ∈ gt := gt_tab (List.mem_of_getElem? (i := 490) (by decide +kernel)) (by decide +kernel)
theorem tw_492 : (.methodLink "EditablePast$Sets" 23 ⟨"EditablePast$Sets", "noteNoEffect", "()V"⟩ : Cond) ∈ gt := gt_tab (List.mem_of_getElem? (i := 492) (by decide +kernel)) (by decide +kernel)
theorem tw_493 : (.sameMethod "EditablePast$Sets" "EditablePast$Contents" "noteNoEffect" "()V" : Cond) ∈ gt := gt_tab (List.mem_of_getElem? (i := 493) (by decide +kernel)) (by decide +kernel)
theorem tw_494 : (.selects "EditablePast$Sets" ⟨"EditablePast$Sets", "noteNoEffect", "()V"⟩ ⟨"EditablePast$Contents", "noteNoEffect", "()V"⟩ : Cond) ∈ gt := gt_tab (List.mem_of_getElem? (i := 494) (by decide +kernel)) (by decide +kernel)
theorem tw_495 : (.methodLink "EditablePast$Sets" 26 ⟨"EditablePast$Sets", "noteEffect", "(J)V"⟩ : Cond) ∈ gt := gt_tab (List.mem_of_getElem? (i := 495) (by decide +kernel)) (by decide +kernel)
theorem tw_496 : (.sameMethod "EditablePast$Sets" "EditablePast$Contents" "noteEffect" "(J)V" : Cond) ∈ gt := gt_tab (List.mem_of_getElem? (i := 496) (by decide +kernel)) (by decide +kernel)
theorem tw_497 : (.selects "EditablePast$Sets" ⟨"EditablePast$Sets", "noteEffect", "(J)V"⟩ ⟨"EditablePast$Contents", "noteEffect", "(J)V"⟩ : Cond) ∈ gt := gt_tab (List.mem_of_getElem? (i := 497) (by decide +kernel)) (by decide +kernel)
theorem tw_498 : (.selects "EditablePast$Stack" ⟨"EditablePast$Contents", "perform", "(III)V"⟩ ⟨"EditablePast$Bag", "perform", "(III)V"⟩ : Cond) ∈ gt := gt_tab (List.mem_of_getElem? (i := 498) (by decide +kernel)) (by decide +kernel)
theorem tw_499 : (.selects "EditablePast$Table" ⟨"EditablePast$Contents", "perform", "(III)V"⟩ ⟨"EditablePast$Table", "perform", "(III)V"⟩ : Cond) ∈ gt := gt_tab (List.mem_of_getElem? (i := 499) (by decide +kernel)) (by decide +kernel)
theorem tw_500 : (.instanceMethod ⟨"EditablePast$Table", "perform", "(III)V"⟩ : Cond) ∈ gt := gt_tab (List.mem_of_getElem? (i := 500) (by decide +kernel)) (by decide +kernel)
theorem tw_502 : (.methodLink "EditablePast$Table" 26 ⟨"EditablePast$Table", "placeOf", "(I)I"⟩ : Cond) ∈ gt := gt_tab (List.mem_of_getElem? (i := 502) (by decide +kernel)) (by decide +kernel)
theorem tw_503 : (.instanceMethod ⟨"EditablePast$Table", "placeOf", "(I)I"⟩ : Cond) ∈ gt := gt_tab (List.mem_of_getElem? (i := 503) (by decide +kernel)) (by decide +kernel)
theorem tw_504 : (.selects "EditablePast$Table" ⟨"EditablePast$Table", "placeOf", "(I)I"⟩ ⟨"EditablePast$Table", "placeOf", "(I)I"⟩ : Cond) ∈ gt := gt_tab (List.mem_of_getElem? (i := 504) (by decide +kernel)) (by decide +kernel)
theorem tw_506 : (.methodLink "EditablePast$Table" 30 ⟨"EditablePast$Table", "add", "(II)V"⟩ : Cond) ∈ gt := gt_tab (List.mem_of_getElem? (i := 506) (by decide +kernel)) (by decide +kernel)
theorem tw_508 : (.instanceMethod ⟨"EditablePast$Table", "add", "(II)V"⟩ : Cond) ∈ gt := gt_tab (List.mem_of_getElem? (i := 508) (by decide +kernel)) (by decide +kernel)
theorem tw_510 : (.methodLink "EditablePast$Table" 34 ⟨"EditablePast$Table", "noteEffect", "(J)V"⟩ : Cond) ∈ gt := gt_tab (List.mem_of_getElem? (i := 510) (by decide +kernel)) (by decide +kernel)
theorem tw_511 : (.sameMethod "EditablePast$Table" "EditablePast$Contents" "noteEffect" "(J)V" : Cond) ∈ gt := gt_tab (List.mem_of_getElem? (i := 511) (by decide +kernel)) (by decide +kernel)
theorem tw_512 : (.selects "EditablePast$Table" ⟨"EditablePast$Table", "noteEffect", "(J)V"⟩ ⟨"EditablePast$Contents", "noteEffect", "(J)V"⟩ : Cond) ∈ gt := gt_tab (List.mem_of_getElem? (i := 512) (by decide +kernel)) (by decide +kernel)
theorem tw_513 : (.methodLink "EditablePast$Table" 38 ⟨"EditablePast$Table", "remove", "(I)V"⟩ : Cond) ∈ gt := gt_tab (List.mem_of_getElem? (i := 513) (by decide +kernel)) (by decide +kernel)
theorem tw_515 : (.instanceMethod ⟨"EditablePast$Table", "remove", "(I)V"⟩ : Cond) ∈ gt := gt_tab (List.mem_of_getElem? (i := 515) (by decide +kernel)) (by decide +kernel)
theorem tw_517 : (.methodLink "EditablePast$Table" 42 ⟨"EditablePast$Table", "noteNoEffect", "()V"⟩ : Cond) ∈ gt := gt_tab (List.mem_of_getElem? (i := 517) (by decide +kernel)) (by decide +kernel)
theorem tw_518 : (.sameMethod "EditablePast$Table" "EditablePast$Contents" "noteNoEffect" "()V" : Cond) ∈ gt := gt_tab (List.mem_of_getElem? (i := 518) (by decide +kernel)) (by decide +kernel)
theorem tw_519 : (.selects "EditablePast$Table" ⟨"EditablePast$Table", "noteNoEffect", "()V"⟩ ⟨"EditablePast$Contents", "noteNoEffect", "()V"⟩ : Cond) ∈ gt := gt_tab (List.mem_of_getElem? (i := 519) (by decide +kernel)) (by decide +kernel)
theorem tw_520 : (.methodLink "EditablePastLaw" 101 ⟨"EditablePastLaw", "strike", "(LEditablePast;II[J)I"⟩ : Cond) ∈ gt := gt_tab (List.mem_of_getElem? (i := 520) (by decide +kernel)) (by decide +kernel)
theorem tw_521 : (.static ⟨"EditablePastLaw", "strike", "(LEditablePast;II[J)I"⟩ : Cond) ∈ gt := gt_tab (List.mem_of_getElem? (i := 521) (by decide +kernel)) (by decide +kernel)
theorem tw_523 : (.methodLink "EditablePastLaw" 27 ⟨"EditablePast", "strike", "(II)Z"⟩ : Cond) ∈ gt := gt_tab (List.mem_of_getElem? (i := 523) (by decide +kernel)) (by decide +kernel)
theorem tw_524 : (.instanceMethod ⟨"EditablePast", "strike", "(II)Z"⟩ : Cond) ∈ gt := gt_tab (List.mem_of_getElem? (i := 524) (by decide +kernel)) (by decide +kernel)
theorem tw_525 : (.selects "EditablePast" ⟨"EditablePast", "strike", "(II)Z"⟩ ⟨"EditablePast", "strike", "(II)Z"⟩ : Cond) ∈ gt := gt_tab (List.mem_of_getElem? (i := 525) (by decide +kernel)) (by decide +kernel)
theorem tw_527 : (.methodLink "EditablePast" 134 ⟨"EditablePast$Line", "remove", "(I)V"⟩ : Cond) ∈ gt := gt_tab (List.mem_of_getElem? (i := 527) (by decide +kernel)) (by decide +kernel)
theorem tw_528 : (.instanceMethod ⟨"EditablePast$Line", "remove", "(I)V"⟩ : Cond) ∈ gt := gt_tab (List.mem_of_getElem? (i := 528) (by decide +kernel)) (by decide +kernel)
theorem tw_529 : (.selects "EditablePast$Line" ⟨"EditablePast$Line", "remove", "(I)V"⟩ ⟨"EditablePast$Line", "remove", "(I)V"⟩ : Cond) ∈ gt := gt_tab (List.mem_of_getElem? (i := 529) (by decide +kernel)) (by decide +kernel)
theorem tw_531 : (.methodLink "EditablePastLaw" 105 ⟨"EditablePastLaw", "shift", "(LEditablePast;III)I"⟩ : Cond) ∈ gt := gt_tab (List.mem_of_getElem? (i := 531) (by decide +kernel)) (by decide +kernel)
theorem tw_532 : (.static ⟨"EditablePastLaw", "shift", "(LEditablePast;III)I"⟩ : Cond) ∈ gt := gt_tab (List.mem_of_getElem? (i := 532) (by decide +kernel)) (by decide +kernel)
theorem tw_534 : (.classLink "EditablePastLaw" 35 "java/util/NoSuchElementException" : Cond) ∈ gt := gt_tab (List.mem_of_getElem? (i := 534) (by decide +kernel)) (by decide +kernel)
theorem tw_535 : (.methodLink "EditablePastLaw" 31 ⟨"EditablePast", "shift", "(III)V"⟩ : Cond) ∈ gt := gt_tab (List.mem_of_getElem? (i := 535) (by decide +kernel)) (by decide +kernel)
theorem tw_536 : (.instanceMethod ⟨"EditablePast", "shift", "(III)V"⟩ : Cond) ∈ gt := gt_tab (List.mem_of_getElem? (i := 536) (by decide +kernel)) (by decide +kernel)
theorem tw_537 : (.selects "EditablePast" ⟨"EditablePast", "shift", "(III)V"⟩ ⟨"EditablePast", "shift", "(III)V"⟩ : Cond) ∈ gt := gt_tab (List.mem_of_getElem? (i := 537) (by decide +kernel)) (by decide +kernel)
theorem tw_539 : (.methodLink "EditablePast" 137 ⟨"EditablePast", "takenPlace", "(LEditablePast$Line;I)I"⟩ : Cond) ∈ gt := gt_tab (List.mem_of_getElem? (i := 539) (by decide +kernel)) (by decide +kernel)
theorem tw_540 : (.static ⟨"EditablePast", "takenPlace", "(LEditablePast$Line;I)I"⟩ : Cond) ∈ gt := gt_tab (List.mem_of_getElem? (i := 540) (by decide +kernel)) (by decide +kernel)
theorem tw_542 : (.classLink "EditablePast" 156 "java/util/NoSuchElementException" : Cond) ∈ gt := gt_tab (List.mem_of_getElem? (i := 542) (by decide +kernel)) (by decide +kernel)
theorem tw_543 : (.instantiable "java/util/NoSuchElementException" 6 : Cond) ∈ gt := gt_tab (List.mem_of_getElem? (i := 543) (by decide +kernel)) (by decide +kernel)
theorem tw_545 : (.selects "java/util/NoSuchElementException" ⟨"java/lang/Throwable", "fillInStackTrace", "(I)Ljava/lang/Throwable;"⟩ ⟨"java/lang/Throwable", "fillInStackTrace", "(I)Ljava/lang/Throwable;"⟩ : Cond) ∈ gt := gt_tab (List.mem_of_getElem? (i := 545) (by decide +kernel)) (by decide +kernel)
theorem tw_546 : (.lays "java/util/NoSuchElementException" "java/lang/Throwable" "cause" "Ljava/lang/Throwable;" : Cond) ∈ gt := gt_tab (List.mem_of_getElem? (i := 546) (by decide +kernel)) (by decide +kernel)
theorem tw_547 : (.lays "java/util/NoSuchElementException" "java/lang/Throwable" "stackTrace" "[Ljava/lang/StackTraceElement;" : Cond) ∈ gt := gt_tab (List.mem_of_getElem? (i := 547) (by decide +kernel)) (by decide +kernel)
theorem tw_548 : (.lays "java/util/NoSuchElementException" "java/lang/Throwable" "suppressedExceptions" "Ljava/util/List;" : Cond) ∈ gt := gt_tab (List.mem_of_getElem? (i := 548) (by decide +kernel)) (by decide +kernel)
theorem tw_549 : (.lays "java/util/NoSuchElementException" "java/lang/Throwable" "detailMessage" "Ljava/lang/String;" : Cond) ∈ gt := gt_tab (List.mem_of_getElem? (i := 549) (by decide +kernel)) (by decide +kernel)
theorem tw_550 : (.lays "java/util/NoSuchElementException" "java/lang/Throwable" "backtrace" "Ljava/lang/Object;" : Cond) ∈ gt := gt_tab (List.mem_of_getElem? (i := 550) (by decide +kernel)) (by decide +kernel)
theorem tw_552 : (.methodLink "EditablePast" 160 ⟨"java/util/NoSuchElementException", "<init>", "(Ljava/lang/String;)V"⟩ : Cond) ∈ gt := gt_tab (List.mem_of_getElem? (i := 552) (by decide +kernel)) (by decide +kernel)
theorem tw_553 : (.instanceMethod ⟨"java/util/NoSuchElementException", "<init>", "(Ljava/lang/String;)V"⟩ : Cond) ∈ gt := gt_tab (List.mem_of_getElem? (i := 553) (by decide +kernel)) (by decide +kernel)
theorem tw_555 : (.methodLink "java/util/NoSuchElementException" 13 ⟨"java/lang/RuntimeException", "<init>", "(Ljava/lang/String;)V"⟩ : Cond) ∈ gt := gt_tab (List.mem_of_getElem? (i := 555) (by decide +kernel)) (by decide +kernel)
theorem tw_556 : (.lays "java/util/NoSuchElementException" "java/lang/Throwable" "depth" "I" : Cond) ∈ gt := gt_tab (List.mem_of_getElem? (i := 556) (by decide +kernel)) (by decide +kernel)
theorem tw_558 : (.methodLink "EditablePast" 141 ⟨"EditablePast$Line", "relocate", "(II)V"⟩ : Cond) ∈ gt := gt_tab (List.mem_of_getElem? (i := 558) (by decide +kernel)) (by decide +kernel)
theorem tw_559 : (.instanceMethod ⟨"EditablePast$Line", "relocate", "(II)V"⟩ : Cond) ∈ gt := gt_tab (List.mem_of_getElem? (i := 559) (by decide +kernel)) (by decide +kernel)
theorem tw_560 : (.selects "EditablePast$Line" ⟨"EditablePast$Line", "relocate", "(II)V"⟩ ⟨"EditablePast$Line", "relocate", "(II)V"⟩ : Cond) ∈ gt := gt_tab (List.mem_of_getElem? (i := 560) (by decide +kernel)) (by decide +kernel)
theorem tw_562 : (.methodLink "EditablePast$Line" 44 ⟨"EditablePast$Line", "remove", "(I)V"⟩ : Cond) ∈ gt := gt_tab (List.mem_of_getElem? (i := 562) (by decide +kernel)) (by decide +kernel)
theorem tw_563 : (.methodLink "EditablePast$Line" 48 ⟨"EditablePast$Line", "insert", "(IIII)V"⟩ : Cond) ∈ gt := gt_tab (List.mem_of_getElem? (i := 563) (by decide +kernel)) (by decide +kernel)
theorem tw_564 : (.methodLink "EditablePastLaw" 109 ⟨"EditablePastLaw", "front", "(LEditablePast;II[J)I"⟩ : Cond) ∈ gt := gt_tab (List.mem_of_getElem? (i := 564) (by decide +kernel)) (by decide +kernel)
theorem tw_565 : (.static ⟨"EditablePastLaw", "front", "(LEditablePast;II[J)I"⟩ : Cond) ∈ gt := gt_tab (List.mem_of_getElem? (i := 565) (by decide +kernel)) (by decide +kernel)
theorem tw_567 : (.methodLink "EditablePastLaw" 37 ⟨"EditablePast", "front", "(II)I"⟩ : Cond) ∈ gt := gt_tab (List.mem_of_getElem? (i := 567) (by decide +kernel)) (by decide +kernel)
theorem tw_568 : (.instanceMethod ⟨"EditablePast", "front", "(II)I"⟩ : Cond) ∈ gt := gt_tab (List.mem_of_getElem? (i := 568) (by decide +kernel)) (by decide +kernel)
theorem tw_569 : (.selects "EditablePast" ⟨"EditablePast", "front", "(II)I"⟩ ⟨"EditablePast", "front", "(II)I"⟩ : Cond) ∈ gt := gt_tab (List.mem_of_getElem? (i := 569) (by decide +kernel)) (by decide +kernel)
theorem tw_571 : (.methodLink "EditablePast" 145 ⟨"EditablePast", "checkKind", "(Z)V"⟩ : Cond) ∈ gt := gt_tab (List.mem_of_getElem? (i := 571) (by decide +kernel)) (by decide +kernel)
theorem tw_572 : (.static ⟨"EditablePast", "checkKind", "(Z)V"⟩ : Cond) ∈ gt := gt_tab (List.mem_of_getElem? (i := 572) (by decide +kernel)) (by decide +kernel)
theorem tw_575 : (.methodLink "EditablePast" 149 ⟨"EditablePast$Line", "runUpTo", "(ILEditablePast$Contents;)V"⟩ : Cond) ∈ gt := gt_tab (List.mem_of_getElem? (i := 575) (by decide +kernel)) (by decide +kernel)
theorem tw_576 : (.instanceMethod ⟨"EditablePast$Line", "runUpTo", "(ILEditablePast$Contents;)V"⟩ : Cond) ∈ gt := gt_tab (List.mem_of_getElem? (i := 576) (by decide +kernel)) (by decide +kernel)
theorem tw_577 : (.selects "EditablePast$Line" ⟨"EditablePast$Line", "runUpTo", "(ILEditablePast$Contents;)V"⟩ ⟨"EditablePast$Line", "runUpTo", "(ILEditablePast$Contents;)V"⟩ : Cond) ∈ gt := gt_tab (List.mem_of_getElem? (i := 577) (by decide +kernel)) (by decide +kernel)
theorem tw_580 : (.methodLink "EditablePastLaw" 112 ⟨"EditablePastLaw", "size", "(LEditablePast;II[J)I"⟩ : Cond) ∈ gt := gt_tab (List.mem_of_getElem? (i := 580) (by decide +kernel)) (by decide +kernel)
theorem tw_581 : (.static ⟨"EditablePastLaw", "size", "(LEditablePast;II[J)I"⟩ : Cond) ∈ gt := gt_tab (List.mem_of_getElem? (i := 581) (by decide +kernel)) (by decide +kernel)
theorem tw_583 : (.methodLink "EditablePastLaw" 41 ⟨"EditablePast", "size", "(II)I"⟩ : Cond) ∈ gt := gt_tab (List.mem_of_getElem? (i := 583) (by decide +kernel)) (by decide +kernel)
theorem tw_584 : (.instanceMethod ⟨"EditablePast", "size", "(II)I"⟩ : Cond) ∈ gt := gt_tab (List.mem_of_getElem? (i := 584) (by decide +kernel)) (by decide +kernel)
theorem tw_585 : (.selects "EditablePast" ⟨"EditablePast", "size", "(II)I"⟩ ⟨"EditablePast", "size", "(II)I"⟩ : Cond) ∈ gt := gt_tab (List.mem_of_getElem? (i := 585) (by decide +kernel)) (by decide +kernel)
theorem tw_587 : (.methodLink "EditablePastLaw" 115 ⟨"EditablePastLaw", "at", "(LEditablePast;III[J)I"⟩ : Cond) ∈ gt := gt_tab (List.mem_of_getElem? (i := 587) (by decide +kernel)) (by decide +kernel)
theorem tw_588 : (.static ⟨"EditablePastLaw", "at", "(LEditablePast;III[J)I"⟩ : Cond) ∈ gt := gt_tab (List.mem_of_getElem? (i := 588) (by decide +kernel)) (by decide +kernel)
theorem tw_590 : (.methodLink "EditablePastLaw" 44 ⟨"EditablePast", "at", "(III)I"⟩ : Cond) ∈ gt := gt_tab (List.mem_of_getElem? (i := 590) (by decide +kernel)) (by decide +kernel)
theorem tw_591 : (.instanceMethod ⟨"EditablePast", "at", "(III)I"⟩ : Cond) ∈ gt := gt_tab (List.mem_of_getElem? (i := 591) (by decide +kernel)) (by decide +kernel)
theorem tw_592 : (.selects "EditablePast" ⟨"EditablePast", "at", "(III)I"⟩ ⟨"EditablePast", "at", "(III)I"⟩ : Cond) ∈ gt := gt_tab (List.mem_of_getElem? (i := 592) (by decide +kernel)) (by decide +kernel)
theorem tw_594 : (.methodLink "EditablePast" 166 ⟨"EditablePast$Table", "placeOf", "(I)I"⟩ : Cond) ∈ gt := gt_tab (List.mem_of_getElem? (i := 594) (by decide +kernel)) (by decide +kernel)
theorem tw_596 : (.methodLink "EditablePastLaw" 119 ⟨"EditablePastLaw", "least", "(LEditablePast;III[J)I"⟩ : Cond) ∈ gt := gt_tab (List.mem_of_getElem? (i := 596) (by decide +kernel)) (by decide +kernel)
theorem tw_597 : (.static ⟨"EditablePastLaw", "least", "(LEditablePast;III[J)I"⟩ : Cond) ∈ gt := gt_tab (List.mem_of_getElem? (i := 597) (by decide +kernel)) (by decide +kernel)
theorem tw_599 : (.classLink "EditablePastLaw" 51 "java/lang/IndexOutOfBoundsException" : Cond) ∈ gt := gt_tab (List.mem_of_getElem? (i := 599) (by decide +kernel)) (by decide +kernel)
theorem tw_600 : (.methodLink "EditablePastLaw" 48 ⟨"EditablePast", "least", "(III)I"⟩ : Cond) ∈ gt := gt_tab (List.mem_of_getElem? (i := 600) (by decide +kernel)) (by decide +kernel)
theorem tw_601 : (.instanceMethod ⟨"EditablePast", "least", "(III)I"⟩ : Cond) ∈ gt := gt_tab (List.mem_of_getElem? (i := 601) (by decide +kernel)) (by decide +kernel)
theorem tw_602 : (.selects "EditablePast" ⟨"EditablePast", "least", "(III)I"⟩ ⟨"EditablePast", "least", "(III)I"⟩ : Cond) ∈ gt := gt_tab (List.mem_of_getElem? (i := 602) (by decide +kernel)) (by decide +kernel)
theorem tw_604 : (.classLink "EditablePast" 173 "java/lang/IndexOutOfBoundsException" : Cond) ∈ gt := gt_tab (List.mem_of_getElem? (i := 604) (by decide +kernel)) (by decide +kernel)
theorem tw_605 : (.instantiable "java/lang/IndexOutOfBoundsException" 6 : Cond) ∈ gt := gt_tab (List.mem_of_getElem? (i := 605) (by decide +kernel)) (by decide +kernel)
theorem tw_607 : (.selects "java/lang/IndexOutOfBoundsException" ⟨"java/lang/Throwable", "fillInStackTrace", "(I)Ljava/lang/Throwable;"⟩ ⟨"java/lang/Throwable", "fillInStackTrace", "(I)Ljava/lang/Throwable;"⟩ : Cond) ∈ gt := gt_tab (List.mem_of_getElem? (i := 607) (by decide +kernel)) (by decide +kernel)
theorem tw_608 : (.lays "java/lang/IndexOutOfBoundsException" "java/lang/Throwable" "cause" "Ljava/lang/Throwable;" : Cond) ∈ gt := gt_tab (List.mem_of_getElem? (i := 608) (by decide +kernel)) (by decide +kernel)
theorem tw_609 : (.lays "java/lang/IndexOutOfBoundsException" "java/lang/Throwable" "stackTrace" "[Ljava/lang/StackTraceElement;" : Cond) ∈ gt := gt_tab (List.mem_of_getElem? (i := 609) (by decide +kernel)) (by decide +kernel)
theorem tw_610 : (.lays "java/lang/IndexOutOfBoundsException" "java/lang/Throwable" "suppressedExceptions" "Ljava/util/List;" : Cond) ∈ gt := gt_tab (List.mem_of_getElem? (i := 610) (by decide +kernel)) (by decide +kernel)
theorem tw_611 : (.lays "java/lang/IndexOutOfBoundsException" "java/lang/Throwable" "detailMessage" "Ljava/lang/String;" : Cond) ∈ gt := gt_tab (List.mem_of_getElem? (i := 611) (by decide +kernel)) (by decide +kernel)
theorem tw_612 : (.lays "java/lang/IndexOutOfBoundsException" "java/lang/Throwable" "backtrace" "Ljava/lang/Object;" : Cond) ∈ gt := gt_tab (List.mem_of_getElem? (i := 612) (by decide +kernel)) (by decide +kernel)
theorem tw_614 : (.methodLink "EditablePast" 177 ⟨"java/lang/IndexOutOfBoundsException", "<init>", "(Ljava/lang/String;)V"⟩ : Cond) ∈ gt := gt_tab (List.mem_of_getElem? (i := 614) (by decide +kernel)) (by decide +kernel)
theorem tw_615 : (.instanceMethod ⟨"java/lang/IndexOutOfBoundsException", "<init>", "(Ljava/lang/String;)V"⟩ : Cond) ∈ gt := gt_tab (List.mem_of_getElem? (i := 615) (by decide +kernel)) (by decide +kernel)
theorem tw_617 : (.methodLink "java/lang/IndexOutOfBoundsException" 7 ⟨"java/lang/RuntimeException", "<init>", "(Ljava/lang/String;)V"⟩ : Cond) ∈ gt := gt_tab (List.mem_of_getElem? (i := 617) (by decide +kernel)) (by decide +kernel)
theorem tw_618 : (.lays "java/lang/IndexOutOfBoundsException" "java/lang/Throwable" "depth" "I" : Cond) ∈ gt := gt_tab (List.mem_of_getElem? (i := 618) (by decide +kernel)) (by decide +kernel)
theorem tw_620 : (.methodLink "EditablePastLaw" 122 ⟨"EditablePastLaw", "sum", "(LEditablePast;II[J)I"⟩ : Cond) ∈ gt := gt_tab (List.mem_of_getElem? (i := 620) (by decide +kernel)) (by decide +kernel)
theorem tw_621 : (.static ⟨"EditablePastLaw", "sum", "(LEditablePast;II[J)I"⟩ : Cond) ∈ gt := gt_tab (List.mem_of_getElem? (i := 621) (by decide +kernel)) (by decide +kernel)
theorem tw_623 : (.methodLink "EditablePastLaw" 53 ⟨"EditablePast", "sum", "(II)J"⟩ : Cond) ∈ gt := gt_tab (List.mem_of_getElem? (i := 623) (by decide +kernel)) (by decide +kernel)
theorem tw_624 : (.instanceMethod ⟨"EditablePast", "sum", "(II)J"⟩ : Cond) ∈ gt := gt_tab (List.mem_of_getElem? (i := 624) (by decide +kernel)) (by decide +kernel)
theorem tw_625 : (.selects "EditablePast" ⟨"EditablePast", "sum", "(II)J"⟩ ⟨"EditablePast", "sum", "(II)J"⟩ : Cond) ∈ gt := gt_tab (List.mem_of_getElem? (i := 625) (by decide +kernel)) (by decide +kernel)
theorem tw_627 : (.methodLink "EditablePastLaw" 125 ⟨"EditablePastLaw", "together", "(LEditablePast;IIII[J)I"⟩ : Cond) ∈ gt := gt_tab (List.mem_of_getElem? (i := 627) (by decide +kernel)) (by decide +kernel)
theorem tw_628 : (.static ⟨"EditablePastLaw", "together", "(LEditablePast;IIII[J)I"⟩ : Cond) ∈ gt := gt_tab (List.mem_of_getElem? (i := 628) (by decide +kernel)) (by decide +kernel)
theorem tw_630 : (.methodLink "EditablePastLaw" 57 ⟨"EditablePast", "together", "(IIII)Z"⟩ : Cond) ∈ gt := gt_tab (List.mem_of_getElem? (i := 630) (by decide +kernel)) (by decide +kernel)
theorem tw_631 : (.instanceMethod ⟨"EditablePast", "together", "(IIII)Z"⟩ : Cond) ∈ gt := gt_tab (List.mem_of_getElem? (i := 631) (by decide +kernel)) (by decide +kernel)
theorem tw_632 : (.selects "EditablePast" ⟨"EditablePast", "together", "(IIII)Z"⟩ ⟨"EditablePast", "together", "(IIII)Z"⟩ : Cond) ∈ gt := gt_tab (List.mem_of_getElem? (i := 632) (by decide +kernel)) (by decide +kernel)
theorem tw_634 : (.methodLink "EditablePast" 183 ⟨"EditablePast", "isElement", "(I)Z"⟩ : Cond) ∈ gt := gt_tab (List.mem_of_getElem? (i := 634) (by decide +kernel)) (by decide +kernel)
theorem tw_636 : (.methodLink "EditablePastLaw" 129 ⟨"EditablePastLaw", "result", "(LEditablePast;II[J)I"⟩ : Cond) ∈ gt := gt_tab (List.mem_of_getElem? (i := 636) (by decide +kernel)) (by decide +kernel)
theorem tw_637 : (.static ⟨"EditablePastLaw", "result", "(LEditablePast;II[J)I"⟩ : Cond) ∈ gt := gt_tab (List.mem_of_getElem? (i := 637) (by decide +kernel)) (by decide +kernel)
theorem tw_639 : (.methodLink "EditablePastLaw" 61 ⟨"EditablePast", "result", "(II)J"⟩ : Cond) ∈ gt := gt_tab (List.mem_of_getElem? (i := 639) (by decide +kernel)) (by decide +kernel)
theorem tw_640 : (.instanceMethod ⟨"EditablePast", "result", "(II)J"⟩ : Cond) ∈ gt := gt_tab (List.mem_of_getElem? (i := 640) (by decide +kernel)) (by decide +kernel)
theorem tw_641 : (.selects "EditablePast" ⟨"EditablePast", "result", "(II)J"⟩ ⟨"EditablePast", "result", "(II)J"⟩ : Cond) ∈ gt := gt_tab (List.mem_of_getElem? (i := 641) (by decide +kernel)) (by decide +kernel)
theorem tw_643 : (.methodLink "EditablePastLaw" 132 ⟨"EditablePastLaw", "works", "(LEditablePast;II[J)I"⟩ : Cond) ∈ gt := gt_tab (List.mem_of_getElem? (i := 643) (by decide +kernel)) (by decide +kernel)
theorem tw_644 : (.static ⟨"EditablePastLaw", "works", "(LEditablePast;II[J)I"⟩ : Cond) ∈ gt := gt_tab (List.mem_of_getElem? (i := 644) (by decide +kernel)) (by decide +kernel)
theorem tw_646 : (.methodLink "EditablePastLaw" 64 ⟨"EditablePast", "works", "(II)Z"⟩ : Cond) ∈ gt := gt_tab (List.mem_of_getElem? (i := 646) (by decide +kernel)) (by decide +kernel)
theorem tw_647 : (.instanceMethod ⟨"EditablePast", "works", "(II)Z"⟩ : Cond) ∈ gt := gt_tab (List.mem_of_getElem? (i := 647) (by decide +kernel)) (by decide +kernel)
theorem tw_648 : (.selects "EditablePast" ⟨"EditablePast", "works", "(II)Z"⟩ ⟨"EditablePast", "works", "(II)Z"⟩ : Cond) ∈ gt := gt_tab (List.mem_of_getElem? (i := 648) (by decide +kernel)) (by decide +kernel)
theorem tw_650 : (.methodLink "EditablePastLaw" 135 ⟨"EditablePastLaw", "effective", "(LEditablePast;III[J)I"⟩ : Cond) ∈ gt := gt_tab (List.mem_of_getElem? (i := 650) (by decide +kernel)) (by decide +kernel)
theorem tw_651 : (.static ⟨"EditablePastLaw", "effective", "(LEditablePast;III[J)I"⟩ : Cond) ∈ gt := gt_tab (List.mem_of_getElem? (i := 651) (by decide +kernel)) (by decide +kernel)
theorem tw_653 : (.methodLink "EditablePastLaw" 67 ⟨"EditablePast", "effective", "(III)I"⟩ : Cond) ∈ gt := gt_tab (List.mem_of_getElem? (i := 653) (by decide +kernel)) (by decide +kernel)
theorem tw_654 : (.instanceMethod ⟨"EditablePast", "effective", "(III)I"⟩ : Cond) ∈ gt := gt_tab (List.mem_of_getElem? (i := 654) (by decide +kernel)) (by decide +kernel)
theorem tw_655 : (.selects "EditablePast" ⟨"EditablePast", "effective", "(III)I"⟩ ⟨"EditablePast", "effective", "(III)I"⟩ : Cond) ∈ gt := gt_tab (List.mem_of_getElem? (i := 655) (by decide +kernel)) (by decide +kernel)
theorem tw_657 : (.methodLink "EditablePast" 200 ⟨"EditablePast$Line", "countEffects", "(II)I"⟩ : Cond) ∈ gt := gt_tab (List.mem_of_getElem? (i := 657) (by decide +kernel)) (by decide +kernel)
theorem tw_658 : (.instanceMethod ⟨"EditablePast$Line", "countEffects", "(II)I"⟩ : Cond) ∈ gt := gt_tab (List.mem_of_getElem? (i := 658) (by decide +kernel)) (by decide +kernel)
theorem tw_659 : (.selects "EditablePast$Line" ⟨"EditablePast$Line", "countEffects", "(II)I"⟩ ⟨"EditablePast$Line", "countEffects", "(II)I"⟩ : Cond) ∈ gt := gt_tab (List.mem_of_getElem? (i := 659) (by decide +kernel)) (by decide +kernel)
theorem tw_661 : (.methodLink "EditablePastLaw" 138 ⟨"EditablePastLaw", "firstChange", "(LEditablePast;III[J)I"⟩ : Cond) ∈ gt := gt_tab (List.mem_of_getElem? (i := 661) (by decide +kernel)) (by decide +kernel)
theorem tw_662 : (.static ⟨"EditablePastLaw", "firstChange", "(LEditablePast;III[J)I"⟩ : Cond) ∈ gt := gt_tab (List.mem_of_getElem? (i := 662) (by decide +kernel)) (by decide +kernel)
theorem tw_664 : (.methodLink "EditablePastLaw" 70 ⟨"EditablePast", "firstChange", "(III)I"⟩ : Cond) ∈ gt := gt_tab (List.mem_of_getElem? (i := 664) (by decide +kernel)) (by decide +kernel)
theorem tw_665 : (.instanceMethod ⟨"EditablePast", "firstChange", "(III)I"⟩ : Cond) ∈ gt := gt_tab (List.mem_of_getElem? (i := 665) (by decide +kernel)) (by decide +kernel)
theorem tw_666 : (.selects "EditablePast" ⟨"EditablePast", "firstChange", "(III)I"⟩ ⟨"EditablePast", "firstChange", "(III)I"⟩ : Cond) ∈ gt := gt_tab (List.mem_of_getElem? (i := 666) (by decide +kernel)) (by decide +kernel)
theorem tw_668 : (.methodLink "EditablePast" 204 ⟨"EditablePast$Line", "firstDifference", "(LEditablePast$Line;I)I"⟩ : Cond) ∈ gt := gt_tab (List.mem_of_getElem? (i := 668) (by decide +kernel)) (by decide +kernel)
theorem tw_669 : (.instanceMethod ⟨"EditablePast$Line", "firstDifference", "(LEditablePast$Line;I)I"⟩ : Cond) ∈ gt := gt_tab (List.mem_of_getElem? (i := 669) (by decide +kernel)) (by decide +kernel)
theorem tw_670 : (.selects "EditablePast$Line" ⟨"EditablePast$Line", "firstDifference", "(LEditablePast$Line;I)I"⟩ ⟨"EditablePast$Line", "firstDifference", "(LEditablePast$Line;I)I"⟩ : Cond) ∈ gt := gt_tab (List.mem_of_getElem? (i := 670) (by decide +kernel)) (by decide +kernel)
theorem tw_672 : (.methodLink "EditablePast$Line" 69 ⟨"EditablePast$Line", "isSame", "(ILEditablePast$Line;I)Z"⟩ : Cond) ∈ gt := gt_tab (List.mem_of_getElem? (i := 672) (by decide +kernel)) (by decide +kernel)
theorem tw_674 : (.instanceMethod ⟨"EditablePast$Line", "isSame", "(ILEditablePast$Line;I)Z"⟩ : Cond) ∈ gt := gt_tab (List.mem_of_getElem? (i := 674) (by decide +kernel)) (by decide +kernel)
theorem tw_676 : (.methodLink "EditablePast$Line" 73 ⟨"EditablePast$Line", "momentOrNever", "(I)I"⟩ : Cond) ∈ gt := gt_tab (List.mem_of_getElem? (i := 676) (by decide +kernel)) (by decide +kernel)
theorem tw_678 : (.instanceMethod ⟨"EditablePast$Line", "momentOrNever", "(I)I"⟩ : Cond) ∈ gt := gt_tab (List.mem_of_getElem? (i := 678) (by decide +kernel)) (by decide +kernel)
theorem tw_680 : (.constant "EditablePast$Line" 82 (1000000001) : Cond) ∈ gt := gt_tab (List.mem_of_getElem? (i := 680) (by decide +kernel)) (by decide +kernel)
theorem tw_681 : (.methodLink "EditablePast$Line" 76 ⟨"java/lang/Math", "min", "(II)I"⟩ : Cond) ∈ gt := gt_tab (List.mem_of_getElem? (i := 681) (by decide +kernel)) (by decide +kernel)
theorem tw_682 : (.static ⟨"java/lang/Math", "min", "(II)I"⟩ : Cond) ∈ gt := gt_tab (List.mem_of_getElem? (i := 682) (by decide +kernel)) (by decide +kernel)
theorem tw_684 : (.methodLink "EditablePastLaw" 141 ⟨"EditablePastLaw", "operations", "(LEditablePast;I[J)I"⟩ : Cond) ∈ gt := gt_tab (List.mem_of_getElem? (i := 684) (by decide +kernel)) (by decide +kernel)
theorem tw_685 : (.static ⟨"EditablePastLaw", "operations", "(LEditablePast;I[J)I"⟩ : Cond) ∈ gt := gt_tab (List.mem_of_getElem? (i := 685) (by decide +kernel)) (by decide +kernel)
theorem tw_687 : (.methodLink "EditablePastLaw" 73 ⟨"EditablePast", "operations", "(I)I"⟩ : Cond) ∈ gt := gt_tab (List.mem_of_getElem? (i := 687) (by decide +kernel)) (by decide +kernel)
theorem tw_688 : (.instanceMethod ⟨"EditablePast", "operations", "(I)I"⟩ : Cond) ∈ gt := gt_tab (List.mem_of_getElem? (i := 688) (by decide +kernel)) (by decide +kernel)
theorem tw_689 : (.selects "EditablePast" ⟨"EditablePast", "operations", "(I)I"⟩ ⟨"EditablePast", "operations", "(I)I"⟩ : Cond) ∈ gt := gt_tab (List.mem_of_getElem? (i := 689) (by decide +kernel)) (by decide +kernel)
theorem tw_691 : (.methodLink "EditablePastLaw" 144 ⟨"EditablePastLaw", "operation", "(LEditablePast;III[J)I"⟩ : Cond) ∈ gt := gt_tab (List.mem_of_getElem? (i := 691) (by decide +kernel)) (by decide +kernel)
theorem tw_692 : (.static ⟨"EditablePastLaw", "operation", "(LEditablePast;III[J)I"⟩ : Cond) ∈ gt := gt_tab (List.mem_of_getElem? (i := 692) (by decide +kernel)) (by decide +kernel)
theorem tw_694 : (.methodLink "EditablePastLaw" 76 ⟨"EditablePast", "operation", "(III)I"⟩ : Cond) ∈ gt := gt_tab (List.mem_of_getElem? (i := 694) (by decide +kernel)) (by decide +kernel)
theorem tw_695 : (.instanceMethod ⟨"EditablePast", "operation", "(III)I"⟩ : Cond) ∈ gt := gt_tab (List.mem_of_getElem? (i := 695) (by decide +kernel)) (by decide +kernel)
theorem tw_696 : (.selects "EditablePast" ⟨"EditablePast", "operation", "(III)I"⟩ ⟨"EditablePast", "operation", "(III)I"⟩ : Cond) ∈ gt := gt_tab (List.mem_of_getElem? (i := 696) (by decide +kernel)) (by decide +kernel)
theorem tw_700 : (.classLink "EditablePastLaw" 80 "EditablePastModel" : Cond) ∈ gt := gt_tab (List.mem_of_getElem? (i := 700) (by decide +kernel)) (by decide +kernel)
theorem tw_701 : (.instantiable "EditablePastModel" 17 : Cond) ∈ gt := gt_tab (List.mem_of_getElem? (i := 701) (by decide +kernel)) (by decide +kernel)
theorem tw_702 : (.methodLink "EditablePastLaw" 82 ⟨"EditablePastModel", "<init>", "()V"⟩ : Cond) ∈ gt := gt_tab (List.mem_of_getElem? (i := 702) (by decide +kernel)) (by decide +kernel)
theorem tw_703 : (.instanceMethod ⟨"EditablePastModel", "<init>", "()V"⟩ : Cond) ∈ gt := gt_tab (List.mem_of_getElem? (i := 703) (by decide +kernel)) (by decide +kernel)
theorem tw_705 : (.methodLink "EditablePastModel" 1 ⟨"java/lang/Object", "<init>", "()V"⟩ : Cond) ∈ gt := gt_tab (List.mem_of_getElem? (i := 705) (by decide +kernel)) (by decide +kernel)
theorem tw_706 : (.fieldLink "EditablePastModel" 54 "EditablePastModel" "code" "I" : Cond) ∈ gt := gt_tab (List.mem_of_getElem? (i := 706) (by decide +kernel)) (by decide +kernel)
theorem tw_707 : (.fieldLink "EditablePastModel" 7 "EditablePastModel" "kinds" "[I" : Cond) ∈ gt := gt_tab (List.mem_of_getElem? (i := 707) (by decide +kernel)) (by decide +kernel)
theorem tw_708 : (.fieldLink "EditablePastModel" 13 "EditablePastModel" "edited" "[Z" : Cond) ∈ gt := gt_tab (List.mem_of_getElem? (i := 708) (by decide +kernel)) (by decide +kernel)
theorem tw_709 : (.fieldLink "EditablePastModel" 17 "EditablePastModel" "counts" "[I" : Cond) ∈ gt := gt_tab (List.mem_of_getElem? (i := 709) (by decide +kernel)) (by decide +kernel)
theorem tw_710 : (.fieldLink "EditablePastModel" 20 "EditablePastModel" "times" "[I" : Cond) ∈ gt := gt_tab (List.mem_of_getElem? (i := 710) (by decide +kernel)) (by decide +kernel)
theorem tw_711 : (.fieldLink "EditablePastModel" 23 "EditablePastModel" "names" "[I" : Cond) ∈ gt := gt_tab (List.mem_of_getElem? (i := 711) (by decide +kernel)) (by decide +kernel)
theorem tw_712 : (.fieldLink "EditablePastModel" 26 "EditablePastModel" "as" "[I" : Cond) ∈ gt := gt_tab (List.mem_of_getElem? (i := 712) (by decide +kernel)) (by decide +kernel)
theorem tw_713 : (.fieldLink "EditablePastModel" 29 "EditablePastModel" "bs" "[I" : Cond) ∈ gt := gt_tab (List.mem_of_getElem? (i := 713) (by decide +kernel)) (by decide +kernel)
theorem tw_714 : (.fieldLink "EditablePastModel" 101 "EditablePastModel" "many" "I" : Cond) ∈ gt := gt_tab (List.mem_of_getElem? (i := 714) (by decide +kernel)) (by decide +kernel)
theorem tw_715 : (.fieldLink "EditablePastModel" 32 "EditablePastModel" "items" "[I" : Cond) ∈ gt := gt_tab (List.mem_of_getElem? (i := 715) (by decide +kernel)) (by decide +kernel)
theorem tw_716 : (.fieldLink "EditablePastModel" 35 "EditablePastModel" "values" "[I" : Cond) ∈ gt := gt_tab (List.mem_of_getElem? (i := 716) (by decide +kernel)) (by decide +kernel)
theorem tw_717 : (.fieldLink "EditablePastModel" 38 "EditablePastModel" "sets" "[I" : Cond) ∈ gt := gt_tab (List.mem_of_getElem? (i := 717) (by decide +kernel)) (by decide +kernel)
theorem tw_718 : (.fieldLink "EditablePastModel" 113 "EditablePastModel" "sum" "J" : Cond) ∈ gt := gt_tab (List.mem_of_getElem? (i := 718) (by decide +kernel)) (by decide +kernel)
theorem tw_719 : (.fieldLink "EditablePastModel" 41 "EditablePastModel" "results" "[J" : Cond) ∈ gt := gt_tab (List.mem_of_getElem? (i := 719) (by decide +kernel)) (by decide +kernel)
theorem tw_720 : (.fieldLink "EditablePastModel" 45 "EditablePastModel" "works" "[Z" : Cond) ∈ gt := gt_tab (List.mem_of_getElem? (i := 720) (by decide +kernel)) (by decide +kernel)
theorem tw_721 : (.fieldLink "EditablePastModel" 48 "EditablePastModel" "otherResults" "[J" : Cond) ∈ gt := gt_tab (List.mem_of_getElem? (i := 721) (by decide +kernel)) (by decide +kernel)
theorem tw_722 : (.fieldLink "EditablePastModel" 51 "EditablePastModel" "otherWorks" "[Z" : Cond) ∈ gt := gt_tab (List.mem_of_getElem? (i := 722) (by decide +kernel)) (by decide +kernel)
theorem tw_723 : (.lays "EditablePastModel" "EditablePastModel" "code" "I" : Cond) ∈ gt := gt_tab (List.mem_of_getElem? (i := 723) (by decide +kernel)) (by decide +kernel)
theorem tw_725 : (.laysFinal "EditablePastModel" "EditablePastModel" "kinds" "[I" : Cond) ∈ gt := gt_tab (List.mem_of_getElem? (i := 725) (by decide +kernel)) (by decide +kernel)
theorem tw_727 : (.laysFinal "EditablePastModel" "EditablePastModel" "edited" "[Z" : Cond) ∈ gt := gt_tab (List.mem_of_getElem? (i := 727) (by decide +kernel)) (by decide +kernel)
theorem tw_729 : (.laysFinal "EditablePastModel" "EditablePastModel" "counts" "[I" : Cond) ∈ gt := gt_tab (List.mem_of_getElem? (i := 729) (by decide +kernel)) (by decide +kernel)
theorem tw_731 : (.laysFinal "EditablePastModel" "EditablePastModel" "times" "[I" : Cond) ∈ gt := gt_tab (List.mem_of_getElem? (i := 731) (by decide +kernel)) (by decide +kernel)
theorem tw_733 : (.laysFinal "EditablePastModel" "EditablePastModel" "names" "[I" : Cond) ∈ gt := gt_tab (List.mem_of_getElem? (i := 733) (by decide +kernel)) (by decide +kernel)
theorem tw_735 : (.laysFinal "EditablePastModel" "EditablePastModel" "as" "[I" : Cond) ∈ gt := gt_tab (List.mem_of_getElem? (i := 735) (by decide +kernel)) (by decide +kernel)
theorem tw_737 : (.laysFinal "EditablePastModel" "EditablePastModel" "bs" "[I" : Cond) ∈ gt := gt_tab (List.mem_of_getElem? (i := 737) (by decide +kernel)) (by decide +kernel)
theorem tw_739 : (.lays "EditablePastModel" "EditablePastModel" "many" "I" : Cond) ∈ gt := gt_tab (List.mem_of_getElem? (i := 739) (by decide +kernel)) (by decide +kernel)
theorem tw_741 : (.laysFinal "EditablePastModel" "EditablePastModel" "items" "[I" : Cond) ∈ gt := gt_tab (List.mem_of_getElem? (i := 741) (by decide +kernel)) (by decide +kernel)
theorem tw_743 : (.laysFinal "EditablePastModel" "EditablePastModel" "values" "[I" : Cond) ∈ gt := gt_tab (List.mem_of_getElem? (i := 743) (by decide +kernel)) (by decide +kernel)
theorem tw_745 : (.laysFinal "EditablePastModel" "EditablePastModel" "sets" "[I" : Cond) ∈ gt := gt_tab (List.mem_of_getElem? (i := 745) (by decide +kernel)) (by decide +kernel)
theorem tw_747 : (.lays "EditablePastModel" "EditablePastModel" "sum" "J" : Cond) ∈ gt := gt_tab (List.mem_of_getElem? (i := 747) (by decide +kernel)) (by decide +kernel)
theorem tw_749 : (.laysFinal "EditablePastModel" "EditablePastModel" "results" "[J" : Cond) ∈ gt := gt_tab (List.mem_of_getElem? (i := 749) (by decide +kernel)) (by decide +kernel)
theorem tw_751 : (.laysFinal "EditablePastModel" "EditablePastModel" "works" "[Z" : Cond) ∈ gt := gt_tab (List.mem_of_getElem? (i := 751) (by decide +kernel)) (by decide +kernel)
theorem tw_753 : (.laysFinal "EditablePastModel" "EditablePastModel" "otherResults" "[J" : Cond) ∈ gt := gt_tab (List.mem_of_getElem? (i := 753) (by decide +kernel)) (by decide +kernel)
theorem tw_755 : (.laysFinal "EditablePastModel" "EditablePastModel" "otherWorks" "[Z" : Cond) ∈ gt := gt_tab (List.mem_of_getElem? (i := 755) (by decide +kernel)) (by decide +kernel)
theorem tw_758 : (.methodLink "EditablePastLaw" 89 ⟨"EditablePastModel", "thrown", "()I"⟩ : Cond) ∈ gt := gt_tab (List.mem_of_getElem? (i := 758) (by decide +kernel)) (by decide +kernel)
theorem tw_759 : (.instanceMethod ⟨"EditablePastModel", "thrown", "()I"⟩ : Cond) ∈ gt := gt_tab (List.mem_of_getElem? (i := 759) (by decide +kernel)) (by decide +kernel)
theorem tw_760 : (.selects "EditablePastModel" ⟨"EditablePastModel", "thrown", "()I"⟩ ⟨"EditablePastModel", "thrown", "()I"⟩ : Cond) ∈ gt := gt_tab (List.mem_of_getElem? (i := 760) (by decide +kernel)) (by decide +kernel)
theorem tw_762 : (.methodLink "EditablePastLaw" 88 ⟨"EditablePastModel", "open", "(II)V"⟩ : Cond) ∈ gt := gt_tab (List.mem_of_getElem? (i := 762) (by decide +kernel)) (by decide +kernel)
theorem tw_763 : (.instanceMethod ⟨"EditablePastModel", "open", "(II)V"⟩ : Cond) ∈ gt := gt_tab (List.mem_of_getElem? (i := 763) (by decide +kernel)) (by decide +kernel)
theorem tw_764 : (.selects "EditablePastModel" ⟨"EditablePastModel", "open", "(II)V"⟩ ⟨"EditablePastModel", "open", "(II)V"⟩ : Cond) ∈ gt := gt_tab (List.mem_of_getElem? (i := 764) (by decide +kernel)) (by decide +kernel)
theorem tw_766 : (.methodLink "EditablePastModel" 59 ⟨"EditablePastModel", "isId", "(I)Z"⟩ : Cond) ∈ gt := gt_tab (List.mem_of_getElem? (i := 766) (by decide +kernel)) (by decide +kernel)
theorem tw_767 : (.static ⟨"EditablePastModel", "isId", "(I)Z"⟩ : Cond) ∈ gt := gt_tab (List.mem_of_getElem? (i := 767) (by decide +kernel)) (by decide +kernel)
theorem tw_769 : (.methodLink "EditablePastLaw" 96 ⟨"EditablePastModel", "close", "(I)I"⟩ : Cond) ∈ gt := gt_tab (List.mem_of_getElem? (i := 769) (by decide +kernel)) (by decide +kernel)
theorem tw_770 : (.instanceMethod ⟨"EditablePastModel", "close", "(I)I"⟩ : Cond) ∈ gt := gt_tab (List.mem_of_getElem? (i := 770) (by decide +kernel)) (by decide +kernel)
theorem tw_771 : (.selects "EditablePastModel" ⟨"EditablePastModel", "close", "(I)I"⟩ ⟨"EditablePastModel", "close", "(I)I"⟩ : Cond) ∈ gt := gt_tab (List.mem_of_getElem? (i := 771) (by decide +kernel)) (by decide +kernel)
theorem tw_773 : (.methodLink "EditablePastModel" 66 ⟨"EditablePastModel", "lacks", "(II)Z"⟩ : Cond) ∈ gt := gt_tab (List.mem_of_getElem? (i := 773) (by decide +kernel)) (by decide +kernel)
theorem tw_775 : (.instanceMethod ⟨"EditablePastModel", "lacks", "(II)Z"⟩ : Cond) ∈ gt := gt_tab (List.mem_of_getElem? (i := 775) (by decide +kernel)) (by decide +kernel)
theorem tw_777 : (.methodLink "EditablePastModel" 63 ⟨"EditablePastModel", "isMoment", "(I)Z"⟩ : Cond) ∈ gt := gt_tab (List.mem_of_getElem? (i := 777) (by decide +kernel)) (by decide +kernel)
theorem tw_778 : (.static ⟨"EditablePastModel", "isMoment", "(I)Z"⟩ : Cond) ∈ gt := gt_tab (List.mem_of_getElem? (i := 778) (by decide +kernel)) (by decide +kernel)
theorem tw_780 : (.constant "EditablePastModel" 58 (1000000000) : Cond) ∈ gt := gt_tab (List.mem_of_getElem? (i := 780) (by decide +kernel)) (by decide +kernel)
theorem tw_781 : (.methodLink "EditablePastLaw" 100 ⟨"EditablePastModel", "put", "(IIIII)V"⟩ : Cond) ∈ gt := gt_tab (List.mem_of_getElem? (i := 781) (by decide +kernel)) (by decide +kernel)
theorem tw_782 : (.instanceMethod ⟨"EditablePastModel", "put", "(IIIII)V"⟩ : Cond) ∈ gt := gt_tab (List.mem_of_getElem? (i := 782) (by decide +kernel)) (by decide +kernel)
theorem tw_783 : (.selects "EditablePastModel" ⟨"EditablePastModel", "put", "(IIIII)V"⟩ ⟨"EditablePastModel", "put", "(IIIII)V"⟩ : Cond) ∈ gt := gt_tab (List.mem_of_getElem? (i := 783) (by decide +kernel)) (by decide +kernel)
theorem tw_785 : (.methodLink "EditablePastModel" 78 ⟨"EditablePastModel", "find", "(II)I"⟩ : Cond) ∈ gt := gt_tab (List.mem_of_getElem? (i := 785) (by decide +kernel)) (by decide +kernel)
theorem tw_787 : (.instanceMethod ⟨"EditablePastModel", "find", "(II)I"⟩ : Cond) ∈ gt := gt_tab (List.mem_of_getElem? (i := 787) (by decide +kernel)) (by decide +kernel)
theorem tw_789 : (.methodLink "EditablePastModel" 82 ⟨"EditablePastModel", "kindOf", "(I)I"⟩ : Cond) ∈ gt := gt_tab (List.mem_of_getElem? (i := 789) (by decide +kernel)) (by decide +kernel)
theorem tw_791 : (.instanceMethod ⟨"EditablePastModel", "kindOf", "(I)I"⟩ : Cond) ∈ gt := gt_tab (List.mem_of_getElem? (i := 791) (by decide +kernel)) (by decide +kernel)
theorem tw_793 : (.methodLink "EditablePastModel" 86 ⟨"EditablePastModel", "fits", "(IIII)Z"⟩ : Cond) ∈ gt := gt_tab (List.mem_of_getElem? (i := 793) (by decide +kernel)) (by decide +kernel)
theorem tw_794 : (.static ⟨"EditablePastModel", "fits", "(IIII)Z"⟩ : Cond) ∈ gt := gt_tab (List.mem_of_getElem? (i := 794) (by decide +kernel)) (by decide +kernel)
theorem tw_796 : (.constant "EditablePastModel" 74 (-1000000000) : Cond) ∈ gt := gt_tab (List.mem_of_getElem? (i := 796) (by decide +kernel)) (by decide +kernel)
theorem tw_797 : (.methodLink "EditablePastModel" 75 ⟨"EditablePastModel", "isValue", "(I)Z"⟩ : Cond) ∈ gt := gt_tab (List.mem_of_getElem? (i := 797) (by decide +kernel)) (by decide +kernel)
theorem tw_798 : (.static ⟨"EditablePastModel", "isValue", "(I)Z"⟩ : Cond) ∈ gt := gt_tab (List.mem_of_getElem? (i := 798) (by decide +kernel)) (by decide +kernel)
theorem tw_800 : (.methodLink "EditablePastModel" 90 ⟨"EditablePastModel", "remember", "(I)V"⟩ : Cond) ∈ gt := gt_tab (List.mem_of_getElem? (i := 800) (by decide +kernel)) (by decide +kernel)
theorem tw_802 : (.instanceMethod ⟨"EditablePastModel", "remember", "(I)V"⟩ : Cond) ∈ gt := gt_tab (List.mem_of_getElem? (i := 802) (by decide +kernel)) (by decide +kernel)
theorem tw_804 : (.methodLink "EditablePastModel" 70 ⟨"EditablePastModel", "copy", "(II)V"⟩ : Cond) ∈ gt := gt_tab (List.mem_of_getElem? (i := 804) (by decide +kernel)) (by decide +kernel)
theorem tw_806 : (.instanceMethod ⟨"EditablePastModel", "copy", "(II)V"⟩ : Cond) ∈ gt := gt_tab (List.mem_of_getElem? (i := 806) (by decide +kernel)) (by decide +kernel)
theorem tw_808 : (.methodLink "EditablePastModel" 94 ⟨"EditablePastModel", "insert", "(IIIII)V"⟩ : Cond) ∈ gt := gt_tab (List.mem_of_getElem? (i := 808) (by decide +kernel)) (by decide +kernel)
theorem tw_810 : (.instanceMethod ⟨"EditablePastModel", "insert", "(IIIII)V"⟩ : Cond) ∈ gt := gt_tab (List.mem_of_getElem? (i := 810) (by decide +kernel)) (by decide +kernel)
theorem tw_812 : (.methodLink "EditablePastLaw" 104 ⟨"EditablePastModel", "strike", "(II)Z"⟩ : Cond) ∈ gt := gt_tab (List.mem_of_getElem? (i := 812) (by decide +kernel)) (by decide +kernel)
theorem tw_813 : (.instanceMethod ⟨"EditablePastModel", "strike", "(II)Z"⟩ : Cond) ∈ gt := gt_tab (List.mem_of_getElem? (i := 813) (by decide +kernel)) (by decide +kernel)
theorem tw_814 : (.selects "EditablePastModel" ⟨"EditablePastModel", "strike", "(II)Z"⟩ ⟨"EditablePastModel", "strike", "(II)Z"⟩ : Cond) ∈ gt := gt_tab (List.mem_of_getElem? (i := 814) (by decide +kernel)) (by decide +kernel)
theorem tw_816 : (.methodLink "EditablePastModel" 98 ⟨"EditablePastModel", "cut", "(II)V"⟩ : Cond) ∈ gt := gt_tab (List.mem_of_getElem? (i := 816) (by decide +kernel)) (by decide +kernel)
theorem tw_818 : (.instanceMethod ⟨"EditablePastModel", "cut", "(II)V"⟩ : Cond) ∈ gt := gt_tab (List.mem_of_getElem? (i := 818) (by decide +kernel)) (by decide +kernel)
theorem tw_820 : (.methodLink "EditablePastLaw" 108 ⟨"EditablePastModel", "shift", "(III)V"⟩ : Cond) ∈ gt := gt_tab (List.mem_of_getElem? (i := 820) (by decide +kernel)) (by decide +kernel)
theorem tw_821 : (.instanceMethod ⟨"EditablePastModel", "shift", "(III)V"⟩ : Cond) ∈ gt := gt_tab (List.mem_of_getElem? (i := 821) (by decide +kernel)) (by decide +kernel)
theorem tw_822 : (.selects "EditablePastModel" ⟨"EditablePastModel", "shift", "(III)V"⟩ ⟨"EditablePastModel", "shift", "(III)V"⟩ : Cond) ∈ gt := gt_tab (List.mem_of_getElem? (i := 822) (by decide +kernel)) (by decide +kernel)
theorem tw_824 : (.methodLink "EditablePastLaw" 111 ⟨"EditablePastModel", "front", "(II)I"⟩ : Cond) ∈ gt := gt_tab (List.mem_of_getElem? (i := 824) (by decide +kernel)) (by decide +kernel)
theorem tw_825 : (.instanceMethod ⟨"EditablePastModel", "front", "(II)I"⟩ : Cond) ∈ gt := gt_tab (List.mem_of_getElem? (i := 825) (by decide +kernel)) (by decide +kernel)
theorem tw_826 : (.selects "EditablePastModel" ⟨"EditablePastModel", "front", "(II)I"⟩ ⟨"EditablePastModel", "front", "(II)I"⟩ : Cond) ∈ gt := gt_tab (List.mem_of_getElem? (i := 826) (by decide +kernel)) (by decide +kernel)
theorem tw_828 : (.methodLink "EditablePastModel" 130 ⟨"EditablePastModel", "isNotFor", "(III)Z"⟩ : Cond) ∈ gt := gt_tab (List.mem_of_getElem? (i := 828) (by decide +kernel)) (by decide +kernel)
theorem tw_830 : (.instanceMethod ⟨"EditablePastModel", "isNotFor", "(III)Z"⟩ : Cond) ∈ gt := gt_tab (List.mem_of_getElem? (i := 830) (by decide +kernel)) (by decide +kernel)
theorem tw_832 : (.methodLink "EditablePastModel" 126 ⟨"EditablePastModel", "run", "(III)V"⟩ : Cond) ∈ gt := gt_tab (List.mem_of_getElem? (i := 832) (by decide +kernel)) (by decide +kernel)
theorem tw_834 : (.instanceMethod ⟨"EditablePastModel", "run", "(III)V"⟩ : Cond) ∈ gt := gt_tab (List.mem_of_getElem? (i := 834) (by decide +kernel)) (by decide +kernel)
theorem tw_836 : (.methodLink "EditablePastModel" 117 ⟨"EditablePastModel", "doSets", "(II)Z"⟩ : Cond) ∈ gt := gt_tab (List.mem_of_getElem? (i := 836) (by decide +kernel)) (by decide +kernel)
theorem tw_838 : (.instanceMethod ⟨"EditablePastModel", "doSets", "(II)Z"⟩ : Cond) ∈ gt := gt_tab (List.mem_of_getElem? (i := 838) (by decide +kernel)) (by decide +kernel)
theorem tw_840 : (.methodLink "EditablePastModel" 120 ⟨"EditablePastModel", "doTable", "(IIII)Z"⟩ : Cond) ∈ gt := gt_tab (List.mem_of_getElem? (i := 840) (by decide +kernel)) (by decide +kernel)
theorem tw_842 : (.instanceMethod ⟨"EditablePastModel", "doTable", "(IIII)Z"⟩ : Cond) ∈ gt := gt_tab (List.mem_of_getElem? (i := 842) (by decide +kernel)) (by decide +kernel)
theorem tw_844 : (.methodLink "EditablePastModel" 110 ⟨"EditablePastModel", "keyAt", "(I)I"⟩ : Cond) ∈ gt := gt_tab (List.mem_of_getElem? (i := 844) (by decide +kernel)) (by decide +kernel)
theorem tw_846 : (.instanceMethod ⟨"EditablePastModel", "keyAt", "(I)I"⟩ : Cond) ∈ gt := gt_tab (List.mem_of_getElem? (i := 846) (by decide +kernel)) (by decide +kernel)
theorem tw_848 : (.methodLink "EditablePastModel" 107 ⟨"EditablePastModel", "takeOut", "(I)V"⟩ : Cond) ∈ gt := gt_tab (List.mem_of_getElem? (i := 848) (by decide +kernel)) (by decide +kernel)
theorem tw_850 : (.instanceMethod ⟨"EditablePastModel", "takeOut", "(I)V"⟩ : Cond) ∈ gt := gt_tab (List.mem_of_getElem? (i := 850) (by decide +kernel)) (by decide +kernel)
theorem tw_852 : (.methodLink "EditablePastModel" 123 ⟨"EditablePastModel", "doBag", "(IIII)Z"⟩ : Cond) ∈ gt := gt_tab (List.mem_of_getElem? (i := 852) (by decide +kernel)) (by decide +kernel)
theorem tw_854 : (.instanceMethod ⟨"EditablePastModel", "doBag", "(IIII)Z"⟩ : Cond) ∈ gt := gt_tab (List.mem_of_getElem? (i := 854) (by decide +kernel)) (by decide +kernel)
theorem tw_856 : (.methodLink "EditablePastModel" 104 ⟨"EditablePastModel", "nextOf", "(I)I"⟩ : Cond) ∈ gt := gt_tab (List.mem_of_getElem? (i := 856) (by decide +kernel)) (by decide +kernel)
theorem tw_858 : (.instanceMethod ⟨"EditablePastModel", "nextOf", "(I)I"⟩ : Cond) ∈ gt := gt_tab (List.mem_of_getElem? (i := 858) (by decide +kernel)) (by decide +kernel)
theorem tw_860 : (.methodLink "EditablePastLaw" 114 ⟨"EditablePastModel", "size", "(II)I"⟩ : Cond) ∈ gt := gt_tab (List.mem_of_getElem? (i := 860) (by decide +kernel)) (by decide +kernel)
theorem tw_861 : (.instanceMethod ⟨"EditablePastModel", "size", "(II)I"⟩ : Cond) ∈ gt := gt_tab (List.mem_of_getElem? (i := 861) (by decide +kernel)) (by decide +kernel)
theorem tw_862 : (.selects "EditablePastModel" ⟨"EditablePastModel", "size", "(II)I"⟩ ⟨"EditablePastModel", "size", "(II)I"⟩ : Cond) ∈ gt := gt_tab (List.mem_of_getElem? (i := 862) (by decide +kernel)) (by decide +kernel)
theorem tw_864 : (.methodLink "EditablePastLaw" 118 ⟨"EditablePastModel", "at", "(III)I"⟩ : Cond) ∈ gt := gt_tab (List.mem_of_getElem? (i := 864) (by decide +kernel)) (by decide +kernel)
theorem tw_865 : (.instanceMethod ⟨"EditablePastModel", "at", "(III)I"⟩ : Cond) ∈ gt := gt_tab (List.mem_of_getElem? (i := 865) (by decide +kernel)) (by decide +kernel)
theorem tw_866 : (.selects "EditablePastModel" ⟨"EditablePastModel", "at", "(III)I"⟩ ⟨"EditablePastModel", "at", "(III)I"⟩ : Cond) ∈ gt := gt_tab (List.mem_of_getElem? (i := 866) (by decide +kernel)) (by decide +kernel)
theorem tw_868 : (.methodLink "EditablePastLaw" 121 ⟨"EditablePastModel", "least", "(III)I"⟩ : Cond) ∈ gt := gt_tab (List.mem_of_getElem? (i := 868) (by decide +kernel)) (by decide +kernel)
theorem tw_869 : (.instanceMethod ⟨"EditablePastModel", "least", "(III)I"⟩ : Cond) ∈ gt := gt_tab (List.mem_of_getElem? (i := 869) (by decide +kernel)) (by decide +kernel)
theorem tw_870 : (.selects "EditablePastModel" ⟨"EditablePastModel", "least", "(III)I"⟩ ⟨"EditablePastModel", "least", "(III)I"⟩ : Cond) ∈ gt := gt_tab (List.mem_of_getElem? (i := 870) (by decide +kernel)) (by decide +kernel)
theorem tw_872 : (.methodLink "EditablePastLaw" 124 ⟨"EditablePastModel", "sum", "(II)J"⟩ : Cond) ∈ gt := gt_tab (List.mem_of_getElem? (i := 872) (by decide +kernel)) (by decide +kernel)
theorem tw_873 : (.instanceMethod ⟨"EditablePastModel", "sum", "(II)J"⟩ : Cond) ∈ gt := gt_tab (List.mem_of_getElem? (i := 873) (by decide +kernel)) (by decide +kernel)
theorem tw_874 : (.selects "EditablePastModel" ⟨"EditablePastModel", "sum", "(II)J"⟩ ⟨"EditablePastModel", "sum", "(II)J"⟩ : Cond) ∈ gt := gt_tab (List.mem_of_getElem? (i := 874) (by decide +kernel)) (by decide +kernel)
theorem tw_876 : (.methodLink "EditablePastLaw" 128 ⟨"EditablePastModel", "together", "(IIII)Z"⟩ : Cond) ∈ gt := gt_tab (List.mem_of_getElem? (i := 876) (by decide +kernel)) (by decide +kernel)
theorem tw_877 : (.instanceMethod ⟨"EditablePastModel", "together", "(IIII)Z"⟩ : Cond) ∈ gt := gt_tab (List.mem_of_getElem? (i := 877) (by decide +kernel)) (by decide +kernel)
theorem tw_878 : (.selects "EditablePastModel" ⟨"EditablePastModel", "together", "(IIII)Z"⟩ ⟨"EditablePastModel", "together", "(IIII)Z"⟩ : Cond) ∈ gt := gt_tab (List.mem_of_getElem? (i := 878) (by decide +kernel)) (by decide +kernel)
theorem tw_880 : (.methodLink "EditablePastLaw" 131 ⟨"EditablePastModel", "result", "(II)J"⟩ : Cond) ∈ gt := gt_tab (List.mem_of_getElem? (i := 880) (by decide +kernel)) (by decide +kernel)
theorem tw_881 : (.instanceMethod ⟨"EditablePastModel", "result", "(II)J"⟩ : Cond) ∈ gt := gt_tab (List.mem_of_getElem? (i := 881) (by decide +kernel)) (by decide +kernel)
theorem tw_882 : (.selects "EditablePastModel" ⟨"EditablePastModel", "result", "(II)J"⟩ ⟨"EditablePastModel", "result", "(II)J"⟩ : Cond) ∈ gt := gt_tab (List.mem_of_getElem? (i := 882) (by decide +kernel)) (by decide +kernel)
theorem tw_884 : (.methodLink "EditablePastModel" 134 ⟨"EditablePastModel", "asked", "(II)I"⟩ : Cond) ∈ gt := gt_tab (List.mem_of_getElem? (i := 884) (by decide +kernel)) (by decide +kernel)
theorem tw_886 : (.instanceMethod ⟨"EditablePastModel", "asked", "(II)I"⟩ : Cond) ∈ gt := gt_tab (List.mem_of_getElem? (i := 886) (by decide +kernel)) (by decide +kernel)
theorem tw_888 : (.methodLink "EditablePastLaw" 134 ⟨"EditablePastModel", "works", "(II)Z"⟩ : Cond) ∈ gt := gt_tab (List.mem_of_getElem? (i := 888) (by decide +kernel)) (by decide +kernel)
theorem tw_889 : (.instanceMethod ⟨"EditablePastModel", "works", "(II)Z"⟩ : Cond) ∈ gt := gt_tab (List.mem_of_getElem? (i := 889) (by decide +kernel)) (by decide +kernel)
theorem tw_890 : (.selects "EditablePastModel" ⟨"EditablePastModel", "works", "(II)Z"⟩ ⟨"EditablePastModel", "works", "(II)Z"⟩ : Cond) ∈ gt := gt_tab (List.mem_of_getElem? (i := 890) (by decide +kernel)) (by decide +kernel)
theorem tw_892 : (.methodLink "EditablePastLaw" 137 ⟨"EditablePastModel", "effective", "(III)I"⟩ : Cond) ∈ gt := gt_tab (List.mem_of_getElem? (i := 892) (by decide +kernel)) (by decide +kernel)
theorem tw_893 : (.instanceMethod ⟨"EditablePastModel", "effective", "(III)I"⟩ : Cond) ∈ gt := gt_tab (List.mem_of_getElem? (i := 893) (by decide +kernel)) (by decide +kernel)
theorem tw_894 : (.selects "EditablePastModel" ⟨"EditablePastModel", "effective", "(III)I"⟩ ⟨"EditablePastModel", "effective", "(III)I"⟩ : Cond) ∈ gt := gt_tab (List.mem_of_getElem? (i := 894) (by decide +kernel)) (by decide +kernel)
theorem tw_896 : (.methodLink "EditablePastModel" 137 ⟨"EditablePastModel", "lacksTwo", "(III)Z"⟩ : Cond) ∈ gt := gt_tab (List.mem_of_getElem? (i := 896) (by decide +kernel)) (by decide +kernel)
theorem tw_898 : (.instanceMethod ⟨"EditablePastModel", "lacksTwo", "(III)Z"⟩ : Cond) ∈ gt := gt_tab (List.mem_of_getElem? (i := 898) (by decide +kernel)) (by decide +kernel)
theorem tw_900 : (.methodLink "EditablePastLaw" 140 ⟨"EditablePastModel", "firstChange", "(III)I"⟩ : Cond) ∈ gt := gt_tab (List.mem_of_getElem? (i := 900) (by decide +kernel)) (by decide +kernel)
theorem tw_901 : (.instanceMethod ⟨"EditablePastModel", "firstChange", "(III)I"⟩ : Cond) ∈ gt := gt_tab (List.mem_of_getElem? (i := 901) (by decide +kernel)) (by decide +kernel)
theorem tw_902 : (.selects "EditablePastModel" ⟨"EditablePastModel", "firstChange", "(III)I"⟩ ⟨"EditablePastModel", "firstChange", "(III)I"⟩ : Cond) ∈ gt := gt_tab (List.mem_of_getElem? (i := 902) (by decide +kernel)) (by decide +kernel)
theorem tw_904 : (.methodLink "EditablePastLaw" 143 ⟨"EditablePastModel", "operations", "(I)I"⟩ : Cond) ∈ gt := gt_tab (List.mem_of_getElem? (i := 904) (by decide +kernel)) (by decide +kernel)
theorem tw_905 : (.instanceMethod ⟨"EditablePastModel", "operations", "(I)I"⟩ : Cond) ∈ gt := gt_tab (List.mem_of_getElem? (i := 905) (by decide +kernel)) (by decide +kernel)
theorem tw_906 : (.selects "EditablePastModel" ⟨"EditablePastModel", "operations", "(I)I"⟩ ⟨"EditablePastModel", "operations", "(I)I"⟩ : Cond) ∈ gt := gt_tab (List.mem_of_getElem? (i := 906) (by decide +kernel)) (by decide +kernel)
theorem tw_908 : (.methodLink "EditablePastLaw" 146 ⟨"EditablePastModel", "operation", "(III)I"⟩ : Cond) ∈ gt := gt_tab (List.mem_of_getElem? (i := 908) (by decide +kernel)) (by decide +kernel)
theorem tw_909 : (.instanceMethod ⟨"EditablePastModel", "operation", "(III)I"⟩ : Cond) ∈ gt := gt_tab (List.mem_of_getElem? (i := 909) (by decide +kernel)) (by decide +kernel)
theorem tw_910 : (.selects "EditablePastModel" ⟨"EditablePastModel", "operation", "(III)I"⟩ ⟨"EditablePastModel", "operation", "(III)I"⟩ : Cond) ∈ gt := gt_tab (List.mem_of_getElem? (i := 910) (by decide +kernel)) (by decide +kernel)
theorem tw_912 : (.sameMethod "java/lang/Throwable" "java/lang/Throwable" "fillInStackTrace" "(I)Ljava/lang/Throwable;" : Cond) ∈ gt := gt_tab (List.mem_of_getElem? (i := 912) (by decide +kernel)) (by decide +kernel)
theorem tw_913 : (.sameMethod "EditablePast$Bag" "EditablePast$Bag" "insert" "(II)V" : Cond) ∈ gt := gt_tab (List.mem_of_getElem? (i := 913) (by decide +kernel)) (by decide +kernel)
theorem tw_914 : (.sameMethod "EditablePast$Bag" "EditablePast$Bag" "removeFirst" "()I" : Cond) ∈ gt := gt_tab (List.mem_of_getElem? (i := 914) (by decide +kernel)) (by decide +kernel)
theorem ts_0 : (.selects "java/lang/Throwable" ⟨"java/lang/Throwable", "fillInStackTrace", "(I)Ljava/lang/Throwable;"⟩ ⟨"java/lang/Throwable", "fillInStackTrace", "(I)Ljava/lang/Throwable;"⟩ : Cond) ∈ gt := gt_sel (List.mem_of_getElem? (i := 0) (by decide +kernel)) (by decide +kernel)
theorem ts_1 : (.selects "EditablePast" ⟨"EditablePast", "collectionOf", "(I)LEditablePast$Collection;"⟩ ⟨"EditablePast", "collectionOf", "(I)LEditablePast$Collection;"⟩ : Cond) ∈ gt := gt_sel (List.mem_of_getElem? (i := 1) (by decide +kernel)) (by decide +kernel)
theorem ts_2 : (.selects "EditablePast" ⟨"EditablePast", "openCollection", "(I)LEditablePast$Collection;"⟩ ⟨"EditablePast", "openCollection", "(I)LEditablePast$Collection;"⟩ : Cond) ∈ gt := gt_sel (List.mem_of_getElem? (i := 2) (by decide +kernel)) (by decide +kernel)
theorem ts_3 : (.selects "EditablePast" ⟨"EditablePast", "contentsOf", "(I)LEditablePast$Contents;"⟩ ⟨"EditablePast", "contentsOf", "(I)LEditablePast$Contents;"⟩ : Cond) ∈ gt := gt_sel (List.mem_of_getElem? (i := 3) (by decide +kernel)) (by decide +kernel)
theorem ts_4 : (.selects "EditablePast$Line" ⟨"EditablePast$Line", "copyOperation", "(LEditablePast$Line;II)V"⟩ ⟨"EditablePast$Line", "copyOperation", "(LEditablePast$Line;II)V"⟩ : Cond) ∈ gt := gt_sel (List.mem_of_getElem? (i := 4) (by decide +kernel)) (by decide +kernel)
theorem ts_5 : (.selects "EditablePast$Table" ⟨"EditablePast$Table", "add", "(II)V"⟩ ⟨"EditablePast$Table", "add", "(II)V"⟩ : Cond) ∈ gt := gt_sel (List.mem_of_getElem? (i := 5) (by decide +kernel)) (by decide +kernel)
theorem ts_6 : (.selects "EditablePast$Table" ⟨"EditablePast$Table", "remove", "(I)V"⟩ ⟨"EditablePast$Table", "remove", "(I)V"⟩ : Cond) ∈ gt := gt_sel (List.mem_of_getElem? (i := 6) (by decide +kernel)) (by decide +kernel)
theorem ts_7 : (.selects "EditablePast$Line" ⟨"EditablePast$Line", "isSame", "(ILEditablePast$Line;I)Z"⟩ ⟨"EditablePast$Line", "isSame", "(ILEditablePast$Line;I)Z"⟩ : Cond) ∈ gt := gt_sel (List.mem_of_getElem? (i := 7) (by decide +kernel)) (by decide +kernel)
theorem ts_8 : (.selects "EditablePast$Line" ⟨"EditablePast$Line", "momentOrNever", "(I)I"⟩ ⟨"EditablePast$Line", "momentOrNever", "(I)I"⟩ : Cond) ∈ gt := gt_sel (List.mem_of_getElem? (i := 8) (by decide +kernel)) (by decide +kernel)
theorem ts_9 : (.selects "EditablePastModel" ⟨"EditablePastModel", "lacks", "(II)Z"⟩ ⟨"EditablePastModel", "lacks", "(II)Z"⟩ : Cond) ∈ gt := gt_sel (List.mem_of_getElem? (i := 9) (by decide +kernel)) (by decide +kernel)
theorem ts_10 : (.selects "EditablePastModel" ⟨"EditablePastModel", "find", "(II)I"⟩ ⟨"EditablePastModel", "find", "(II)I"⟩ : Cond) ∈ gt := gt_sel (List.mem_of_getElem? (i := 10) (by decide +kernel)) (by decide +kernel)
theorem ts_11 : (.selects "EditablePastModel" ⟨"EditablePastModel", "kindOf", "(I)I"⟩ ⟨"EditablePastModel", "kindOf", "(I)I"⟩ : Cond) ∈ gt := gt_sel (List.mem_of_getElem? (i := 11) (by decide +kernel)) (by decide +kernel)
theorem ts_12 : (.selects "EditablePastModel" ⟨"EditablePastModel", "remember", "(I)V"⟩ ⟨"EditablePastModel", "remember", "(I)V"⟩ : Cond) ∈ gt := gt_sel (List.mem_of_getElem? (i := 12) (by decide +kernel)) (by decide +kernel)
theorem ts_13 : (.selects "EditablePastModel" ⟨"EditablePastModel", "copy", "(II)V"⟩ ⟨"EditablePastModel", "copy", "(II)V"⟩ : Cond) ∈ gt := gt_sel (List.mem_of_getElem? (i := 13) (by decide +kernel)) (by decide +kernel)
theorem ts_14 : (.selects "EditablePastModel" ⟨"EditablePastModel", "insert", "(IIIII)V"⟩ ⟨"EditablePastModel", "insert", "(IIIII)V"⟩ : Cond) ∈ gt := gt_sel (List.mem_of_getElem? (i := 14) (by decide +kernel)) (by decide +kernel)
theorem ts_15 : (.selects "EditablePastModel" ⟨"EditablePastModel", "cut", "(II)V"⟩ ⟨"EditablePastModel", "cut", "(II)V"⟩ : Cond) ∈ gt := gt_sel (List.mem_of_getElem? (i := 15) (by decide +kernel)) (by decide +kernel)
theorem ts_16 : (.selects "EditablePastModel" ⟨"EditablePastModel", "isNotFor", "(III)Z"⟩ ⟨"EditablePastModel", "isNotFor", "(III)Z"⟩ : Cond) ∈ gt := gt_sel (List.mem_of_getElem? (i := 16) (by decide +kernel)) (by decide +kernel)
theorem ts_17 : (.selects "EditablePastModel" ⟨"EditablePastModel", "run", "(III)V"⟩ ⟨"EditablePastModel", "run", "(III)V"⟩ : Cond) ∈ gt := gt_sel (List.mem_of_getElem? (i := 17) (by decide +kernel)) (by decide +kernel)
theorem ts_18 : (.selects "EditablePastModel" ⟨"EditablePastModel", "doSets", "(II)Z"⟩ ⟨"EditablePastModel", "doSets", "(II)Z"⟩ : Cond) ∈ gt := gt_sel (List.mem_of_getElem? (i := 18) (by decide +kernel)) (by decide +kernel)
theorem ts_19 : (.selects "EditablePastModel" ⟨"EditablePastModel", "doTable", "(IIII)Z"⟩ ⟨"EditablePastModel", "doTable", "(IIII)Z"⟩ : Cond) ∈ gt := gt_sel (List.mem_of_getElem? (i := 19) (by decide +kernel)) (by decide +kernel)
theorem ts_20 : (.selects "EditablePastModel" ⟨"EditablePastModel", "keyAt", "(I)I"⟩ ⟨"EditablePastModel", "keyAt", "(I)I"⟩ : Cond) ∈ gt := gt_sel (List.mem_of_getElem? (i := 20) (by decide +kernel)) (by decide +kernel)
theorem ts_21 : (.selects "EditablePastModel" ⟨"EditablePastModel", "takeOut", "(I)V"⟩ ⟨"EditablePastModel", "takeOut", "(I)V"⟩ : Cond) ∈ gt := gt_sel (List.mem_of_getElem? (i := 21) (by decide +kernel)) (by decide +kernel)
theorem ts_22 : (.selects "EditablePastModel" ⟨"EditablePastModel", "doBag", "(IIII)Z"⟩ ⟨"EditablePastModel", "doBag", "(IIII)Z"⟩ : Cond) ∈ gt := gt_sel (List.mem_of_getElem? (i := 22) (by decide +kernel)) (by decide +kernel)
theorem ts_23 : (.selects "EditablePastModel" ⟨"EditablePastModel", "nextOf", "(I)I"⟩ ⟨"EditablePastModel", "nextOf", "(I)I"⟩ : Cond) ∈ gt := gt_sel (List.mem_of_getElem? (i := 23) (by decide +kernel)) (by decide +kernel)
theorem ts_24 : (.selects "EditablePastModel" ⟨"EditablePastModel", "asked", "(II)I"⟩ ⟨"EditablePastModel", "asked", "(II)I"⟩ : Cond) ∈ gt := gt_sel (List.mem_of_getElem? (i := 24) (by decide +kernel)) (by decide +kernel)
theorem ts_25 : (.selects "EditablePastModel" ⟨"EditablePastModel", "lacksTwo", "(III)Z"⟩ ⟨"EditablePastModel", "lacksTwo", "(III)Z"⟩ : Cond) ∈ gt := gt_sel (List.mem_of_getElem? (i := 25) (by decide +kernel)) (by decide +kernel)
def F_Co : u_T := fun k => match k with
  | 0 => ("EditablePast$Collection", "kind", "I", false)
  | 1 => ("EditablePast$Collection", "now", "LEditablePast$Line;", true)
  | _ => ("EditablePast$Collection", "before", "LEditablePast$Line;", true)
def t_Co : Nat → FieldType := fun k => match k with
  | 0 => .int
  | 1 => .object "EditablePast$Line"
  | _ => .object "EditablePast$Line"
theorem n_Co : ∀ a, a < 3 → ∀ b, b < 3 → a ≠ b → (F_Co a).2.1 ≠ (F_Co b).2.1 := by decide +kernel
theorem t_Co_ok : ∀ k, k < 3 → parseFieldDescriptor (F_Co k).2.2.1 = some (t_Co k) := by decide +kernel
theorem in_Co : ∀ w ∈ u_ws R_Co F_Co 3, w ∈ gt := by
  intro w h
  obtain ⟨k, hk, rfl⟩ := List.mem_map.mp h
  have hk := List.mem_range.mp hk
  rcases (show k = 0 ∨ k = 1 ∨ k = 2 by omega) with rfl | rfl | rfl
  · exact tw_81
  · exact tw_83
  · exact tw_85
def F_Li : u_T := fun k => match k with
  | 0 => ("EditablePast$Line", "count", "I", false)
  | 1 => ("EditablePast$Line", "moments", "[I", true)
  | 2 => ("EditablePast$Line", "names", "[I", true)
  | 3 => ("EditablePast$Line", "as", "[I", true)
  | 4 => ("EditablePast$Line", "bs", "[I", true)
  | 5 => ("EditablePast$Line", "results", "[J", true)
  | _ => ("EditablePast$Line", "effects", "[Z", true)
def t_Li : Nat → FieldType := fun k => match k with
  | 0 => .int
  | 1 => .array .int
  | 2 => .array .int
  | 3 => .array .int
  | 4 => .array .int
  | 5 => .array .long
  | _ => .array .boolean
theorem n_Li : ∀ a, a < 7 → ∀ b, b < 7 → a ≠ b → (F_Li a).2.1 ≠ (F_Li b).2.1 := by decide +kernel
theorem t_Li_ok : ∀ k, k < 7 → parseFieldDescriptor (F_Li k).2.2.1 = some (t_Li k) := by decide +kernel
theorem in_Li : ∀ w ∈ u_ws R_Li F_Li 7, w ∈ gt := by
  intro w h
  obtain ⟨k, hk, rfl⟩ := List.mem_map.mp h
  have hk := List.mem_range.mp hk
  rcases (show k = 0 ∨ k = 1 ∨ k = 2 ∨ k = 3 ∨ k = 4 ∨ k = 5 ∨ k = 6 by omega) with rfl | rfl | rfl | rfl | rfl | rfl | rfl
  · exact tw_57
  · exact tw_59
  · exact tw_61
  · exact tw_63
  · exact tw_65
  · exact tw_67
  · exact tw_69
def F_Qu : u_T := fun k => match k with
  | 0 => ("EditablePast$Bag", "values", "[I", true)
  | 1 => ("EditablePast$Contents", "count", "I", false)
  | 2 => ("EditablePast$Contents", "lastResult", "J", false)
  | _ => ("EditablePast$Contents", "lastEffect", "Z", false)
def t_Qu : Nat → FieldType := fun k => match k with
  | 0 => .array .int
  | 1 => .int
  | 2 => .long
  | _ => .boolean
theorem n_Qu : ∀ a, a < 4 → ∀ b, b < 4 → a ≠ b → (F_Qu a).2.1 ≠ (F_Qu b).2.1 := by decide +kernel
theorem t_Qu_ok : ∀ k, k < 4 → parseFieldDescriptor (F_Qu k).2.2.1 = some (t_Qu k) := by decide +kernel
theorem in_Qu : ∀ w ∈ u_ws R_Qu F_Qu 4, w ∈ gt := by
  intro w h
  obtain ⟨k, hk, rfl⟩ := List.mem_map.mp h
  have hk := List.mem_range.mp hk
  rcases (show k = 0 ∨ k = 1 ∨ k = 2 ∨ k = 3 by omega) with rfl | rfl | rfl | rfl
  · exact tw_122
  · exact tw_124
  · exact tw_126
  · exact tw_128
def F_St : u_T := fun k => match k with
  | 0 => ("EditablePast$Bag", "values", "[I", true)
  | 1 => ("EditablePast$Contents", "count", "I", false)
  | 2 => ("EditablePast$Contents", "lastResult", "J", false)
  | _ => ("EditablePast$Contents", "lastEffect", "Z", false)
def t_St : Nat → FieldType := fun k => match k with
  | 0 => .array .int
  | 1 => .int
  | 2 => .long
  | _ => .boolean
theorem n_St : ∀ a, a < 4 → ∀ b, b < 4 → a ≠ b → (F_St a).2.1 ≠ (F_St b).2.1 := by decide +kernel
theorem t_St_ok : ∀ k, k < 4 → parseFieldDescriptor (F_St k).2.2.1 = some (t_St k) := by decide +kernel
theorem in_St : ∀ w ∈ u_ws R_St F_St 4, w ∈ gt := by
  intro w h
  obtain ⟨k, hk, rfl⟩ := List.mem_map.mp h
  have hk := List.mem_range.mp hk
  rcases (show k = 0 ∨ k = 1 ∨ k = 2 ∨ k = 3 by omega) with rfl | rfl | rfl | rfl
  · exact tw_137
  · exact tw_138
  · exact tw_139
  · exact tw_140
def F_He : u_T := fun k => match k with
  | 0 => ("EditablePast$Bag", "values", "[I", true)
  | 1 => ("EditablePast$Contents", "count", "I", false)
  | 2 => ("EditablePast$Contents", "lastResult", "J", false)
  | _ => ("EditablePast$Contents", "lastEffect", "Z", false)
def t_He : Nat → FieldType := fun k => match k with
  | 0 => .array .int
  | 1 => .int
  | 2 => .long
  | _ => .boolean
theorem n_He : ∀ a, a < 4 → ∀ b, b < 4 → a ≠ b → (F_He a).2.1 ≠ (F_He b).2.1 := by decide +kernel
theorem t_He_ok : ∀ k, k < 4 → parseFieldDescriptor (F_He k).2.2.1 = some (t_He k) := by decide +kernel
theorem in_He : ∀ w ∈ u_ws R_He F_He 4, w ∈ gt := by
  intro w h
  obtain ⟨k, hk, rfl⟩ := List.mem_map.mp h
  have hk := List.mem_range.mp hk
  rcases (show k = 0 ∨ k = 1 ∨ k = 2 ∨ k = 3 by omega) with rfl | rfl | rfl | rfl
  · exact tw_165
  · exact tw_166
  · exact tw_167
  · exact tw_168
def F_Ta : u_T := fun k => match k with
  | 0 => ("EditablePast$Table", "keys", "[I", true)
  | 1 => ("EditablePast$Table", "values", "[I", true)
  | 2 => ("EditablePast$Contents", "count", "I", false)
  | 3 => ("EditablePast$Contents", "lastResult", "J", false)
  | _ => ("EditablePast$Contents", "lastEffect", "Z", false)
def t_Ta : Nat → FieldType := fun k => match k with
  | 0 => .array .int
  | 1 => .array .int
  | 2 => .int
  | 3 => .long
  | _ => .boolean
theorem n_Ta : ∀ a, a < 5 → ∀ b, b < 5 → a ≠ b → (F_Ta a).2.1 ≠ (F_Ta b).2.1 := by decide +kernel
theorem t_Ta_ok : ∀ k, k < 5 → parseFieldDescriptor (F_Ta k).2.2.1 = some (t_Ta k) := by decide +kernel
theorem in_Ta : ∀ w ∈ u_ws R_Ta F_Ta 5, w ∈ gt := by
  intro w h
  obtain ⟨k, hk, rfl⟩ := List.mem_map.mp h
  have hk := List.mem_range.mp hk
  rcases (show k = 0 ∨ k = 1 ∨ k = 2 ∨ k = 3 ∨ k = 4 by omega) with rfl | rfl | rfl | rfl | rfl
  · exact tw_151
  · exact tw_153
  · exact tw_155
  · exact tw_156
  · exact tw_157
def F_Re : u_T := fun k => match k with
  | 0 => ("EditablePast$Register", "total", "J", false)
  | 1 => ("EditablePast$Contents", "count", "I", false)
  | 2 => ("EditablePast$Contents", "lastResult", "J", false)
  | _ => ("EditablePast$Contents", "lastEffect", "Z", false)
def t_Re : Nat → FieldType := fun k => match k with
  | 0 => .long
  | 1 => .int
  | 2 => .long
  | _ => .boolean
theorem n_Re : ∀ a, a < 4 → ∀ b, b < 4 → a ≠ b → (F_Re a).2.1 ≠ (F_Re b).2.1 := by decide +kernel
theorem t_Re_ok : ∀ k, k < 4 → parseFieldDescriptor (F_Re k).2.2.1 = some (t_Re k) := by decide +kernel
theorem in_Re : ∀ w ∈ u_ws R_Re F_Re 4, w ∈ gt := by
  intro w h
  obtain ⟨k, hk, rfl⟩ := List.mem_map.mp h
  have hk := List.mem_range.mp hk
  rcases (show k = 0 ∨ k = 1 ∨ k = 2 ∨ k = 3 by omega) with rfl | rfl | rfl | rfl
  · exact tw_178
  · exact tw_180
  · exact tw_181
  · exact tw_182
def F_Se : u_T := fun k => match k with
  | 0 => ("EditablePast$Sets", "leaders", "[I", true)
  | 1 => ("EditablePast$Contents", "count", "I", false)
  | 2 => ("EditablePast$Contents", "lastResult", "J", false)
  | _ => ("EditablePast$Contents", "lastEffect", "Z", false)
def t_Se : Nat → FieldType := fun k => match k with
  | 0 => .array .int
  | 1 => .int
  | 2 => .long
  | _ => .boolean
theorem n_Se : ∀ a, a < 4 → ∀ b, b < 4 → a ≠ b → (F_Se a).2.1 ≠ (F_Se b).2.1 := by decide +kernel
theorem t_Se_ok : ∀ k, k < 4 → parseFieldDescriptor (F_Se k).2.2.1 = some (t_Se k) := by decide +kernel
theorem in_Se : ∀ w ∈ u_ws R_Se F_Se 4, w ∈ gt := by
  intro w h
  obtain ⟨k, hk, rfl⟩ := List.mem_map.mp h
  have hk := List.mem_range.mp hk
  rcases (show k = 0 ∨ k = 1 ∨ k = 2 ∨ k = 3 by omega) with rfl | rfl | rfl | rfl
  · exact tw_192
  · exact tw_194
  · exact tw_195
  · exact tw_196
def F_EP : u_T := fun k => match k with
  | 0 => ("EditablePast", "collections", "[LEditablePast$Collection;", true)
  | 1 => ("EditablePast", "queue", "LEditablePast$Queue;", true)
  | 2 => ("EditablePast", "stack", "LEditablePast$Stack;", true)
  | 3 => ("EditablePast", "table", "LEditablePast$Table;", true)
  | 4 => ("EditablePast", "heap", "LEditablePast$Heap;", true)
  | 5 => ("EditablePast", "register", "LEditablePast$Register;", true)
  | _ => ("EditablePast", "sets", "LEditablePast$Sets;", true)
def t_EP : Nat → FieldType := fun k => match k with
  | 0 => .array (.object "EditablePast$Collection")
  | 1 => .object "EditablePast$Queue"
  | 2 => .object "EditablePast$Stack"
  | 3 => .object "EditablePast$Table"
  | 4 => .object "EditablePast$Heap"
  | 5 => .object "EditablePast$Register"
  | _ => .object "EditablePast$Sets"
theorem n_EP : ∀ a, a < 7 → ∀ b, b < 7 → a ≠ b → (F_EP a).2.1 ≠ (F_EP b).2.1 := by decide +kernel
theorem t_EP_ok : ∀ k, k < 7 → parseFieldDescriptor (F_EP k).2.2.1 = some (t_EP k) := by decide +kernel
theorem in_EP : ∀ w ∈ u_ws R_EP F_EP 7, w ∈ gt := by
  intro w h
  obtain ⟨k, hk, rfl⟩ := List.mem_map.mp h
  have hk := List.mem_range.mp hk
  rcases (show k = 0 ∨ k = 1 ∨ k = 2 ∨ k = 3 ∨ k = 4 ∨ k = 5 ∨ k = 6 by omega) with rfl | rfl | rfl | rfl | rfl | rfl | rfl
  · exact tw_205
  · exact tw_207
  · exact tw_209
  · exact tw_211
  · exact tw_213
  · exact tw_215
  · exact tw_217
def F_Md : u_T := fun k => match k with
  | 0 => ("EditablePastModel", "code", "I", false)
  | 1 => ("EditablePastModel", "kinds", "[I", true)
  | 2 => ("EditablePastModel", "edited", "[Z", true)
  | 3 => ("EditablePastModel", "counts", "[I", true)
  | 4 => ("EditablePastModel", "times", "[I", true)
  | 5 => ("EditablePastModel", "names", "[I", true)
  | 6 => ("EditablePastModel", "as", "[I", true)
  | 7 => ("EditablePastModel", "bs", "[I", true)
  | 8 => ("EditablePastModel", "many", "I", false)
  | 9 => ("EditablePastModel", "items", "[I", true)
  | 10 => ("EditablePastModel", "values", "[I", true)
  | 11 => ("EditablePastModel", "sets", "[I", true)
  | 12 => ("EditablePastModel", "sum", "J", false)
  | 13 => ("EditablePastModel", "results", "[J", true)
  | 14 => ("EditablePastModel", "works", "[Z", true)
  | 15 => ("EditablePastModel", "otherResults", "[J", true)
  | _ => ("EditablePastModel", "otherWorks", "[Z", true)
def t_Md : Nat → FieldType := fun k => match k with
  | 0 => .int
  | 1 => .array .int
  | 2 => .array .boolean
  | 3 => .array .int
  | 4 => .array .int
  | 5 => .array .int
  | 6 => .array .int
  | 7 => .array .int
  | 8 => .int
  | 9 => .array .int
  | 10 => .array .int
  | 11 => .array .int
  | 12 => .long
  | 13 => .array .long
  | 14 => .array .boolean
  | 15 => .array .long
  | _ => .array .boolean
theorem n_Md : ∀ a, a < 17 → ∀ b, b < 17 → a ≠ b → (F_Md a).2.1 ≠ (F_Md b).2.1 := by decide +kernel
theorem t_Md_ok : ∀ k, k < 17 → parseFieldDescriptor (F_Md k).2.2.1 = some (t_Md k) := by decide +kernel
theorem in_Md : ∀ w ∈ u_ws R_Md F_Md 17, w ∈ gt := by
  intro w h
  obtain ⟨k, hk, rfl⟩ := List.mem_map.mp h
  have hk := List.mem_range.mp hk
  rcases (show k = 0 ∨ k = 1 ∨ k = 2 ∨ k = 3 ∨ k = 4 ∨ k = 5 ∨ k = 6 ∨ k = 7 ∨ k = 8 ∨ k = 9 ∨ k = 10 ∨ k = 11 ∨ k = 12 ∨ k = 13 ∨ k = 14 ∨ k = 15 ∨ k = 16 by omega) with rfl | rfl | rfl | rfl | rfl | rfl | rfl | rfl | rfl | rfl | rfl | rfl | rfl | rfl | rfl | rfl | rfl
  · exact tw_723
  · exact tw_725
  · exact tw_727
  · exact tw_729
  · exact tw_731
  · exact tw_733
  · exact tw_735
  · exact tw_737
  · exact tw_739
  · exact tw_741
  · exact tw_743
  · exact tw_745
  · exact tw_747
  · exact tw_749
  · exact tw_751
  · exact tw_753
  · exact tw_755
abbrev cls : List vw_C := [(R_Co, F_Co, 3), (R_Li, F_Li, 7), (R_Qu, F_Qu, 4), (R_St, F_St, 4), (R_He, F_He, 4), (R_Ta, F_Ta, 5), (R_Re, F_Re, 4), (R_Se, F_Se, 4), (R_EP, F_EP, 7), (R_Md, F_Md, 17)]
abbrev c_EP_init : ByteArray := prog_1_method_1_code
abbrev y_EP_init : MethodName := ⟨"EditablePast", "<init>", "()V"⟩
abbrev k_EP_init : Cond := .code ⟨"EditablePast", "<init>", "()V"⟩ prog_1_method_1_code 2 none
theorem tk_EP_init : k_EP_init ∈ gt := gt_tab (List.mem_of_getElem? (i := 26) (by decide +kernel)) (by decide +kernel)
abbrev c_Ob_init : ByteArray := object_method_1_code
abbrev y_Ob_init : MethodName := ⟨"java/lang/Object", "<init>", "()V"⟩
abbrev k_Ob_init : Cond := .code ⟨"java/lang/Object", "<init>", "()V"⟩ object_method_1_code 1 none
theorem tk_Ob_init : k_Ob_init ∈ gt := gt_tab (List.mem_of_getElem? (i := 29) (by decide +kernel)) (by decide +kernel)
abbrev c_Co_init : ByteArray := prog_3_method_1_code
abbrev y_Co_init : MethodName := ⟨"EditablePast$Collection", "<init>", "()V"⟩
abbrev k_Co_init : Cond := .code ⟨"EditablePast$Collection", "<init>", "()V"⟩ prog_3_method_1_code 1 none
theorem tk_Co_init : k_Co_init ∈ gt := gt_tab (List.mem_of_getElem? (i := 35) (by decide +kernel)) (by decide +kernel)
abbrev c_Li_init : ByteArray := prog_6_method_1_code
abbrev y_Li_init : MethodName := ⟨"EditablePast$Line", "<init>", "()V"⟩
abbrev k_Li_init : Cond := .code ⟨"EditablePast$Line", "<init>", "()V"⟩ prog_6_method_1_code 1 none
theorem tk_Li_init : k_Li_init ∈ gt := gt_tab (List.mem_of_getElem? (i := 41) (by decide +kernel)) (by decide +kernel)
abbrev c_Qu_init : ByteArray := prog_7_method_1_code
abbrev y_Qu_init : MethodName := ⟨"EditablePast$Queue", "<init>", "()V"⟩
abbrev k_Qu_init : Cond := .code ⟨"EditablePast$Queue", "<init>", "()V"⟩ prog_7_method_1_code 1 none
theorem tk_Qu_init : k_Qu_init ∈ gt := gt_tab (List.mem_of_getElem? (i := 92) (by decide +kernel)) (by decide +kernel)
abbrev c_Ba_init : ByteArray := prog_2_method_1_code
abbrev y_Ba_init : MethodName := ⟨"EditablePast$Bag", "<init>", "()V"⟩
abbrev k_Ba_init : Cond := .code ⟨"EditablePast$Bag", "<init>", "()V"⟩ prog_2_method_1_code 1 none
theorem tk_Ba_init : k_Ba_init ∈ gt := gt_tab (List.mem_of_getElem? (i := 95) (by decide +kernel)) (by decide +kernel)
abbrev c_Ct_init : ByteArray := prog_4_method_1_code
abbrev y_Ct_init : MethodName := ⟨"EditablePast$Contents", "<init>", "()V"⟩
abbrev k_Ct_init : Cond := .code ⟨"EditablePast$Contents", "<init>", "()V"⟩ prog_4_method_1_code 1 none
theorem tk_Ct_init : k_Ct_init ∈ gt := gt_tab (List.mem_of_getElem? (i := 98) (by decide +kernel)) (by decide +kernel)
abbrev c_St_init : ByteArray := prog_10_method_1_code
abbrev y_St_init : MethodName := ⟨"EditablePast$Stack", "<init>", "()V"⟩
abbrev k_St_init : Cond := .code ⟨"EditablePast$Stack", "<init>", "()V"⟩ prog_10_method_1_code 1 none
theorem tk_St_init : k_St_init ∈ gt := gt_tab (List.mem_of_getElem? (i := 135) (by decide +kernel)) (by decide +kernel)
abbrev c_Ta_init : ByteArray := prog_11_method_1_code
abbrev y_Ta_init : MethodName := ⟨"EditablePast$Table", "<init>", "()V"⟩
abbrev k_Ta_init : Cond := .code ⟨"EditablePast$Table", "<init>", "()V"⟩ prog_11_method_1_code 1 none
theorem tk_Ta_init : k_Ta_init ∈ gt := gt_tab (List.mem_of_getElem? (i := 146) (by decide +kernel)) (by decide +kernel)
abbrev c_He_init : ByteArray := prog_5_method_1_code
abbrev y_He_init : MethodName := ⟨"EditablePast$Heap", "<init>", "()V"⟩
abbrev k_He_init : Cond := .code ⟨"EditablePast$Heap", "<init>", "()V"⟩ prog_5_method_1_code 1 none
theorem tk_He_init : k_He_init ∈ gt := gt_tab (List.mem_of_getElem? (i := 163) (by decide +kernel)) (by decide +kernel)
abbrev c_Re_init : ByteArray := prog_8_method_1_code
abbrev y_Re_init : MethodName := ⟨"EditablePast$Register", "<init>", "()V"⟩
abbrev k_Re_init : Cond := .code ⟨"EditablePast$Register", "<init>", "()V"⟩ prog_8_method_1_code 1 none
theorem tk_Re_init : k_Re_init ∈ gt := gt_tab (List.mem_of_getElem? (i := 174) (by decide +kernel)) (by decide +kernel)
abbrev c_Se_init : ByteArray := prog_9_method_1_code
abbrev y_Se_init : MethodName := ⟨"EditablePast$Sets", "<init>", "()V"⟩
abbrev k_Se_init : Cond := .code ⟨"EditablePast$Sets", "<init>", "()V"⟩ prog_9_method_1_code 1 none
theorem tk_Se_init : k_Se_init ∈ gt := gt_tab (List.mem_of_getElem? (i := 188) (by decide +kernel)) (by decide +kernel)
abbrev c_Lw_open : ByteArray := method_3_code
abbrev y_Lw_open : MethodName := ⟨"EditablePastLaw", "open", "(LEditablePast;II)I"⟩
abbrev k_Lw_open : Cond := .codeWith ⟨"EditablePastLaw", "open", "(LEditablePast;II)I"⟩ method_3_code 4 (Option.some FieldType.int) [(0, 6, 9, 13), (0, 6, 12, 15)]
theorem tk_Lw_open : k_Lw_open ∈ gt := gt_tab (List.mem_of_getElem? (i := 222) (by decide +kernel)) (by decide +kernel)
abbrev c_EP_open : ByteArray := prog_1_method_2_code
abbrev y_EP_open : MethodName := ⟨"EditablePast", "open", "(II)V"⟩
abbrev k_EP_open : Cond := .code ⟨"EditablePast", "open", "(II)V"⟩ prog_1_method_2_code 4 none
theorem tk_EP_open : k_EP_open ∈ gt := gt_tab (List.mem_of_getElem? (i := 228) (by decide +kernel)) (by decide +kernel)
abbrev c_EP_collectionOf : ByteArray := prog_1_method_19_code
abbrev y_EP_collectionOf : MethodName := ⟨"EditablePast", "collectionOf", "(I)LEditablePast$Collection;"⟩
abbrev k_EP_collectionOf : Cond := .code ⟨"EditablePast", "collectionOf", "(I)LEditablePast$Collection;"⟩ prog_1_method_19_code 2 (Option.some (FieldType.object "EditablePast$Collection"))
theorem tk_EP_collectionOf : k_EP_collectionOf ∈ gt := gt_tab (List.mem_of_getElem? (i := 302) (by decide +kernel)) (by decide +kernel)
abbrev c_Lw_close : ByteArray := method_4_code
abbrev y_Lw_close : MethodName := ⟨"EditablePastLaw", "close", "(LEditablePast;I[J)I"⟩
abbrev k_Lw_close : Cond := .codeWith ⟨"EditablePastLaw", "close", "(LEditablePast;I[J)I"⟩ method_4_code 4 (Option.some FieldType.int) [(0, 9, 12, 13), (0, 9, 15, 15)]
theorem tk_Lw_close : k_Lw_close ∈ gt := gt_tab (List.mem_of_getElem? (i := 322) (by decide +kernel)) (by decide +kernel)
abbrev c_EP_close : ByteArray := prog_1_method_3_code
abbrev y_EP_close : MethodName := ⟨"EditablePast", "close", "(I)I"⟩
abbrev k_EP_close : Cond := .code ⟨"EditablePast", "close", "(I)I"⟩ prog_1_method_3_code 3 (Option.some FieldType.int)
theorem tk_EP_close : k_EP_close ∈ gt := gt_tab (List.mem_of_getElem? (i := 326) (by decide +kernel)) (by decide +kernel)
abbrev c_EP_openCollection : ByteArray := prog_1_method_20_code
abbrev y_EP_openCollection : MethodName := ⟨"EditablePast", "openCollection", "(I)LEditablePast$Collection;"⟩
abbrev k_EP_openCollection : Cond := .code ⟨"EditablePast", "openCollection", "(I)LEditablePast$Collection;"⟩ prog_1_method_20_code 3 (Option.some (FieldType.object "EditablePast$Collection"))
theorem tk_EP_openCollection : k_EP_openCollection ∈ gt := gt_tab (List.mem_of_getElem? (i := 330) (by decide +kernel)) (by decide +kernel)
abbrev c_Lw_put : ByteArray := method_5_code
abbrev y_Lw_put : MethodName := ⟨"EditablePastLaw", "put", "(LEditablePast;IIIII)I"⟩
abbrev k_Lw_put : Cond := .codeWith ⟨"EditablePastLaw", "put", "(LEditablePast;IIIII)I"⟩ method_5_code 7 (Option.some FieldType.int) [(0, 11, 14, 13), (0, 11, 18, 15), (0, 11, 22, 25)]
theorem tk_Lw_put : k_Lw_put ∈ gt := gt_tab (List.mem_of_getElem? (i := 334) (by decide +kernel)) (by decide +kernel)
abbrev c_EP_put : ByteArray := prog_1_method_4_code
abbrev y_EP_put : MethodName := ⟨"EditablePast", "put", "(IIIII)V"⟩
abbrev k_EP_put : Cond := .code ⟨"EditablePast", "put", "(IIIII)V"⟩ prog_1_method_4_code 7 none
theorem tk_EP_put : k_EP_put ∈ gt := gt_tab (List.mem_of_getElem? (i := 339) (by decide +kernel)) (by decide +kernel)
abbrev c_EP_checkMoment : ByteArray := prog_1_method_22_code
abbrev y_EP_checkMoment : MethodName := ⟨"EditablePast", "checkMoment", "(I)V"⟩
abbrev k_EP_checkMoment : Cond := .code ⟨"EditablePast", "checkMoment", "(I)V"⟩ prog_1_method_22_code 1 none
theorem tk_EP_checkMoment : k_EP_checkMoment ∈ gt := gt_tab (List.mem_of_getElem? (i := 342) (by decide +kernel)) (by decide +kernel)
abbrev c_EP_checkFree : ByteArray := prog_1_method_24_code
abbrev y_EP_checkFree : MethodName := ⟨"EditablePast", "checkFree", "(LEditablePast$Line;I)V"⟩
abbrev k_EP_checkFree : Cond := .code ⟨"EditablePast", "checkFree", "(LEditablePast$Line;I)V"⟩ prog_1_method_24_code 2 none
theorem tk_EP_checkFree : k_EP_checkFree ∈ gt := gt_tab (List.mem_of_getElem? (i := 347) (by decide +kernel)) (by decide +kernel)
abbrev c_Li_placeAt : ByteArray := prog_6_method_3_code
abbrev y_Li_placeAt : MethodName := ⟨"EditablePast$Line", "placeAt", "(I)I"⟩
abbrev k_Li_placeAt : Cond := .code ⟨"EditablePast$Line", "placeAt", "(I)I"⟩ prog_6_method_3_code 3 (Option.some FieldType.int)
theorem tk_Li_placeAt : k_Li_placeAt ∈ gt := gt_tab (List.mem_of_getElem? (i := 351) (by decide +kernel)) (by decide +kernel)
abbrev c_Li_placeFrom : ByteArray := prog_6_method_2_code
abbrev y_Li_placeFrom : MethodName := ⟨"EditablePast$Line", "placeFrom", "(I)I"⟩
abbrev k_Li_placeFrom : Cond := .code ⟨"EditablePast$Line", "placeFrom", "(I)I"⟩ prog_6_method_2_code 3 (Option.some FieldType.int)
theorem tk_Li_placeFrom : k_Li_placeFrom ∈ gt := gt_tab (List.mem_of_getElem? (i := 355) (by decide +kernel)) (by decide +kernel)
abbrev c_EP_contentsOf : ByteArray := prog_1_method_21_code
abbrev y_EP_contentsOf : MethodName := ⟨"EditablePast", "contentsOf", "(I)LEditablePast$Contents;"⟩
abbrev k_EP_contentsOf : Cond := .code ⟨"EditablePast", "contentsOf", "(I)LEditablePast$Contents;"⟩ prog_1_method_21_code 2 (Option.some (FieldType.object "EditablePast$Contents"))
theorem tk_EP_contentsOf : k_EP_contentsOf ∈ gt := gt_tab (List.mem_of_getElem? (i := 361) (by decide +kernel)) (by decide +kernel)
abbrev c_Ba_allows : ByteArray := prog_2_method_3_code
abbrev y_Ba_allows : MethodName := ⟨"EditablePast$Bag", "allows", "(III)Z"⟩
abbrev k_Ba_allows : Cond := .code ⟨"EditablePast$Bag", "allows", "(III)Z"⟩ prog_2_method_3_code 4 (Option.some FieldType.boolean)
theorem tk_Ba_allows : k_Ba_allows ∈ gt := gt_tab (List.mem_of_getElem? (i := 367) (by decide +kernel)) (by decide +kernel)
abbrev c_EP_isValue : ByteArray := prog_1_method_26_code
abbrev y_EP_isValue : MethodName := ⟨"EditablePast", "isValue", "(I)Z"⟩
abbrev k_EP_isValue : Cond := .code ⟨"EditablePast", "isValue", "(I)Z"⟩ prog_1_method_26_code 1 (Option.some FieldType.boolean)
theorem tk_EP_isValue : k_EP_isValue ∈ gt := gt_tab (List.mem_of_getElem? (i := 370) (by decide +kernel)) (by decide +kernel)
abbrev c_Re_allows : ByteArray := prog_8_method_2_code
abbrev y_Re_allows : MethodName := ⟨"EditablePast$Register", "allows", "(III)Z"⟩
abbrev k_Re_allows : Cond := .code ⟨"EditablePast$Register", "allows", "(III)Z"⟩ prog_8_method_2_code 4 (Option.some FieldType.boolean)
theorem tk_Re_allows : k_Re_allows ∈ gt := gt_tab (List.mem_of_getElem? (i := 374) (by decide +kernel)) (by decide +kernel)
abbrev c_Se_allows : ByteArray := prog_9_method_2_code
abbrev y_Se_allows : MethodName := ⟨"EditablePast$Sets", "allows", "(III)Z"⟩
abbrev k_Se_allows : Cond := .code ⟨"EditablePast$Sets", "allows", "(III)Z"⟩ prog_9_method_2_code 4 (Option.some FieldType.boolean)
theorem tk_Se_allows : k_Se_allows ∈ gt := gt_tab (List.mem_of_getElem? (i := 379) (by decide +kernel)) (by decide +kernel)
abbrev c_EP_isElement : ByteArray := prog_1_method_27_code
abbrev y_EP_isElement : MethodName := ⟨"EditablePast", "isElement", "(I)Z"⟩
abbrev k_EP_isElement : Cond := .code ⟨"EditablePast", "isElement", "(I)Z"⟩ prog_1_method_27_code 1 (Option.some FieldType.boolean)
theorem tk_EP_isElement : k_EP_isElement ∈ gt := gt_tab (List.mem_of_getElem? (i := 382) (by decide +kernel)) (by decide +kernel)
abbrev c_Ta_allows : ByteArray := prog_11_method_3_code
abbrev y_Ta_allows : MethodName := ⟨"EditablePast$Table", "allows", "(III)Z"⟩
abbrev k_Ta_allows : Cond := .code ⟨"EditablePast$Table", "allows", "(III)Z"⟩ prog_11_method_3_code 4 (Option.some FieldType.boolean)
theorem tk_Ta_allows : k_Ta_allows ∈ gt := gt_tab (List.mem_of_getElem? (i := 386) (by decide +kernel)) (by decide +kernel)
abbrev c_Li_copyFrom : ByteArray := prog_6_method_7_code
abbrev y_Li_copyFrom : MethodName := ⟨"EditablePast$Line", "copyFrom", "(LEditablePast$Line;)V"⟩
abbrev k_Li_copyFrom : Cond := .code ⟨"EditablePast$Line", "copyFrom", "(LEditablePast$Line;)V"⟩ prog_6_method_7_code 3 none
theorem tk_Li_copyFrom : k_Li_copyFrom ∈ gt := gt_tab (List.mem_of_getElem? (i := 407) (by decide +kernel)) (by decide +kernel)
abbrev c_Li_copyOperation : ByteArray := prog_6_method_8_code
abbrev y_Li_copyOperation : MethodName := ⟨"EditablePast$Line", "copyOperation", "(LEditablePast$Line;II)V"⟩
abbrev k_Li_copyOperation : Cond := .code ⟨"EditablePast$Line", "copyOperation", "(LEditablePast$Line;II)V"⟩ prog_6_method_8_code 4 none
theorem tk_Li_copyOperation : k_Li_copyOperation ∈ gt := gt_tab (List.mem_of_getElem? (i := 411) (by decide +kernel)) (by decide +kernel)
abbrev c_Li_insert : ByteArray := prog_6_method_4_code
abbrev y_Li_insert : MethodName := ⟨"EditablePast$Line", "insert", "(IIII)V"⟩
abbrev k_Li_insert : Cond := .code ⟨"EditablePast$Line", "insert", "(IIII)V"⟩ prog_6_method_4_code 7 none
theorem tk_Li_insert : k_Li_insert ∈ gt := gt_tab (List.mem_of_getElem? (i := 415) (by decide +kernel)) (by decide +kernel)
abbrev c_Li_redo : ByteArray := prog_6_method_9_code
abbrev y_Li_redo : MethodName := ⟨"EditablePast$Line", "redo", "(LEditablePast$Contents;)V"⟩
abbrev k_Li_redo : Cond := .code ⟨"EditablePast$Line", "redo", "(LEditablePast$Contents;)V"⟩ prog_6_method_9_code 3 none
theorem tk_Li_redo : k_Li_redo ∈ gt := gt_tab (List.mem_of_getElem? (i := 419) (by decide +kernel)) (by decide +kernel)
abbrev c_Ba_clear : ByteArray := prog_2_method_4_code
abbrev y_Ba_clear : MethodName := ⟨"EditablePast$Bag", "clear", "()V"⟩
abbrev k_Ba_clear : Cond := .code ⟨"EditablePast$Bag", "clear", "()V"⟩ prog_2_method_4_code 1 none
theorem tk_Ba_clear : k_Ba_clear ∈ gt := gt_tab (List.mem_of_getElem? (i := 425) (by decide +kernel)) (by decide +kernel)
abbrev c_Re_clear : ByteArray := prog_8_method_3_code
abbrev y_Re_clear : MethodName := ⟨"EditablePast$Register", "clear", "()V"⟩
abbrev k_Re_clear : Cond := .code ⟨"EditablePast$Register", "clear", "()V"⟩ prog_8_method_3_code 1 none
theorem tk_Re_clear : k_Re_clear ∈ gt := gt_tab (List.mem_of_getElem? (i := 429) (by decide +kernel)) (by decide +kernel)
abbrev c_Se_clear : ByteArray := prog_9_method_3_code
abbrev y_Se_clear : MethodName := ⟨"EditablePast$Sets", "clear", "()V"⟩
abbrev k_Se_clear : Cond := .code ⟨"EditablePast$Sets", "clear", "()V"⟩ prog_9_method_3_code 2 none
theorem tk_Se_clear : k_Se_clear ∈ gt := gt_tab (List.mem_of_getElem? (i := 432) (by decide +kernel)) (by decide +kernel)
abbrev c_Ta_clear : ByteArray := prog_11_method_4_code
abbrev y_Ta_clear : MethodName := ⟨"EditablePast$Table", "clear", "()V"⟩
abbrev k_Ta_clear : Cond := .code ⟨"EditablePast$Table", "clear", "()V"⟩ prog_11_method_4_code 1 none
theorem tk_Ta_clear : k_Ta_clear ∈ gt := gt_tab (List.mem_of_getElem? (i := 436) (by decide +kernel)) (by decide +kernel)
abbrev c_Ba_perform : ByteArray := prog_2_method_5_code
abbrev y_Ba_perform : MethodName := ⟨"EditablePast$Bag", "perform", "(III)V"⟩
abbrev k_Ba_perform : Cond := .code ⟨"EditablePast$Bag", "perform", "(III)V"⟩ prog_2_method_5_code 4 none
theorem tk_Ba_perform : k_Ba_perform ∈ gt := gt_tab (List.mem_of_getElem? (i := 442) (by decide +kernel)) (by decide +kernel)
abbrev c_He_placeFor : ByteArray := prog_5_method_2_code
abbrev y_He_placeFor : MethodName := ⟨"EditablePast$Heap", "placeFor", "(I)I"⟩
abbrev k_He_placeFor : Cond := .code ⟨"EditablePast$Heap", "placeFor", "(I)I"⟩ prog_5_method_2_code 3 (Option.some FieldType.int)
theorem tk_He_placeFor : k_He_placeFor ∈ gt := gt_tab (List.mem_of_getElem? (i := 448) (by decide +kernel)) (by decide +kernel)
abbrev c_Qu_placeFor : ByteArray := prog_7_method_2_code
abbrev y_Qu_placeFor : MethodName := ⟨"EditablePast$Queue", "placeFor", "(I)I"⟩
abbrev k_Qu_placeFor : Cond := .code ⟨"EditablePast$Queue", "placeFor", "(I)I"⟩ prog_7_method_2_code 2 (Option.some FieldType.int)
theorem tk_Qu_placeFor : k_Qu_placeFor ∈ gt := gt_tab (List.mem_of_getElem? (i := 451) (by decide +kernel)) (by decide +kernel)
abbrev c_St_placeFor : ByteArray := prog_10_method_2_code
abbrev y_St_placeFor : MethodName := ⟨"EditablePast$Stack", "placeFor", "(I)I"⟩
abbrev k_St_placeFor : Cond := .code ⟨"EditablePast$Stack", "placeFor", "(I)I"⟩ prog_10_method_2_code 2 (Option.some FieldType.int)
theorem tk_St_placeFor : k_St_placeFor ∈ gt := gt_tab (List.mem_of_getElem? (i := 454) (by decide +kernel)) (by decide +kernel)
abbrev c_Ba_insert : ByteArray := prog_2_method_6_code
abbrev y_Ba_insert : MethodName := ⟨"EditablePast$Bag", "insert", "(II)V"⟩
abbrev k_Ba_insert : Cond := .code ⟨"EditablePast$Bag", "insert", "(II)V"⟩ prog_2_method_6_code 4 none
theorem tk_Ba_insert : k_Ba_insert ∈ gt := gt_tab (List.mem_of_getElem? (i := 458) (by decide +kernel)) (by decide +kernel)
abbrev c_Ct_noteEffect : ByteArray := prog_4_method_5_code
abbrev y_Ct_noteEffect : MethodName := ⟨"EditablePast$Contents", "noteEffect", "(J)V"⟩
abbrev k_Ct_noteEffect : Cond := .code ⟨"EditablePast$Contents", "noteEffect", "(J)V"⟩ prog_4_method_5_code 3 none
theorem tk_Ct_noteEffect : k_Ct_noteEffect ∈ gt := gt_tab (List.mem_of_getElem? (i := 466) (by decide +kernel)) (by decide +kernel)
abbrev c_Ba_removeFirst : ByteArray := prog_2_method_7_code
abbrev y_Ba_removeFirst : MethodName := ⟨"EditablePast$Bag", "removeFirst", "()I"⟩
abbrev k_Ba_removeFirst : Cond := .code ⟨"EditablePast$Bag", "removeFirst", "()I"⟩ prog_2_method_7_code 3 (Option.some FieldType.int)
theorem tk_Ba_removeFirst : k_Ba_removeFirst ∈ gt := gt_tab (List.mem_of_getElem? (i := 470) (by decide +kernel)) (by decide +kernel)
abbrev c_Ct_noteNoEffect : ByteArray := prog_4_method_6_code
abbrev y_Ct_noteNoEffect : MethodName := ⟨"EditablePast$Contents", "noteNoEffect", "()V"⟩
abbrev k_Ct_noteNoEffect : Cond := .code ⟨"EditablePast$Contents", "noteNoEffect", "()V"⟩ prog_4_method_6_code 1 none
theorem tk_Ct_noteNoEffect : k_Ct_noteNoEffect ∈ gt := gt_tab (List.mem_of_getElem? (i := 478) (by decide +kernel)) (by decide +kernel)
abbrev c_Re_perform : ByteArray := prog_8_method_4_code
abbrev y_Re_perform : MethodName := ⟨"EditablePast$Register", "perform", "(III)V"⟩
abbrev k_Re_perform : Cond := .code ⟨"EditablePast$Register", "perform", "(III)V"⟩ prog_8_method_4_code 4 none
theorem tk_Re_perform : k_Re_perform ∈ gt := gt_tab (List.mem_of_getElem? (i := 482) (by decide +kernel)) (by decide +kernel)
abbrev c_Ma_max : ByteArray := prog_18_method_66_code
abbrev y_Ma_max : MethodName := ⟨"java/lang/Math", "max", "(JJ)J"⟩
abbrev k_Ma_max : Cond := .code ⟨"java/lang/Math", "max", "(JJ)J"⟩ prog_18_method_66_code 4 (Option.some FieldType.long)
theorem tk_Ma_max : k_Ma_max ∈ gt := gt_tab (List.mem_of_getElem? (i := 485) (by decide +kernel)) (by decide +kernel)
abbrev c_Se_perform : ByteArray := prog_9_method_4_code
abbrev y_Se_perform : MethodName := ⟨"EditablePast$Sets", "perform", "(III)V"⟩
abbrev k_Se_perform : Cond := .code ⟨"EditablePast$Sets", "perform", "(III)V"⟩ prog_9_method_4_code 7 none
theorem tk_Se_perform : k_Se_perform ∈ gt := gt_tab (List.mem_of_getElem? (i := 491) (by decide +kernel)) (by decide +kernel)
abbrev c_Ta_perform : ByteArray := prog_11_method_5_code
abbrev y_Ta_perform : MethodName := ⟨"EditablePast$Table", "perform", "(III)V"⟩
abbrev k_Ta_perform : Cond := .code ⟨"EditablePast$Table", "perform", "(III)V"⟩ prog_11_method_5_code 5 none
theorem tk_Ta_perform : k_Ta_perform ∈ gt := gt_tab (List.mem_of_getElem? (i := 501) (by decide +kernel)) (by decide +kernel)
abbrev c_Ta_placeOf : ByteArray := prog_11_method_2_code
abbrev y_Ta_placeOf : MethodName := ⟨"EditablePast$Table", "placeOf", "(I)I"⟩
abbrev k_Ta_placeOf : Cond := .code ⟨"EditablePast$Table", "placeOf", "(I)I"⟩ prog_11_method_2_code 3 (Option.some FieldType.int)
theorem tk_Ta_placeOf : k_Ta_placeOf ∈ gt := gt_tab (List.mem_of_getElem? (i := 505) (by decide +kernel)) (by decide +kernel)
abbrev c_Ta_add : ByteArray := prog_11_method_6_code
abbrev y_Ta_add : MethodName := ⟨"EditablePast$Table", "add", "(II)V"⟩
abbrev k_Ta_add : Cond := .code ⟨"EditablePast$Table", "add", "(II)V"⟩ prog_11_method_6_code 3 none
theorem tk_Ta_add : k_Ta_add ∈ gt := gt_tab (List.mem_of_getElem? (i := 509) (by decide +kernel)) (by decide +kernel)
abbrev c_Ta_remove : ByteArray := prog_11_method_7_code
abbrev y_Ta_remove : MethodName := ⟨"EditablePast$Table", "remove", "(I)V"⟩
abbrev k_Ta_remove : Cond := .code ⟨"EditablePast$Table", "remove", "(I)V"⟩ prog_11_method_7_code 2 none
theorem tk_Ta_remove : k_Ta_remove ∈ gt := gt_tab (List.mem_of_getElem? (i := 516) (by decide +kernel)) (by decide +kernel)
abbrev c_Lw_strike : ByteArray := method_6_code
abbrev y_Lw_strike : MethodName := ⟨"EditablePastLaw", "strike", "(LEditablePast;II[J)I"⟩
abbrev k_Lw_strike : Cond := .codeWith ⟨"EditablePastLaw", "strike", "(LEditablePast;II[J)I"⟩ method_6_code 5 (Option.some FieldType.int) [(0, 17, 20, 13), (0, 17, 24, 15)]
theorem tk_Lw_strike : k_Lw_strike ∈ gt := gt_tab (List.mem_of_getElem? (i := 522) (by decide +kernel)) (by decide +kernel)
abbrev c_EP_strike : ByteArray := prog_1_method_5_code
abbrev y_EP_strike : MethodName := ⟨"EditablePast", "strike", "(II)Z"⟩
abbrev k_EP_strike : Cond := .code ⟨"EditablePast", "strike", "(II)Z"⟩ prog_1_method_5_code 5 (Option.some FieldType.boolean)
theorem tk_EP_strike : k_EP_strike ∈ gt := gt_tab (List.mem_of_getElem? (i := 526) (by decide +kernel)) (by decide +kernel)
abbrev c_Li_remove : ByteArray := prog_6_method_5_code
abbrev y_Li_remove : MethodName := ⟨"EditablePast$Line", "remove", "(I)V"⟩
abbrev k_Li_remove : Cond := .code ⟨"EditablePast$Line", "remove", "(I)V"⟩ prog_6_method_5_code 3 none
theorem tk_Li_remove : k_Li_remove ∈ gt := gt_tab (List.mem_of_getElem? (i := 530) (by decide +kernel)) (by decide +kernel)
abbrev c_Lw_shift : ByteArray := method_7_code
abbrev y_Lw_shift : MethodName := ⟨"EditablePastLaw", "shift", "(LEditablePast;III)I"⟩
abbrev k_Lw_shift : Cond := .codeWith ⟨"EditablePastLaw", "shift", "(LEditablePast;III)I"⟩ method_7_code 5 (Option.some FieldType.int) [(0, 7, 10, 13), (0, 7, 14, 15), (0, 7, 18, 35)]
theorem tk_Lw_shift : k_Lw_shift ∈ gt := gt_tab (List.mem_of_getElem? (i := 533) (by decide +kernel)) (by decide +kernel)
abbrev c_EP_shift : ByteArray := prog_1_method_6_code
abbrev y_EP_shift : MethodName := ⟨"EditablePast", "shift", "(III)V"⟩
abbrev k_EP_shift : Cond := .code ⟨"EditablePast", "shift", "(III)V"⟩ prog_1_method_6_code 6 none
theorem tk_EP_shift : k_EP_shift ∈ gt := gt_tab (List.mem_of_getElem? (i := 538) (by decide +kernel)) (by decide +kernel)
abbrev c_EP_takenPlace : ByteArray := prog_1_method_25_code
abbrev y_EP_takenPlace : MethodName := ⟨"EditablePast", "takenPlace", "(LEditablePast$Line;I)I"⟩
abbrev k_EP_takenPlace : Cond := .code ⟨"EditablePast", "takenPlace", "(LEditablePast$Line;I)I"⟩ prog_1_method_25_code 3 (Option.some FieldType.int)
theorem tk_EP_takenPlace : k_EP_takenPlace ∈ gt := gt_tab (List.mem_of_getElem? (i := 541) (by decide +kernel)) (by decide +kernel)
abbrev c_Li_relocate : ByteArray := prog_6_method_6_code
abbrev y_Li_relocate : MethodName := ⟨"EditablePast$Line", "relocate", "(II)V"⟩
abbrev k_Li_relocate : Cond := .code ⟨"EditablePast$Line", "relocate", "(II)V"⟩ prog_6_method_6_code 6 none
theorem tk_Li_relocate : k_Li_relocate ∈ gt := gt_tab (List.mem_of_getElem? (i := 561) (by decide +kernel)) (by decide +kernel)
abbrev c_Lw_front : ByteArray := method_8_code
abbrev y_Lw_front : MethodName := ⟨"EditablePastLaw", "front", "(LEditablePast;II[J)I"⟩
abbrev k_Lw_front : Cond := .codeWith ⟨"EditablePastLaw", "front", "(LEditablePast;II[J)I"⟩ method_8_code 5 (Option.some FieldType.int) [(0, 10, 13, 13), (0, 10, 17, 15), (0, 10, 21, 35)]
theorem tk_Lw_front : k_Lw_front ∈ gt := gt_tab (List.mem_of_getElem? (i := 566) (by decide +kernel)) (by decide +kernel)
abbrev c_EP_front : ByteArray := prog_1_method_7_code
abbrev y_EP_front : MethodName := ⟨"EditablePast", "front", "(II)I"⟩
abbrev k_EP_front : Cond := .code ⟨"EditablePast", "front", "(II)I"⟩ prog_1_method_7_code 5 (Option.some FieldType.int)
theorem tk_EP_front : k_EP_front ∈ gt := gt_tab (List.mem_of_getElem? (i := 570) (by decide +kernel)) (by decide +kernel)
abbrev c_EP_checkKind : ByteArray := prog_1_method_23_code
abbrev y_EP_checkKind : MethodName := ⟨"EditablePast", "checkKind", "(Z)V"⟩
abbrev k_EP_checkKind : Cond := .code ⟨"EditablePast", "checkKind", "(Z)V"⟩ prog_1_method_23_code 1 none
theorem tk_EP_checkKind : k_EP_checkKind ∈ gt := gt_tab (List.mem_of_getElem? (i := 573) (by decide +kernel)) (by decide +kernel)
abbrev c_Li_runUpTo : ByteArray := prog_6_method_10_code
abbrev y_Li_runUpTo : MethodName := ⟨"EditablePast$Line", "runUpTo", "(ILEditablePast$Contents;)V"⟩
abbrev k_Li_runUpTo : Cond := .code ⟨"EditablePast$Line", "runUpTo", "(ILEditablePast$Contents;)V"⟩ prog_6_method_10_code 4 none
theorem tk_Li_runUpTo : k_Li_runUpTo ∈ gt := gt_tab (List.mem_of_getElem? (i := 578) (by decide +kernel)) (by decide +kernel)
abbrev c_Lw_size : ByteArray := method_9_code
abbrev y_Lw_size : MethodName := ⟨"EditablePastLaw", "size", "(LEditablePast;II[J)I"⟩
abbrev k_Lw_size : Cond := .codeWith ⟨"EditablePastLaw", "size", "(LEditablePast;II[J)I"⟩ method_9_code 5 (Option.some FieldType.int) [(0, 10, 13, 13), (0, 10, 17, 15)]
theorem tk_Lw_size : k_Lw_size ∈ gt := gt_tab (List.mem_of_getElem? (i := 582) (by decide +kernel)) (by decide +kernel)
abbrev c_EP_size : ByteArray := prog_1_method_8_code
abbrev y_EP_size : MethodName := ⟨"EditablePast", "size", "(II)I"⟩
abbrev k_EP_size : Cond := .code ⟨"EditablePast", "size", "(II)I"⟩ prog_1_method_8_code 5 (Option.some FieldType.int)
theorem tk_EP_size : k_EP_size ∈ gt := gt_tab (List.mem_of_getElem? (i := 586) (by decide +kernel)) (by decide +kernel)
abbrev c_Lw_at : ByteArray := method_10_code
abbrev y_Lw_at : MethodName := ⟨"EditablePastLaw", "at", "(LEditablePast;III[J)I"⟩
abbrev k_Lw_at : Cond := .codeWith ⟨"EditablePastLaw", "at", "(LEditablePast;III[J)I"⟩ method_10_code 6 (Option.some FieldType.int) [(0, 12, 15, 13), (0, 12, 19, 15), (0, 12, 23, 35)]
theorem tk_Lw_at : k_Lw_at ∈ gt := gt_tab (List.mem_of_getElem? (i := 589) (by decide +kernel)) (by decide +kernel)
abbrev c_EP_at : ByteArray := prog_1_method_9_code
abbrev y_EP_at : MethodName := ⟨"EditablePast", "at", "(III)I"⟩
abbrev k_EP_at : Cond := .code ⟨"EditablePast", "at", "(III)I"⟩ prog_1_method_9_code 6 (Option.some FieldType.int)
theorem tk_EP_at : k_EP_at ∈ gt := gt_tab (List.mem_of_getElem? (i := 593) (by decide +kernel)) (by decide +kernel)
abbrev c_Lw_least : ByteArray := method_11_code
abbrev y_Lw_least : MethodName := ⟨"EditablePastLaw", "least", "(LEditablePast;III[J)I"⟩
abbrev k_Lw_least : Cond := .codeWith ⟨"EditablePastLaw", "least", "(LEditablePast;III[J)I"⟩ method_11_code 6 (Option.some FieldType.int) [(0, 12, 15, 13), (0, 12, 19, 15), (0, 12, 23, 51)]
theorem tk_Lw_least : k_Lw_least ∈ gt := gt_tab (List.mem_of_getElem? (i := 598) (by decide +kernel)) (by decide +kernel)
abbrev c_EP_least : ByteArray := prog_1_method_10_code
abbrev y_EP_least : MethodName := ⟨"EditablePast", "least", "(III)I"⟩
abbrev k_EP_least : Cond := .code ⟨"EditablePast", "least", "(III)I"⟩ prog_1_method_10_code 5 (Option.some FieldType.int)
theorem tk_EP_least : k_EP_least ∈ gt := gt_tab (List.mem_of_getElem? (i := 603) (by decide +kernel)) (by decide +kernel)
abbrev c_Lw_sum : ByteArray := method_12_code
abbrev y_Lw_sum : MethodName := ⟨"EditablePastLaw", "sum", "(LEditablePast;II[J)I"⟩
abbrev k_Lw_sum : Cond := .codeWith ⟨"EditablePastLaw", "sum", "(LEditablePast;II[J)I"⟩ method_12_code 5 (Option.some FieldType.int) [(0, 9, 12, 13), (0, 9, 16, 15)]
theorem tk_Lw_sum : k_Lw_sum ∈ gt := gt_tab (List.mem_of_getElem? (i := 622) (by decide +kernel)) (by decide +kernel)
abbrev c_EP_sum : ByteArray := prog_1_method_11_code
abbrev y_EP_sum : MethodName := ⟨"EditablePast", "sum", "(II)J"⟩
abbrev k_EP_sum : Cond := .code ⟨"EditablePast", "sum", "(II)J"⟩ prog_1_method_11_code 4 (Option.some FieldType.long)
theorem tk_EP_sum : k_EP_sum ∈ gt := gt_tab (List.mem_of_getElem? (i := 626) (by decide +kernel)) (by decide +kernel)
abbrev c_Lw_together : ByteArray := method_13_code
abbrev y_Lw_together : MethodName := ⟨"EditablePastLaw", "together", "(LEditablePast;IIII[J)I"⟩
abbrev k_Lw_together : Cond := .codeWith ⟨"EditablePastLaw", "together", "(LEditablePast;IIII[J)I"⟩ method_13_code 7 (Option.some FieldType.int) [(0, 21, 24, 13), (0, 21, 28, 15)]
theorem tk_Lw_together : k_Lw_together ∈ gt := gt_tab (List.mem_of_getElem? (i := 629) (by decide +kernel)) (by decide +kernel)
abbrev c_EP_together : ByteArray := prog_1_method_12_code
abbrev y_EP_together : MethodName := ⟨"EditablePast", "together", "(IIII)Z"⟩
abbrev k_EP_together : Cond := .code ⟨"EditablePast", "together", "(IIII)Z"⟩ prog_1_method_12_code 6 (Option.some FieldType.boolean)
theorem tk_EP_together : k_EP_together ∈ gt := gt_tab (List.mem_of_getElem? (i := 633) (by decide +kernel)) (by decide +kernel)
abbrev c_Lw_result : ByteArray := method_14_code
abbrev y_Lw_result : MethodName := ⟨"EditablePastLaw", "result", "(LEditablePast;II[J)I"⟩
abbrev k_Lw_result : Cond := .codeWith ⟨"EditablePastLaw", "result", "(LEditablePast;II[J)I"⟩ method_14_code 5 (Option.some FieldType.int) [(0, 9, 12, 13), (0, 9, 16, 15), (0, 9, 20, 35)]
theorem tk_Lw_result : k_Lw_result ∈ gt := gt_tab (List.mem_of_getElem? (i := 638) (by decide +kernel)) (by decide +kernel)
abbrev c_EP_result : ByteArray := prog_1_method_13_code
abbrev y_EP_result : MethodName := ⟨"EditablePast", "result", "(II)J"⟩
abbrev k_EP_result : Cond := .code ⟨"EditablePast", "result", "(II)J"⟩ prog_1_method_13_code 4 (Option.some FieldType.long)
theorem tk_EP_result : k_EP_result ∈ gt := gt_tab (List.mem_of_getElem? (i := 642) (by decide +kernel)) (by decide +kernel)
abbrev c_Lw_works : ByteArray := method_15_code
abbrev y_Lw_works : MethodName := ⟨"EditablePastLaw", "works", "(LEditablePast;II[J)I"⟩
abbrev k_Lw_works : Cond := .codeWith ⟨"EditablePastLaw", "works", "(LEditablePast;II[J)I"⟩ method_15_code 5 (Option.some FieldType.int) [(0, 17, 20, 13), (0, 17, 24, 15), (0, 17, 28, 35)]
theorem tk_Lw_works : k_Lw_works ∈ gt := gt_tab (List.mem_of_getElem? (i := 645) (by decide +kernel)) (by decide +kernel)
abbrev c_EP_works : ByteArray := prog_1_method_14_code
abbrev y_EP_works : MethodName := ⟨"EditablePast", "works", "(II)Z"⟩
abbrev k_EP_works : Cond := .code ⟨"EditablePast", "works", "(II)Z"⟩ prog_1_method_14_code 4 (Option.some FieldType.boolean)
theorem tk_EP_works : k_EP_works ∈ gt := gt_tab (List.mem_of_getElem? (i := 649) (by decide +kernel)) (by decide +kernel)
abbrev c_Lw_effective : ByteArray := method_16_code
abbrev y_Lw_effective : MethodName := ⟨"EditablePastLaw", "effective", "(LEditablePast;III[J)I"⟩
abbrev k_Lw_effective : Cond := .codeWith ⟨"EditablePastLaw", "effective", "(LEditablePast;III[J)I"⟩ method_16_code 6 (Option.some FieldType.int) [(0, 12, 15, 13), (0, 12, 19, 15)]
theorem tk_Lw_effective : k_Lw_effective ∈ gt := gt_tab (List.mem_of_getElem? (i := 652) (by decide +kernel)) (by decide +kernel)
abbrev c_EP_effective : ByteArray := prog_1_method_15_code
abbrev y_EP_effective : MethodName := ⟨"EditablePast", "effective", "(III)I"⟩
abbrev k_EP_effective : Cond := .code ⟨"EditablePast", "effective", "(III)I"⟩ prog_1_method_15_code 4 (Option.some FieldType.int)
theorem tk_EP_effective : k_EP_effective ∈ gt := gt_tab (List.mem_of_getElem? (i := 656) (by decide +kernel)) (by decide +kernel)
abbrev c_Li_countEffects : ByteArray := prog_6_method_11_code
abbrev y_Li_countEffects : MethodName := ⟨"EditablePast$Line", "countEffects", "(II)I"⟩
abbrev k_Li_countEffects : Cond := .code ⟨"EditablePast$Line", "countEffects", "(II)I"⟩ prog_6_method_11_code 5 (Option.some FieldType.int)
theorem tk_Li_countEffects : k_Li_countEffects ∈ gt := gt_tab (List.mem_of_getElem? (i := 660) (by decide +kernel)) (by decide +kernel)
abbrev c_Lw_firstChange : ByteArray := method_17_code
abbrev y_Lw_firstChange : MethodName := ⟨"EditablePastLaw", "firstChange", "(LEditablePast;III[J)I"⟩
abbrev k_Lw_firstChange : Cond := .codeWith ⟨"EditablePastLaw", "firstChange", "(LEditablePast;III[J)I"⟩ method_17_code 6 (Option.some FieldType.int) [(0, 12, 15, 13), (0, 12, 19, 15)]
theorem tk_Lw_firstChange : k_Lw_firstChange ∈ gt := gt_tab (List.mem_of_getElem? (i := 663) (by decide +kernel)) (by decide +kernel)
abbrev c_EP_firstChange : ByteArray := prog_1_method_16_code
abbrev y_EP_firstChange : MethodName := ⟨"EditablePast", "firstChange", "(III)I"⟩
abbrev k_EP_firstChange : Cond := .code ⟨"EditablePast", "firstChange", "(III)I"⟩ prog_1_method_16_code 6 (Option.some FieldType.int)
theorem tk_EP_firstChange : k_EP_firstChange ∈ gt := gt_tab (List.mem_of_getElem? (i := 667) (by decide +kernel)) (by decide +kernel)
abbrev c_Li_firstDifference : ByteArray := prog_6_method_12_code
abbrev y_Li_firstDifference : MethodName := ⟨"EditablePast$Line", "firstDifference", "(LEditablePast$Line;I)I"⟩
abbrev k_Li_firstDifference : Cond := .code ⟨"EditablePast$Line", "firstDifference", "(LEditablePast$Line;I)I"⟩ prog_6_method_12_code 5 (Option.some FieldType.int)
theorem tk_Li_firstDifference : k_Li_firstDifference ∈ gt := gt_tab (List.mem_of_getElem? (i := 671) (by decide +kernel)) (by decide +kernel)
abbrev c_Li_isSame : ByteArray := prog_6_method_13_code
abbrev y_Li_isSame : MethodName := ⟨"EditablePast$Line", "isSame", "(ILEditablePast$Line;I)Z"⟩
abbrev k_Li_isSame : Cond := .code ⟨"EditablePast$Line", "isSame", "(ILEditablePast$Line;I)Z"⟩ prog_6_method_13_code 4 (Option.some FieldType.boolean)
theorem tk_Li_isSame : k_Li_isSame ∈ gt := gt_tab (List.mem_of_getElem? (i := 675) (by decide +kernel)) (by decide +kernel)
abbrev c_Li_momentOrNever : ByteArray := prog_6_method_14_code
abbrev y_Li_momentOrNever : MethodName := ⟨"EditablePast$Line", "momentOrNever", "(I)I"⟩
abbrev k_Li_momentOrNever : Cond := .code ⟨"EditablePast$Line", "momentOrNever", "(I)I"⟩ prog_6_method_14_code 2 (Option.some FieldType.int)
theorem tk_Li_momentOrNever : k_Li_momentOrNever ∈ gt := gt_tab (List.mem_of_getElem? (i := 679) (by decide +kernel)) (by decide +kernel)
abbrev c_Ma_min : ByteArray := prog_18_method_69_code
abbrev y_Ma_min : MethodName := ⟨"java/lang/Math", "min", "(II)I"⟩
abbrev k_Ma_min : Cond := .code ⟨"java/lang/Math", "min", "(II)I"⟩ prog_18_method_69_code 2 (Option.some FieldType.int)
theorem tk_Ma_min : k_Ma_min ∈ gt := gt_tab (List.mem_of_getElem? (i := 683) (by decide +kernel)) (by decide +kernel)
abbrev c_Lw_operations : ByteArray := method_18_code
abbrev y_Lw_operations : MethodName := ⟨"EditablePastLaw", "operations", "(LEditablePast;I[J)I"⟩
abbrev k_Lw_operations : Cond := .codeWith ⟨"EditablePastLaw", "operations", "(LEditablePast;I[J)I"⟩ method_18_code 4 (Option.some FieldType.int) [(0, 9, 12, 13), (0, 9, 15, 15)]
theorem tk_Lw_operations : k_Lw_operations ∈ gt := gt_tab (List.mem_of_getElem? (i := 686) (by decide +kernel)) (by decide +kernel)
abbrev c_EP_operations : ByteArray := prog_1_method_17_code
abbrev y_EP_operations : MethodName := ⟨"EditablePast", "operations", "(I)I"⟩
abbrev k_EP_operations : Cond := .code ⟨"EditablePast", "operations", "(I)I"⟩ prog_1_method_17_code 2 (Option.some FieldType.int)
theorem tk_EP_operations : k_EP_operations ∈ gt := gt_tab (List.mem_of_getElem? (i := 690) (by decide +kernel)) (by decide +kernel)
abbrev c_Lw_operation : ByteArray := method_19_code
abbrev y_Lw_operation : MethodName := ⟨"EditablePastLaw", "operation", "(LEditablePast;III[J)I"⟩
abbrev k_Lw_operation : Cond := .codeWith ⟨"EditablePastLaw", "operation", "(LEditablePast;III[J)I"⟩ method_19_code 6 (Option.some FieldType.int) [(0, 12, 15, 13), (0, 12, 19, 15), (0, 12, 23, 51)]
theorem tk_Lw_operation : k_Lw_operation ∈ gt := gt_tab (List.mem_of_getElem? (i := 693) (by decide +kernel)) (by decide +kernel)
abbrev c_EP_operation : ByteArray := prog_1_method_18_code
abbrev y_EP_operation : MethodName := ⟨"EditablePast", "operation", "(III)I"⟩
abbrev k_EP_operation : Cond := .code ⟨"EditablePast", "operation", "(III)I"⟩ prog_1_method_18_code 5 (Option.some FieldType.int)
theorem tk_EP_operation : k_EP_operation ∈ gt := gt_tab (List.mem_of_getElem? (i := 697) (by decide +kernel)) (by decide +kernel)
abbrev c_Md_init : ByteArray := prog_13_method_1_code
abbrev y_Md_init : MethodName := ⟨"EditablePastModel", "<init>", "()V"⟩
abbrev k_Md_init : Cond := .code ⟨"EditablePastModel", "<init>", "()V"⟩ prog_13_method_1_code 1 none
theorem tk_Md_init : k_Md_init ∈ gt := gt_tab (List.mem_of_getElem? (i := 704) (by decide +kernel)) (by decide +kernel)
abbrev c_Md_thrown : ByteArray := prog_13_method_2_code
abbrev y_Md_thrown : MethodName := ⟨"EditablePastModel", "thrown", "()I"⟩
abbrev k_Md_thrown : Cond := .code ⟨"EditablePastModel", "thrown", "()I"⟩ prog_13_method_2_code 1 (Option.some FieldType.int)
theorem tk_Md_thrown : k_Md_thrown ∈ gt := gt_tab (List.mem_of_getElem? (i := 761) (by decide +kernel)) (by decide +kernel)
abbrev c_Md_open : ByteArray := prog_13_method_7_code
abbrev y_Md_open : MethodName := ⟨"EditablePastModel", "open", "(II)V"⟩
abbrev k_Md_open : Cond := .code ⟨"EditablePastModel", "open", "(II)V"⟩ prog_13_method_7_code 3 none
theorem tk_Md_open : k_Md_open ∈ gt := gt_tab (List.mem_of_getElem? (i := 765) (by decide +kernel)) (by decide +kernel)
abbrev c_Md_isId : ByteArray := prog_13_method_3_code
abbrev y_Md_isId : MethodName := ⟨"EditablePastModel", "isId", "(I)Z"⟩
abbrev k_Md_isId : Cond := .code ⟨"EditablePastModel", "isId", "(I)Z"⟩ prog_13_method_3_code 1 (Option.some FieldType.boolean)
theorem tk_Md_isId : k_Md_isId ∈ gt := gt_tab (List.mem_of_getElem? (i := 768) (by decide +kernel)) (by decide +kernel)
abbrev c_Md_close : ByteArray := prog_13_method_9_code
abbrev y_Md_close : MethodName := ⟨"EditablePastModel", "close", "(I)I"⟩
abbrev k_Md_close : Cond := .code ⟨"EditablePastModel", "close", "(I)I"⟩ prog_13_method_9_code 2 (Option.some FieldType.int)
theorem tk_Md_close : k_Md_close ∈ gt := gt_tab (List.mem_of_getElem? (i := 772) (by decide +kernel)) (by decide +kernel)
abbrev c_Md_lacks : ByteArray := prog_13_method_8_code
abbrev y_Md_lacks : MethodName := ⟨"EditablePastModel", "lacks", "(II)Z"⟩
abbrev k_Md_lacks : Cond := .code ⟨"EditablePastModel", "lacks", "(II)Z"⟩ prog_13_method_8_code 3 (Option.some FieldType.boolean)
theorem tk_Md_lacks : k_Md_lacks ∈ gt := gt_tab (List.mem_of_getElem? (i := 776) (by decide +kernel)) (by decide +kernel)
abbrev c_Md_isMoment : ByteArray := prog_13_method_4_code
abbrev y_Md_isMoment : MethodName := ⟨"EditablePastModel", "isMoment", "(I)Z"⟩
abbrev k_Md_isMoment : Cond := .code ⟨"EditablePastModel", "isMoment", "(I)Z"⟩ prog_13_method_4_code 1 (Option.some FieldType.boolean)
theorem tk_Md_isMoment : k_Md_isMoment ∈ gt := gt_tab (List.mem_of_getElem? (i := 779) (by decide +kernel)) (by decide +kernel)
abbrev c_Md_put : ByteArray := prog_13_method_16_code
abbrev y_Md_put : MethodName := ⟨"EditablePastModel", "put", "(IIIII)V"⟩
abbrev k_Md_put : Cond := .code ⟨"EditablePastModel", "put", "(IIIII)V"⟩ prog_13_method_16_code 6 none
theorem tk_Md_put : k_Md_put ∈ gt := gt_tab (List.mem_of_getElem? (i := 784) (by decide +kernel)) (by decide +kernel)
abbrev c_Md_find : ByteArray := prog_13_method_11_code
abbrev y_Md_find : MethodName := ⟨"EditablePastModel", "find", "(II)I"⟩
abbrev k_Md_find : Cond := .code ⟨"EditablePastModel", "find", "(II)I"⟩ prog_13_method_11_code 5 (Option.some FieldType.int)
theorem tk_Md_find : k_Md_find ∈ gt := gt_tab (List.mem_of_getElem? (i := 788) (by decide +kernel)) (by decide +kernel)
abbrev c_Md_kindOf : ByteArray := prog_13_method_6_code
abbrev y_Md_kindOf : MethodName := ⟨"EditablePastModel", "kindOf", "(I)I"⟩
abbrev k_Md_kindOf : Cond := .code ⟨"EditablePastModel", "kindOf", "(I)I"⟩ prog_13_method_6_code 2 (Option.some FieldType.int)
theorem tk_Md_kindOf : k_Md_kindOf ∈ gt := gt_tab (List.mem_of_getElem? (i := 792) (by decide +kernel)) (by decide +kernel)
abbrev c_Md_fits : ByteArray := prog_13_method_15_code
abbrev y_Md_fits : MethodName := ⟨"EditablePastModel", "fits", "(IIII)Z"⟩
abbrev k_Md_fits : Cond := .code ⟨"EditablePastModel", "fits", "(IIII)Z"⟩ prog_13_method_15_code 4 (Option.some FieldType.boolean)
theorem tk_Md_fits : k_Md_fits ∈ gt := gt_tab (List.mem_of_getElem? (i := 795) (by decide +kernel)) (by decide +kernel)
abbrev c_Md_isValue : ByteArray := prog_13_method_5_code
abbrev y_Md_isValue : MethodName := ⟨"EditablePastModel", "isValue", "(I)Z"⟩
abbrev k_Md_isValue : Cond := .code ⟨"EditablePastModel", "isValue", "(I)Z"⟩ prog_13_method_5_code 1 (Option.some FieldType.boolean)
theorem tk_Md_isValue : k_Md_isValue ∈ gt := gt_tab (List.mem_of_getElem? (i := 799) (by decide +kernel)) (by decide +kernel)
abbrev c_Md_remember : ByteArray := prog_13_method_12_code
abbrev y_Md_remember : MethodName := ⟨"EditablePastModel", "remember", "(I)V"⟩
abbrev k_Md_remember : Cond := .code ⟨"EditablePastModel", "remember", "(I)V"⟩ prog_13_method_12_code 3 none
theorem tk_Md_remember : k_Md_remember ∈ gt := gt_tab (List.mem_of_getElem? (i := 803) (by decide +kernel)) (by decide +kernel)
abbrev c_Md_copy : ByteArray := prog_13_method_10_code
abbrev y_Md_copy : MethodName := ⟨"EditablePastModel", "copy", "(II)V"⟩
abbrev k_Md_copy : Cond := .code ⟨"EditablePastModel", "copy", "(II)V"⟩ prog_13_method_10_code 3 none
theorem tk_Md_copy : k_Md_copy ∈ gt := gt_tab (List.mem_of_getElem? (i := 807) (by decide +kernel)) (by decide +kernel)
abbrev c_Md_insert : ByteArray := prog_13_method_13_code
abbrev y_Md_insert : MethodName := ⟨"EditablePastModel", "insert", "(IIIII)V"⟩
abbrev k_Md_insert : Cond := .code ⟨"EditablePastModel", "insert", "(IIIII)V"⟩ prog_13_method_13_code 7 none
theorem tk_Md_insert : k_Md_insert ∈ gt := gt_tab (List.mem_of_getElem? (i := 811) (by decide +kernel)) (by decide +kernel)
abbrev c_Md_strike : ByteArray := prog_13_method_17_code
abbrev y_Md_strike : MethodName := ⟨"EditablePastModel", "strike", "(II)Z"⟩
abbrev k_Md_strike : Cond := .code ⟨"EditablePastModel", "strike", "(II)Z"⟩ prog_13_method_17_code 3 (Option.some FieldType.boolean)
theorem tk_Md_strike : k_Md_strike ∈ gt := gt_tab (List.mem_of_getElem? (i := 815) (by decide +kernel)) (by decide +kernel)
abbrev c_Md_cut : ByteArray := prog_13_method_14_code
abbrev y_Md_cut : MethodName := ⟨"EditablePastModel", "cut", "(II)V"⟩
abbrev k_Md_cut : Cond := .code ⟨"EditablePastModel", "cut", "(II)V"⟩ prog_13_method_14_code 4 none
theorem tk_Md_cut : k_Md_cut ∈ gt := gt_tab (List.mem_of_getElem? (i := 819) (by decide +kernel)) (by decide +kernel)
abbrev c_Md_shift : ByteArray := prog_13_method_18_code
abbrev y_Md_shift : MethodName := ⟨"EditablePastModel", "shift", "(III)V"⟩
abbrev k_Md_shift : Cond := .code ⟨"EditablePastModel", "shift", "(III)V"⟩ prog_13_method_18_code 8 none
theorem tk_Md_shift : k_Md_shift ∈ gt := gt_tab (List.mem_of_getElem? (i := 823) (by decide +kernel)) (by decide +kernel)
abbrev c_Md_front : ByteArray := prog_13_method_27_code
abbrev y_Md_front : MethodName := ⟨"EditablePastModel", "front", "(II)I"⟩
abbrev k_Md_front : Cond := .code ⟨"EditablePastModel", "front", "(II)I"⟩ prog_13_method_27_code 3 (Option.some FieldType.int)
theorem tk_Md_front : k_Md_front ∈ gt := gt_tab (List.mem_of_getElem? (i := 827) (by decide +kernel)) (by decide +kernel)
abbrev c_Md_isNotFor : ByteArray := prog_13_method_26_code
abbrev y_Md_isNotFor : MethodName := ⟨"EditablePastModel", "isNotFor", "(III)Z"⟩
abbrev k_Md_isNotFor : Cond := .code ⟨"EditablePastModel", "isNotFor", "(III)Z"⟩ prog_13_method_26_code 4 (Option.some FieldType.boolean)
theorem tk_Md_isNotFor : k_Md_isNotFor ∈ gt := gt_tab (List.mem_of_getElem? (i := 831) (by decide +kernel)) (by decide +kernel)
abbrev c_Md_run : ByteArray := prog_13_method_25_code
abbrev y_Md_run : MethodName := ⟨"EditablePastModel", "run", "(III)V"⟩
abbrev k_Md_run : Cond := .code ⟨"EditablePastModel", "run", "(III)V"⟩ prog_13_method_25_code 8 none
theorem tk_Md_run : k_Md_run ∈ gt := gt_tab (List.mem_of_getElem? (i := 835) (by decide +kernel)) (by decide +kernel)
abbrev c_Md_doSets : ByteArray := prog_13_method_24_code
abbrev y_Md_doSets : MethodName := ⟨"EditablePastModel", "doSets", "(II)Z"⟩
abbrev k_Md_doSets : Cond := .code ⟨"EditablePastModel", "doSets", "(II)Z"⟩ prog_13_method_24_code 6 (Option.some FieldType.boolean)
theorem tk_Md_doSets : k_Md_doSets ∈ gt := gt_tab (List.mem_of_getElem? (i := 839) (by decide +kernel)) (by decide +kernel)
abbrev c_Md_doTable : ByteArray := prog_13_method_23_code
abbrev y_Md_doTable : MethodName := ⟨"EditablePastModel", "doTable", "(IIII)Z"⟩
abbrev k_Md_doTable : Cond := .code ⟨"EditablePastModel", "doTable", "(IIII)Z"⟩ prog_13_method_23_code 6 (Option.some FieldType.boolean)
theorem tk_Md_doTable : k_Md_doTable ∈ gt := gt_tab (List.mem_of_getElem? (i := 843) (by decide +kernel)) (by decide +kernel)
abbrev c_Md_keyAt : ByteArray := prog_13_method_21_code
abbrev y_Md_keyAt : MethodName := ⟨"EditablePastModel", "keyAt", "(I)I"⟩
abbrev k_Md_keyAt : Cond := .code ⟨"EditablePastModel", "keyAt", "(I)I"⟩ prog_13_method_21_code 4 (Option.some FieldType.int)
theorem tk_Md_keyAt : k_Md_keyAt ∈ gt := gt_tab (List.mem_of_getElem? (i := 847) (by decide +kernel)) (by decide +kernel)
abbrev c_Md_takeOut : ByteArray := prog_13_method_19_code
abbrev y_Md_takeOut : MethodName := ⟨"EditablePastModel", "takeOut", "(I)V"⟩
abbrev k_Md_takeOut : Cond := .code ⟨"EditablePastModel", "takeOut", "(I)V"⟩ prog_13_method_19_code 3 none
theorem tk_Md_takeOut : k_Md_takeOut ∈ gt := gt_tab (List.mem_of_getElem? (i := 851) (by decide +kernel)) (by decide +kernel)
abbrev c_Md_doBag : ByteArray := prog_13_method_22_code
abbrev y_Md_doBag : MethodName := ⟨"EditablePastModel", "doBag", "(IIII)Z"⟩
abbrev k_Md_doBag : Cond := .code ⟨"EditablePastModel", "doBag", "(IIII)Z"⟩ prog_13_method_22_code 6 (Option.some FieldType.boolean)
theorem tk_Md_doBag : k_Md_doBag ∈ gt := gt_tab (List.mem_of_getElem? (i := 855) (by decide +kernel)) (by decide +kernel)
abbrev c_Md_nextOf : ByteArray := prog_13_method_20_code
abbrev y_Md_nextOf : MethodName := ⟨"EditablePastModel", "nextOf", "(I)I"⟩
abbrev k_Md_nextOf : Cond := .code ⟨"EditablePastModel", "nextOf", "(I)I"⟩ prog_13_method_20_code 4 (Option.some FieldType.int)
theorem tk_Md_nextOf : k_Md_nextOf ∈ gt := gt_tab (List.mem_of_getElem? (i := 859) (by decide +kernel)) (by decide +kernel)
abbrev c_Md_size : ByteArray := prog_13_method_28_code
abbrev y_Md_size : MethodName := ⟨"EditablePastModel", "size", "(II)I"⟩
abbrev k_Md_size : Cond := .code ⟨"EditablePastModel", "size", "(II)I"⟩ prog_13_method_28_code 3 (Option.some FieldType.int)
theorem tk_Md_size : k_Md_size ∈ gt := gt_tab (List.mem_of_getElem? (i := 863) (by decide +kernel)) (by decide +kernel)
abbrev c_Md_at : ByteArray := prog_13_method_29_code
abbrev y_Md_at : MethodName := ⟨"EditablePastModel", "at", "(III)I"⟩
abbrev k_Md_at : Cond := .code ⟨"EditablePastModel", "at", "(III)I"⟩ prog_13_method_29_code 4 (Option.some FieldType.int)
theorem tk_Md_at : k_Md_at ∈ gt := gt_tab (List.mem_of_getElem? (i := 867) (by decide +kernel)) (by decide +kernel)
abbrev c_Md_least : ByteArray := prog_13_method_30_code
abbrev y_Md_least : MethodName := ⟨"EditablePastModel", "least", "(III)I"⟩
abbrev k_Md_least : Cond := .code ⟨"EditablePastModel", "least", "(III)I"⟩ prog_13_method_30_code 5 (Option.some FieldType.int)
theorem tk_Md_least : k_Md_least ∈ gt := gt_tab (List.mem_of_getElem? (i := 871) (by decide +kernel)) (by decide +kernel)
abbrev c_Md_sum : ByteArray := prog_13_method_31_code
abbrev y_Md_sum : MethodName := ⟨"EditablePastModel", "sum", "(II)J"⟩
abbrev k_Md_sum : Cond := .code ⟨"EditablePastModel", "sum", "(II)J"⟩ prog_13_method_31_code 3 (Option.some FieldType.long)
theorem tk_Md_sum : k_Md_sum ∈ gt := gt_tab (List.mem_of_getElem? (i := 875) (by decide +kernel)) (by decide +kernel)
abbrev c_Md_together : ByteArray := prog_13_method_32_code
abbrev y_Md_together : MethodName := ⟨"EditablePastModel", "together", "(IIII)Z"⟩
abbrev k_Md_together : Cond := .code ⟨"EditablePastModel", "together", "(IIII)Z"⟩ prog_13_method_32_code 5 (Option.some FieldType.boolean)
theorem tk_Md_together : k_Md_together ∈ gt := gt_tab (List.mem_of_getElem? (i := 879) (by decide +kernel)) (by decide +kernel)
abbrev c_Md_result : ByteArray := prog_13_method_34_code
abbrev y_Md_result : MethodName := ⟨"EditablePastModel", "result", "(II)J"⟩
abbrev k_Md_result : Cond := .code ⟨"EditablePastModel", "result", "(II)J"⟩ prog_13_method_34_code 4 (Option.some FieldType.long)
theorem tk_Md_result : k_Md_result ∈ gt := gt_tab (List.mem_of_getElem? (i := 883) (by decide +kernel)) (by decide +kernel)
abbrev c_Md_asked : ByteArray := prog_13_method_33_code
abbrev y_Md_asked : MethodName := ⟨"EditablePastModel", "asked", "(II)I"⟩
abbrev k_Md_asked : Cond := .code ⟨"EditablePastModel", "asked", "(II)I"⟩ prog_13_method_33_code 4 (Option.some FieldType.int)
theorem tk_Md_asked : k_Md_asked ∈ gt := gt_tab (List.mem_of_getElem? (i := 887) (by decide +kernel)) (by decide +kernel)
abbrev c_Md_works : ByteArray := prog_13_method_35_code
abbrev y_Md_works : MethodName := ⟨"EditablePastModel", "works", "(II)Z"⟩
abbrev k_Md_works : Cond := .code ⟨"EditablePastModel", "works", "(II)Z"⟩ prog_13_method_35_code 4 (Option.some FieldType.boolean)
theorem tk_Md_works : k_Md_works ∈ gt := gt_tab (List.mem_of_getElem? (i := 891) (by decide +kernel)) (by decide +kernel)
abbrev c_Md_effective : ByteArray := prog_13_method_37_code
abbrev y_Md_effective : MethodName := ⟨"EditablePastModel", "effective", "(III)I"⟩
abbrev k_Md_effective : Cond := .code ⟨"EditablePastModel", "effective", "(III)I"⟩ prog_13_method_37_code 7 (Option.some FieldType.int)
theorem tk_Md_effective : k_Md_effective ∈ gt := gt_tab (List.mem_of_getElem? (i := 895) (by decide +kernel)) (by decide +kernel)
abbrev c_Md_lacksTwo : ByteArray := prog_13_method_36_code
abbrev y_Md_lacksTwo : MethodName := ⟨"EditablePastModel", "lacksTwo", "(III)Z"⟩
abbrev k_Md_lacksTwo : Cond := .code ⟨"EditablePastModel", "lacksTwo", "(III)Z"⟩ prog_13_method_36_code 4 (Option.some FieldType.boolean)
theorem tk_Md_lacksTwo : k_Md_lacksTwo ∈ gt := gt_tab (List.mem_of_getElem? (i := 899) (by decide +kernel)) (by decide +kernel)
abbrev c_Md_firstChange : ByteArray := prog_13_method_38_code
abbrev y_Md_firstChange : MethodName := ⟨"EditablePastModel", "firstChange", "(III)I"⟩
abbrev k_Md_firstChange : Cond := .code ⟨"EditablePastModel", "firstChange", "(III)I"⟩ prog_13_method_38_code 9 (Option.some FieldType.int)
theorem tk_Md_firstChange : k_Md_firstChange ∈ gt := gt_tab (List.mem_of_getElem? (i := 903) (by decide +kernel)) (by decide +kernel)
abbrev c_Md_operations : ByteArray := prog_13_method_39_code
abbrev y_Md_operations : MethodName := ⟨"EditablePastModel", "operations", "(I)I"⟩
abbrev k_Md_operations : Cond := .code ⟨"EditablePastModel", "operations", "(I)I"⟩ prog_13_method_39_code 2 (Option.some FieldType.int)
theorem tk_Md_operations : k_Md_operations ∈ gt := gt_tab (List.mem_of_getElem? (i := 907) (by decide +kernel)) (by decide +kernel)
abbrev c_Md_operation : ByteArray := prog_13_method_40_code
abbrev y_Md_operation : MethodName := ⟨"EditablePastModel", "operation", "(III)I"⟩
abbrev k_Md_operation : Cond := .code ⟨"EditablePastModel", "operation", "(III)I"⟩ prog_13_method_40_code 5 (Option.some FieldType.int)
theorem tk_Md_operation : k_Md_operation ∈ gt := gt_tab (List.mem_of_getElem? (i := 911) (by decide +kernel)) (by decide +kernel)
/-! lists of the tables' words that are not good ones, and rooms -/
def nestq : List (String × Nat × MethodName) := [("EditablePast", 15, ⟨"EditablePast$Collection", "<init>", "()V"⟩), ("EditablePast$Collection", 17, ⟨"EditablePast$Line", "<init>", "()V"⟩), ("EditablePast", 18, ⟨"EditablePast$Queue", "<init>", "()V"⟩), ("EditablePast$Queue", 1, ⟨"EditablePast$Bag", "<init>", "()V"⟩), ("EditablePast$Bag", 3, ⟨"EditablePast$Contents", "<init>", "()V"⟩), ("EditablePast", 25, ⟨"EditablePast$Stack", "<init>", "()V"⟩), ("EditablePast$Stack", 1, ⟨"EditablePast$Bag", "<init>", "()V"⟩), ("EditablePast", 32, ⟨"EditablePast$Table", "<init>", "()V"⟩), ("EditablePast$Table", 3, ⟨"EditablePast$Contents", "<init>", "()V"⟩), ("EditablePast", 39, ⟨"EditablePast$Heap", "<init>", "()V"⟩), ("EditablePast$Heap", 1, ⟨"EditablePast$Bag", "<init>", "()V"⟩), ("EditablePast", 46, ⟨"EditablePast$Register", "<init>", "()V"⟩), ("EditablePast$Register", 3, ⟨"EditablePast$Contents", "<init>", "()V"⟩), ("EditablePast", 53, ⟨"EditablePast$Sets", "<init>", "()V"⟩), ("EditablePast$Sets", 3, ⟨"EditablePast$Contents", "<init>", "()V"⟩), ("EditablePast$Bag", 15, ⟨"EditablePast", "isValue", "(I)Z"⟩), ("EditablePast$Sets", 15, ⟨"EditablePast", "isElement", "(I)Z"⟩), ("EditablePast$Table", 22, ⟨"EditablePast", "isValue", "(I)Z"⟩)]
def declq : List MethodName := [⟨"java/lang/RuntimeException", "<init>", "()V"⟩, ⟨"java/lang/RuntimeException", "<init>", "(Ljava/lang/String;)V"⟩, ⟨"java/lang/Exception", "<init>", "()V"⟩, ⟨"java/lang/Exception", "<init>", "(Ljava/lang/String;)V"⟩, ⟨"java/lang/Throwable", "<init>", "()V"⟩, ⟨"java/lang/Throwable", "<init>", "(Ljava/lang/String;)V"⟩, ⟨"EditablePast$Contents", "allows", "(III)Z"⟩, ⟨"EditablePast$Contents", "clear", "()V"⟩, ⟨"EditablePast$Contents", "perform", "(III)V"⟩, ⟨"EditablePast$Bag", "placeFor", "(I)I"⟩, ⟨"EditablePast$Contents", "noteEffect", "(J)V"⟩, ⟨"EditablePast$Contents", "noteNoEffect", "()V"⟩]
def privq : List MethodName := [⟨"EditablePast$Bag", "insert", "(II)V"⟩, ⟨"EditablePast$Bag", "removeFirst", "()I"⟩]
def castq : List (String × String) := [("java/lang/IllegalArgumentException", "java/lang/IllegalArgumentException"), ("java/lang/IllegalStateException", "java/lang/IllegalStateException"), ("java/lang/UnsupportedOperationException", "java/lang/UnsupportedOperationException"), ("java/util/NoSuchElementException", "java/util/NoSuchElementException"), ("java/lang/IndexOutOfBoundsException", "java/lang/IndexOutOfBoundsException")]
def strq : List (String × Nat × String) := [("EditablePast", 60, "there is no such kind"), ("EditablePast", 223, "there is no such collection"), ("EditablePast", 75, "the collection is open"), ("EditablePast", 225, "the collection is not open"), ("EditablePast", 228, "there is no such moment"), ("EditablePast", 232, "the moment is taken"), ("EditablePast", 101, "the line is full"), ("EditablePast", 115, "the kind has no such operation"), ("EditablePast", 234, "there is no operation at the moment"), ("EditablePast", 230, "the call is not for collections of this kind"), ("EditablePast", 158, "nothing is in"), ("EditablePast", 169, "the key has no value"), ("EditablePast", 175, "there are not so many values"), ("EditablePast", 187, "there is no such element"), ("EditablePast", 207, "an operation has no such number"), ("EditablePast", 209, "the line has not so many operations")]
abbrev rm_EP_init : Room := { frames := 4, cells := 0, slots := 0, locals := 80 }
abbrev rm_Co_init : Room := { frames := 2, cells := 0, slots := 0, locals := 40 }
abbrev rm_Li_init : Room := { frames := 1, cells := 0, slots := 0, locals := 20 }
abbrev rm_Qu_init : Room := { frames := 3, cells := 0, slots := 0, locals := 60 }
abbrev rm_Ba_init : Room := { frames := 2, cells := 0, slots := 0, locals := 40 }
abbrev rm_Ct_init : Room := { frames := 1, cells := 0, slots := 0, locals := 20 }
abbrev rm_St_init : Room := { frames := 3, cells := 0, slots := 0, locals := 60 }
abbrev rm_Ta_init : Room := { frames := 2, cells := 0, slots := 0, locals := 40 }
abbrev rm_He_init : Room := { frames := 3, cells := 0, slots := 0, locals := 60 }
abbrev rm_Re_init : Room := { frames := 2, cells := 0, slots := 0, locals := 40 }
abbrev rm_Se_init : Room := { frames := 2, cells := 0, slots := 0, locals := 40 }
abbrev rm_Lw_open : Room := { frames := 8, cells := 0, slots := 0, locals := 134 }
abbrev rx_Lw_open : Room := { frames := 8, cells := 1, slots := 6, locals := 134 }
abbrev rm_EP_open : Room := { frames := 7, cells := 0, slots := 0, locals := 111 }
abbrev rx_EP_open : Room := { frames := 7, cells := 1, slots := 6, locals := 111 }
abbrev rm_EP_collectionOf : Room := { frames := 6, cells := 0, slots := 0, locals := 90 }
abbrev rx_EP_collectionOf : Room := { frames := 6, cells := 1, slots := 6, locals := 90 }
abbrev rm_Lw_close : Room := { frames := 9, cells := 0, slots := 0, locals := 155 }
abbrev rx_Lw_close : Room := { frames := 9, cells := 1, slots := 6, locals := 155 }
abbrev rm_EP_close : Room := { frames := 8, cells := 0, slots := 0, locals := 133 }
abbrev rx_EP_close : Room := { frames := 8, cells := 1, slots := 6, locals := 133 }
abbrev rm_EP_openCollection : Room := { frames := 7, cells := 0, slots := 0, locals := 111 }
abbrev rx_EP_openCollection : Room := { frames := 7, cells := 1, slots := 6, locals := 111 }
abbrev rm_Lw_put : Room := { frames := 9, cells := 0, slots := 0, locals := 159 }
abbrev rx_Lw_put : Room := { frames := 9, cells := 1, slots := 6, locals := 159 }
abbrev rm_EP_put : Room := { frames := 8, cells := 0, slots := 0, locals := 133 }
abbrev rx_EP_put : Room := { frames := 8, cells := 1, slots := 6, locals := 133 }
abbrev rm_EP_checkMoment : Room := { frames := 6, cells := 0, slots := 0, locals := 90 }
abbrev rx_EP_checkMoment : Room := { frames := 6, cells := 1, slots := 6, locals := 90 }
abbrev rm_EP_checkFree : Room := { frames := 6, cells := 0, slots := 0, locals := 90 }
abbrev rx_EP_checkFree : Room := { frames := 6, cells := 1, slots := 6, locals := 90 }
abbrev rm_Li_placeAt : Room := { frames := 1, cells := 0, slots := 0, locals := 22 }
abbrev rm_Li_placeFrom : Room := { frames := 0, cells := 0, slots := 0, locals := 0 }
abbrev rm_EP_contentsOf : Room := { frames := 0, cells := 0, slots := 0, locals := 0 }
abbrev rm_Ba_allows : Room := { frames := 1, cells := 0, slots := 0, locals := 20 }
abbrev rm_EP_isValue : Room := { frames := 0, cells := 0, slots := 0, locals := 0 }
abbrev rm_Re_allows : Room := { frames := 0, cells := 0, slots := 0, locals := 0 }
abbrev rm_Se_allows : Room := { frames := 1, cells := 0, slots := 0, locals := 20 }
abbrev rm_EP_isElement : Room := { frames := 0, cells := 0, slots := 0, locals := 0 }
abbrev rm_Ta_allows : Room := { frames := 1, cells := 0, slots := 0, locals := 20 }
abbrev rm_Li_copyFrom : Room := { frames := 1, cells := 0, slots := 0, locals := 23 }
abbrev rm_Li_copyOperation : Room := { frames := 0, cells := 0, slots := 0, locals := 0 }
abbrev rm_Li_insert : Room := { frames := 1, cells := 0, slots := 0, locals := 23 }
abbrev rm_Li_redo : Room := { frames := 2, cells := 0, slots := 0, locals := 48 }
abbrev rm_Ba_clear : Room := { frames := 0, cells := 0, slots := 0, locals := 0 }
abbrev rm_Re_clear : Room := { frames := 0, cells := 0, slots := 0, locals := 0 }
abbrev rm_Se_clear : Room := { frames := 0, cells := 0, slots := 0, locals := 0 }
abbrev rm_Ta_clear : Room := { frames := 0, cells := 0, slots := 0, locals := 0 }
abbrev rm_Ba_perform : Room := { frames := 1, cells := 0, slots := 0, locals := 23 }
abbrev rm_He_placeFor : Room := { frames := 0, cells := 0, slots := 0, locals := 0 }
abbrev rm_Qu_placeFor : Room := { frames := 0, cells := 0, slots := 0, locals := 0 }
abbrev rm_St_placeFor : Room := { frames := 0, cells := 0, slots := 0, locals := 0 }
abbrev rm_Ba_insert : Room := { frames := 0, cells := 0, slots := 0, locals := 0 }
abbrev rm_Ct_noteEffect : Room := { frames := 0, cells := 0, slots := 0, locals := 0 }
abbrev rm_Ba_removeFirst : Room := { frames := 0, cells := 0, slots := 0, locals := 0 }
abbrev rm_Ct_noteNoEffect : Room := { frames := 0, cells := 0, slots := 0, locals := 0 }
abbrev rm_Re_perform : Room := { frames := 1, cells := 0, slots := 0, locals := 23 }
abbrev rm_Ma_max : Room := { frames := 0, cells := 0, slots := 0, locals := 0 }
abbrev rm_Se_perform : Room := { frames := 1, cells := 0, slots := 0, locals := 22 }
abbrev rm_Ta_perform : Room := { frames := 1, cells := 0, slots := 0, locals := 22 }
abbrev rm_Ta_placeOf : Room := { frames := 0, cells := 0, slots := 0, locals := 0 }
abbrev rm_Ta_add : Room := { frames := 0, cells := 0, slots := 0, locals := 0 }
abbrev rm_Ta_remove : Room := { frames := 0, cells := 0, slots := 0, locals := 0 }
abbrev rm_Lw_strike : Room := { frames := 9, cells := 0, slots := 0, locals := 157 }
abbrev rx_Lw_strike : Room := { frames := 9, cells := 1, slots := 6, locals := 157 }
abbrev rm_EP_strike : Room := { frames := 8, cells := 0, slots := 0, locals := 133 }
abbrev rx_EP_strike : Room := { frames := 8, cells := 1, slots := 6, locals := 133 }
abbrev rm_Li_remove : Room := { frames := 1, cells := 0, slots := 0, locals := 23 }
abbrev rm_Lw_shift : Room := { frames := 9, cells := 0, slots := 0, locals := 158 }
abbrev rx_Lw_shift : Room := { frames := 9, cells := 1, slots := 6, locals := 158 }
abbrev rm_EP_shift : Room := { frames := 8, cells := 0, slots := 0, locals := 133 }
abbrev rx_EP_shift : Room := { frames := 8, cells := 1, slots := 6, locals := 133 }
abbrev rm_EP_takenPlace : Room := { frames := 6, cells := 0, slots := 0, locals := 90 }
abbrev rx_EP_takenPlace : Room := { frames := 6, cells := 1, slots := 6, locals := 90 }
abbrev rm_Li_relocate : Room := { frames := 2, cells := 0, slots := 0, locals := 49 }
abbrev rm_Lw_front : Room := { frames := 9, cells := 0, slots := 0, locals := 157 }
abbrev rx_Lw_front : Room := { frames := 9, cells := 1, slots := 6, locals := 157 }
abbrev rm_EP_front : Room := { frames := 8, cells := 0, slots := 0, locals := 133 }
abbrev rx_EP_front : Room := { frames := 8, cells := 1, slots := 6, locals := 133 }
abbrev rm_EP_checkKind : Room := { frames := 6, cells := 0, slots := 0, locals := 90 }
abbrev rx_EP_checkKind : Room := { frames := 6, cells := 1, slots := 6, locals := 90 }
abbrev rm_Li_runUpTo : Room := { frames := 2, cells := 0, slots := 0, locals := 48 }
abbrev rm_Lw_size : Room := { frames := 9, cells := 0, slots := 0, locals := 157 }
abbrev rx_Lw_size : Room := { frames := 9, cells := 1, slots := 6, locals := 157 }
abbrev rm_EP_size : Room := { frames := 8, cells := 0, slots := 0, locals := 133 }
abbrev rx_EP_size : Room := { frames := 8, cells := 1, slots := 6, locals := 133 }
abbrev rm_Lw_at : Room := { frames := 9, cells := 0, slots := 0, locals := 158 }
abbrev rx_Lw_at : Room := { frames := 9, cells := 1, slots := 6, locals := 158 }
abbrev rm_EP_at : Room := { frames := 8, cells := 0, slots := 0, locals := 133 }
abbrev rx_EP_at : Room := { frames := 8, cells := 1, slots := 6, locals := 133 }
abbrev rm_Lw_least : Room := { frames := 9, cells := 0, slots := 0, locals := 157 }
abbrev rx_Lw_least : Room := { frames := 9, cells := 1, slots := 6, locals := 157 }
abbrev rm_EP_least : Room := { frames := 8, cells := 0, slots := 0, locals := 133 }
abbrev rx_EP_least : Room := { frames := 8, cells := 1, slots := 6, locals := 133 }
abbrev rm_Lw_sum : Room := { frames := 9, cells := 0, slots := 0, locals := 156 }
abbrev rx_Lw_sum : Room := { frames := 9, cells := 1, slots := 6, locals := 156 }
abbrev rm_EP_sum : Room := { frames := 8, cells := 0, slots := 0, locals := 133 }
abbrev rx_EP_sum : Room := { frames := 8, cells := 1, slots := 6, locals := 133 }
abbrev rm_Lw_together : Room := { frames := 9, cells := 0, slots := 0, locals := 158 }
abbrev rx_Lw_together : Room := { frames := 9, cells := 1, slots := 6, locals := 158 }
abbrev rm_EP_together : Room := { frames := 8, cells := 0, slots := 0, locals := 133 }
abbrev rx_EP_together : Room := { frames := 8, cells := 1, slots := 6, locals := 133 }
abbrev rm_Lw_result : Room := { frames := 9, cells := 0, slots := 0, locals := 156 }
abbrev rx_Lw_result : Room := { frames := 9, cells := 1, slots := 6, locals := 156 }
abbrev rm_EP_result : Room := { frames := 8, cells := 0, slots := 0, locals := 133 }
abbrev rx_EP_result : Room := { frames := 8, cells := 1, slots := 6, locals := 133 }
abbrev rm_Lw_works : Room := { frames := 9, cells := 0, slots := 0, locals := 156 }
abbrev rx_Lw_works : Room := { frames := 9, cells := 1, slots := 6, locals := 156 }
abbrev rm_EP_works : Room := { frames := 8, cells := 0, slots := 0, locals := 133 }
abbrev rx_EP_works : Room := { frames := 8, cells := 1, slots := 6, locals := 133 }
abbrev rm_Lw_effective : Room := { frames := 9, cells := 0, slots := 0, locals := 156 }
abbrev rx_Lw_effective : Room := { frames := 9, cells := 1, slots := 6, locals := 156 }
abbrev rm_EP_effective : Room := { frames := 8, cells := 0, slots := 0, locals := 133 }
abbrev rx_EP_effective : Room := { frames := 8, cells := 1, slots := 6, locals := 133 }
abbrev rm_Li_countEffects : Room := { frames := 1, cells := 0, slots := 0, locals := 22 }
abbrev rm_Lw_firstChange : Room := { frames := 9, cells := 0, slots := 0, locals := 158 }
abbrev rx_Lw_firstChange : Room := { frames := 9, cells := 1, slots := 6, locals := 158 }
abbrev rm_EP_firstChange : Room := { frames := 8, cells := 0, slots := 0, locals := 133 }
abbrev rx_EP_firstChange : Room := { frames := 8, cells := 1, slots := 6, locals := 133 }
abbrev rm_Li_firstDifference : Room := { frames := 1, cells := 0, slots := 0, locals := 23 }
abbrev rm_Li_isSame : Room := { frames := 0, cells := 0, slots := 0, locals := 0 }
abbrev rm_Li_momentOrNever : Room := { frames := 0, cells := 0, slots := 0, locals := 0 }
abbrev rm_Ma_min : Room := { frames := 0, cells := 0, slots := 0, locals := 0 }
abbrev rm_Lw_operations : Room := { frames := 9, cells := 0, slots := 0, locals := 154 }
abbrev rx_Lw_operations : Room := { frames := 9, cells := 1, slots := 6, locals := 154 }
abbrev rm_EP_operations : Room := { frames := 8, cells := 0, slots := 0, locals := 133 }
abbrev rx_EP_operations : Room := { frames := 8, cells := 1, slots := 6, locals := 133 }
abbrev rm_Lw_operation : Room := { frames := 9, cells := 0, slots := 0, locals := 157 }
abbrev rx_Lw_operation : Room := { frames := 9, cells := 1, slots := 6, locals := 157 }
abbrev rm_EP_operation : Room := { frames := 8, cells := 0, slots := 0, locals := 133 }
abbrev rx_EP_operation : Room := { frames := 8, cells := 1, slots := 6, locals := 133 }
abbrev rm_Md_init : Room := { frames := 1, cells := 0, slots := 0, locals := 20 }
abbrev rm_Md_thrown : Room := { frames := 0, cells := 0, slots := 0, locals := 0 }
abbrev rm_Md_open : Room := { frames := 1, cells := 0, slots := 0, locals := 20 }
abbrev rm_Md_isId : Room := { frames := 0, cells := 0, slots := 0, locals := 0 }
abbrev rm_Md_close : Room := { frames := 2, cells := 0, slots := 0, locals := 42 }
abbrev rm_Md_lacks : Room := { frames := 1, cells := 0, slots := 0, locals := 20 }
abbrev rm_Md_isMoment : Room := { frames := 0, cells := 0, slots := 0, locals := 0 }
abbrev rm_Md_put : Room := { frames := 2, cells := 0, slots := 0, locals := 48 }
abbrev rm_Md_find : Room := { frames := 0, cells := 0, slots := 0, locals := 0 }
abbrev rm_Md_kindOf : Room := { frames := 0, cells := 0, slots := 0, locals := 0 }
abbrev rm_Md_fits : Room := { frames := 1, cells := 0, slots := 0, locals := 20 }
abbrev rm_Md_isValue : Room := { frames := 0, cells := 0, slots := 0, locals := 0 }
abbrev rm_Md_remember : Room := { frames := 1, cells := 0, slots := 0, locals := 22 }
abbrev rm_Md_copy : Room := { frames := 0, cells := 0, slots := 0, locals := 0 }
abbrev rm_Md_insert : Room := { frames := 1, cells := 0, slots := 0, locals := 22 }
abbrev rm_Md_strike : Room := { frames := 2, cells := 0, slots := 0, locals := 45 }
abbrev rm_Md_cut : Room := { frames := 1, cells := 0, slots := 0, locals := 22 }
abbrev rm_Md_shift : Room := { frames := 2, cells := 0, slots := 0, locals := 48 }
abbrev rm_Md_front : Room := { frames := 4, cells := 0, slots := 0, locals := 98 }
abbrev rm_Md_isNotFor : Room := { frames := 3, cells := 0, slots := 0, locals := 75 }
abbrev rm_Md_run : Room := { frames := 2, cells := 0, slots := 0, locals := 48 }
abbrev rm_Md_doSets : Room := { frames := 0, cells := 0, slots := 0, locals := 0 }
abbrev rm_Md_doTable : Room := { frames := 1, cells := 0, slots := 0, locals := 23 }
abbrev rm_Md_keyAt : Room := { frames := 0, cells := 0, slots := 0, locals := 0 }
abbrev rm_Md_takeOut : Room := { frames := 0, cells := 0, slots := 0, locals := 0 }
abbrev rm_Md_doBag : Room := { frames := 1, cells := 0, slots := 0, locals := 23 }
abbrev rm_Md_nextOf : Room := { frames := 0, cells := 0, slots := 0, locals := 0 }
abbrev rm_Md_size : Room := { frames := 4, cells := 0, slots := 0, locals := 98 }
abbrev rm_Md_at : Room := { frames := 4, cells := 0, slots := 0, locals := 98 }
abbrev rm_Md_least : Room := { frames := 4, cells := 0, slots := 0, locals := 98 }
abbrev rm_Md_sum : Room := { frames := 4, cells := 0, slots := 0, locals := 98 }
abbrev rm_Md_together : Room := { frames := 4, cells := 0, slots := 0, locals := 98 }
abbrev rm_Md_result : Room := { frames := 5, cells := 0, slots := 0, locals := 121 }
abbrev rm_Md_asked : Room := { frames := 4, cells := 0, slots := 0, locals := 98 }
abbrev rm_Md_works : Room := { frames := 5, cells := 0, slots := 0, locals := 121 }
abbrev rm_Md_effective : Room := { frames := 3, cells := 0, slots := 0, locals := 75 }
abbrev rm_Md_lacksTwo : Room := { frames := 1, cells := 0, slots := 0, locals := 20 }
abbrev rm_Md_firstChange : Room := { frames := 3, cells := 0, slots := 0, locals := 75 }
abbrev rm_Md_operations : Room := { frames := 2, cells := 0, slots := 0, locals := 42 }
abbrev rm_Md_operation : Room := { frames := 1, cells := 0, slots := 0, locals := 20 }
