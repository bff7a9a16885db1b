theorem q_wp {i : Nat} {q : MethodName × Nat} (h : lw_privs[i]? = some q) : Cond.selects q.1.cls q.1 q.1 ∈ q_gd := List.mem_filter.mpr ⟨List.mem_append_left _ (List.mem_map.mpr ⟨q, List.mem_of_getElem? h, rfl⟩), rfl⟩
theorem q_wg1 {i : Nat} {w : Cond} (h : tables_1_1[i]? = some w) (hg : goodWord w = true) : w ∈ q_gd := List.mem_filter.mpr ⟨List.mem_append_right _ (show w ∈ tables_1 from List.mem_append_left _ (List.mem_of_getElem? h)), hg⟩
theorem q_wn1 {i : Nat} {w : Cond} (h : tables_1_1[i]? = some w) (hg : q_isN w = true) : w ∈ q_nst := List.mem_filter.mpr ⟨List.mem_append_right _ (show w ∈ tables_1 from List.mem_append_left _ (List.mem_of_getElem? h)), hg⟩
theorem q_wg2 {i : Nat} {w : Cond} (h : tables_1_2[i]? = some w) (hg : goodWord w = true) : w ∈ q_gd := List.mem_filter.mpr ⟨List.mem_append_right _ (show w ∈ tables_1 from List.mem_append_right _ (List.mem_append_left _ (List.mem_of_getElem? h))), hg⟩
theorem q_wn2 {i : Nat} {w : Cond} (h : tables_1_2[i]? = some w) (hg : q_isN w = true) : w ∈ q_nst := List.mem_filter.mpr ⟨List.mem_append_right _ (show w ∈ tables_1 from List.mem_append_right _ (List.mem_append_left _ (List.mem_of_getElem? h))), hg⟩
theorem q_wg3 {i : Nat} {w : Cond} (h : tables_1_3[i]? = some w) (hg : goodWord w = true) : w ∈ q_gd := List.mem_filter.mpr ⟨List.mem_append_right _ (show w ∈ tables_1 from List.mem_append_right _ (List.mem_append_right _ (List.mem_append_left _ (List.mem_of_getElem? h)))), hg⟩
theorem q_wn3 {i : Nat} {w : Cond} (h : tables_1_3[i]? = some w) (hg : q_isN w = true) : w ∈ q_nst := List.mem_filter.mpr ⟨List.mem_append_right _ (show w ∈ tables_1 from List.mem_append_right _ (List.mem_append_right _ (List.mem_append_left _ (List.mem_of_getElem? h)))), hg⟩
theorem q_wg4 {i : Nat} {w : Cond} (h : tables_1_4[i]? = some w) (hg : goodWord w = true) : w ∈ q_gd := List.mem_filter.mpr ⟨List.mem_append_right _ (show w ∈ tables_1 from List.mem_append_right _ (List.mem_append_right _ (List.mem_append_right _ (List.mem_append_left _ (List.mem_of_getElem? h))))), hg⟩
theorem q_wn4 {i : Nat} {w : Cond} (h : tables_1_4[i]? = some w) (hg : q_isN w = true) : w ∈ q_nst := List.mem_filter.mpr ⟨List.mem_append_right _ (show w ∈ tables_1 from List.mem_append_right _ (List.mem_append_right _ (List.mem_append_right _ (List.mem_append_left _ (List.mem_of_getElem? h))))), hg⟩
theorem q_wg5 {i : Nat} {w : Cond} (h : tables_1_5[i]? = some w) (hg : goodWord w = true) : w ∈ q_gd := List.mem_filter.mpr ⟨List.mem_append_right _ (show w ∈ tables_1 from List.mem_append_right _ (List.mem_append_right _ (List.mem_append_right _ (List.mem_append_right _ (List.mem_append_left _ (List.mem_of_getElem? h)))))), hg⟩
theorem q_wg6 {i : Nat} {w : Cond} (h : tables_1_6[i]? = some w) (hg : goodWord w = true) : w ∈ q_gd := List.mem_filter.mpr ⟨List.mem_append_right _ (show w ∈ tables_1 from List.mem_append_right _ (List.mem_append_right _ (List.mem_append_right _ (List.mem_append_right _ (List.mem_append_right _ (List.mem_of_getElem? h)))))), hg⟩
theorem w_1 : Cond.initialized "TreePasses" ∈ q_gd := q_wg1 (i := 1) rfl rfl
theorem w_2 : Cond.initialized "TreePasses$Scroll" ∈ q_gd := q_wg1 (i := 2) rfl rfl
theorem w_4 : Cond.initialized "TreePasses$Program" ∈ q_gd := q_wg1 (i := 4) rfl rfl
theorem w_5 : Cond.initialized "TreePasses$Shelf" ∈ q_gd := q_wg1 (i := 5) rfl rfl
theorem w_6 : Cond.initialized "TreePasses$Ground" ∈ q_gd := q_wg1 (i := 6) rfl rfl
theorem w_7 : Cond.initialized "TreePasses$Standing" ∈ q_gd := q_wg1 (i := 7) rfl rfl
theorem w_8 : Cond.initialized "TreePasses$Unmade" ∈ q_gd := q_wg1 (i := 8) rfl rfl
theorem w_9 : Cond.initialized "TreePasses$Walk" ∈ q_gd := q_wg1 (i := 9) rfl rfl
theorem w_10 : Cond.initialized "TreePasses$Census" ∈ q_gd := q_wg1 (i := 10) rfl rfl
theorem w_11 : Cond.initialized "java/lang/String" ∈ q_gd := q_wg1 (i := 11) rfl rfl
theorem w_12 : Cond.initialized "java/lang/StringLatin1" ∈ q_gd := q_wg1 (i := 12) rfl rfl
theorem w_13 : Cond.initialized "jdk/internal/util/Preconditions" ∈ q_gd := q_wg1 (i := 13) rfl rfl
theorem w_15 : Cond.initialized "java/util/Arrays" ∈ q_gd := q_wg1 (i := 15) rfl rfl
theorem w_17 : Cond.initialized "TreePassesModel" ∈ q_gd := q_wg1 (i := 17) rfl rfl
theorem w_18 : Cond.classLink "TreePassesLaw" 7 "TreePasses" ∈ q_gd := q_wg1 (i := 18) rfl rfl
theorem w_19 : Cond.instantiable "TreePasses" 12 ∈ q_gd := q_wg1 (i := 19) rfl rfl
theorem w_20 : Cond.methodLink "TreePassesLaw" 9 ⟨"TreePasses", "<init>", "()V"⟩ ∈ q_gd := q_wg1 (i := 20) rfl rfl
theorem w_21 : Cond.instanceMethod ⟨"TreePasses", "<init>", "()V"⟩ ∈ q_gd := q_wg1 (i := 21) rfl rfl
theorem w_23 : Cond.methodLink "TreePasses" 3 ⟨"java/lang/Object", "<init>", "()V"⟩ ∈ q_gd := q_wg1 (i := 23) rfl rfl
theorem w_26 : Cond.classLink "TreePasses" 9 "TreePasses$Scroll" ∈ q_gd := q_wg1 (i := 26) rfl rfl
theorem w_27 : Cond.instantiable "TreePasses$Scroll" 5 ∈ q_gd := q_wg1 (i := 27) rfl rfl
theorem w_28 : Cond.methodLinkNest "TreePasses" 11 ⟨"TreePasses$Scroll", "<init>", "()V"⟩ "TreePasses" ∈ q_nst := q_wn1 (i := 28) rfl rfl
theorem w_29 : Cond.instanceMethod ⟨"TreePasses$Scroll", "<init>", "()V"⟩ ∈ q_gd := q_wg1 (i := 29) rfl rfl
theorem w_31 : Cond.methodLink "TreePasses$Scroll" 3 ⟨"java/lang/Object", "<init>", "()V"⟩ ∈ q_gd := q_wg1 (i := 31) rfl rfl
theorem w_32 : Cond.methodLink "TreePasses$Scroll" 15 ⟨"java/lang/Math", "max", "(II)I"⟩ ∈ q_gd := q_wg1 (i := 32) rfl rfl
theorem w_35 : Cond.fieldLink "TreePasses$Scroll" 9 "TreePasses$Scroll" "text" "[C" ∈ q_gd := q_wg1 (i := 35) rfl rfl
theorem w_36 : Cond.fieldLink "TreePasses$Scroll" 21 "TreePasses$Scroll" "row" "[I" ∈ q_gd := q_wg1 (i := 36) rfl rfl
theorem w_37 : Cond.fieldLink "TreePasses$Scroll" 25 "TreePasses$Scroll" "size" "I" ∈ q_gd := q_wg1 (i := 37) rfl rfl
theorem w_38 : Cond.fieldLink "TreePasses$Scroll" 37 "TreePasses$Scroll" "at" "I" ∈ q_gd := q_wg1 (i := 38) rfl rfl
theorem w_39 : Cond.fieldLink "TreePasses$Scroll" 48 "TreePasses$Scroll" "stopped" "Z" ∈ q_gd := q_wg1 (i := 39) rfl rfl
theorem w_51 : Cond.arrayClass FieldType.char ∈ q_gd := q_wg1 (i := 51) rfl rfl
theorem w_52 : Cond.arrayClass FieldType.int ∈ q_gd := q_wg1 (i := 52) rfl rfl
theorem w_53 : Cond.classLink "TreePasses" 16 "TreePasses$Program" ∈ q_gd := q_wg1 (i := 53) rfl rfl
theorem w_54 : Cond.instantiable "TreePasses$Program" 7 ∈ q_gd := q_wg1 (i := 54) rfl rfl
theorem w_55 : Cond.methodLinkNest "TreePasses" 18 ⟨"TreePasses$Program", "<init>", "()V"⟩ "TreePasses" ∈ q_nst := q_wn1 (i := 55) rfl rfl
theorem w_56 : Cond.instanceMethod ⟨"TreePasses$Program", "<init>", "()V"⟩ ∈ q_gd := q_wg1 (i := 56) rfl rfl
theorem w_58 : Cond.methodLink "TreePasses$Program" 3 ⟨"java/lang/Object", "<init>", "()V"⟩ ∈ q_gd := q_wg1 (i := 58) rfl rfl
theorem w_59 : Cond.fieldLink "TreePasses$Program" 9 "TreePasses$Program" "letters" "[I" ∈ q_gd := q_wg1 (i := 59) rfl rfl
theorem w_60 : Cond.fieldLink "TreePasses$Program" 15 "TreePasses$Program" "sizes" "[I" ∈ q_gd := q_wg1 (i := 60) rfl rfl
theorem w_61 : Cond.fieldLink "TreePasses$Program" 18 "TreePasses$Program" "kinds" "[I" ∈ q_gd := q_wg1 (i := 61) rfl rfl
theorem w_62 : Cond.fieldLink "TreePasses$Program" 21 "TreePasses$Program" "entries" "[I" ∈ q_gd := q_wg1 (i := 62) rfl rfl
theorem w_63 : Cond.fieldLink "TreePasses$Program" 24 "TreePasses$Program" "rules" "[I" ∈ q_gd := q_wg1 (i := 63) rfl rfl
theorem w_64 : Cond.fieldLink "TreePasses$Program" 27 "TreePasses$Program" "chosen" "[I" ∈ q_gd := q_wg1 (i := 64) rfl rfl
theorem w_65 : Cond.fieldLink "TreePasses$Program" 36 "TreePasses$Program" "ruled" "I" ∈ q_gd := q_wg1 (i := 65) rfl rfl
theorem w_66 : Cond.fieldLinkNest "TreePasses" 100 "TreePasses$Program" "ruled" "I" "TreePasses" ∈ q_nst := q_wn1 (i := 66) rfl rfl
theorem w_67 : Cond.fieldLinkNest "TreePasses$Scroll" 72 "TreePasses$Program" "ruled" "I" "TreePasses" ∈ q_nst := q_wn1 (i := 67) rfl rfl
theorem w_83 : Cond.classLink "TreePasses" 26 "TreePasses$Shelf" ∈ q_gd := q_wg1 (i := 83) rfl rfl
theorem w_84 : Cond.instantiable "TreePasses$Shelf" 3 ∈ q_gd := q_wg1 (i := 84) rfl rfl
theorem w_85 : Cond.methodLink "TreePasses" 28 ⟨"TreePasses$Shelf", "<init>", "(I)V"⟩ ∈ q_gd := q_wg1 (i := 85) rfl rfl
theorem w_86 : Cond.instanceMethod ⟨"TreePasses$Shelf", "<init>", "(I)V"⟩ ∈ q_gd := q_wg1 (i := 86) rfl rfl
theorem w_88 : Cond.methodLink "TreePasses$Shelf" 1 ⟨"java/lang/Object", "<init>", "()V"⟩ ∈ q_gd := q_wg1 (i := 88) rfl rfl
theorem w_89 : Cond.methodLink "TreePasses$Shelf" 7 ⟨"java/lang/Math", "max", "(II)I"⟩ ∈ q_gd := q_wg1 (i := 89) rfl rfl
theorem w_90 : Cond.classLink "TreePasses$Shelf" 13 "TreePasses$Program" ∈ q_gd := q_wg1 (i := 90) rfl rfl
theorem w_92 : Cond.methodLinkNest "TreePasses$Shelf" 21 ⟨"TreePasses$Program", "<init>", "()V"⟩ "TreePasses" ∈ q_nst := q_wn1 (i := 92) rfl rfl
theorem w_93 : Cond.fieldLink "TreePasses$Shelf" 15 "TreePasses$Shelf" "programs" "[LTreePasses$Program;" ∈ q_gd := q_wg1 (i := 93) rfl rfl
theorem w_94 : Cond.fieldLink "TreePasses$Shelf" 30 "TreePasses$Shelf" "first" "I" ∈ q_gd := q_wg1 (i := 94) rfl rfl
theorem w_95 : Cond.fieldLink "TreePasses$Shelf" 22 "TreePasses$Shelf" "held" "I" ∈ q_gd := q_wg1 (i := 95) rfl rfl
theorem w_96 : Cond.fieldLinkNest "TreePasses" 195 "TreePasses$Shelf" "held" "I" "TreePasses" ∈ q_nst := q_wn1 (i := 96) rfl rfl
theorem w_104 : Cond.classLink "TreePasses" 38 "TreePasses$Standing" ∈ q_gd := q_wg1 (i := 104) rfl rfl
theorem w_105 : Cond.instantiable "TreePasses$Standing" 4 ∈ q_gd := q_wg1 (i := 105) rfl rfl
theorem w_106 : Cond.methodLinkNest "TreePasses" 40 ⟨"TreePasses$Standing", "<init>", "()V"⟩ "TreePasses" ∈ q_nst := q_wn1 (i := 106) rfl rfl
theorem w_107 : Cond.instanceMethod ⟨"TreePasses$Standing", "<init>", "()V"⟩ ∈ q_gd := q_wg1 (i := 107) rfl rfl
theorem w_109 : Cond.methodLinkNest "TreePasses$Standing" 3 ⟨"TreePasses$Ground", "<init>", "()V"⟩ "TreePasses" ∈ q_nst := q_wn1 (i := 109) rfl rfl
theorem w_110 : Cond.instanceMethod ⟨"TreePasses$Ground", "<init>", "()V"⟩ ∈ q_gd := q_wg1 (i := 110) rfl rfl
theorem w_112 : Cond.methodLink "TreePasses$Ground" 1 ⟨"java/lang/Object", "<init>", "()V"⟩ ∈ q_gd := q_wg1 (i := 112) rfl rfl
theorem w_113 : Cond.fieldLink "TreePasses$Standing" 9 "TreePasses$Standing" "letters" "[I" ∈ q_gd := q_wg1 (i := 113) rfl rfl
theorem w_114 : Cond.fieldLink "TreePasses$Standing" 15 "TreePasses$Standing" "spans" "[I" ∈ q_gd := q_wg1 (i := 114) rfl rfl
theorem w_115 : Cond.fieldLink "TreePasses$Standing" 18 "TreePasses$Standing" "values" "[I" ∈ q_gd := q_wg1 (i := 115) rfl rfl
theorem w_116 : Cond.fieldLink "TreePasses$Standing" 33 "TreePasses$Standing" "nodes" "I" ∈ q_gd := q_wg1 (i := 116) rfl rfl
theorem w_126 : Cond.classLink "TreePasses" 48 "TreePasses$Unmade" ∈ q_gd := q_wg1 (i := 126) rfl rfl
theorem w_127 : Cond.instantiable "TreePasses$Unmade" 1 ∈ q_gd := q_wg1 (i := 127) rfl rfl
theorem w_128 : Cond.methodLinkNest "TreePasses" 50 ⟨"TreePasses$Unmade", "<init>", "()V"⟩ "TreePasses" ∈ q_nst := q_wn1 (i := 128) rfl rfl
theorem w_129 : Cond.instanceMethod ⟨"TreePasses$Unmade", "<init>", "()V"⟩ ∈ q_gd := q_wg1 (i := 129) rfl rfl
theorem w_131 : Cond.methodLinkNest "TreePasses$Unmade" 3 ⟨"TreePasses$Ground", "<init>", "()V"⟩ "TreePasses" ∈ q_nst := q_wn1 (i := 131) rfl rfl
theorem w_132 : Cond.classLink "TreePasses$Unmade" 9 "TreePasses$Standing" ∈ q_gd := q_wg1 (i := 132) rfl rfl
theorem w_133 : Cond.methodLinkNest "TreePasses$Unmade" 11 ⟨"TreePasses$Standing", "<init>", "()V"⟩ "TreePasses" ∈ q_nst := q_wn1 (i := 133) rfl rfl
theorem w_134 : Cond.fieldLink "TreePasses$Unmade" 12 "TreePasses$Unmade" "tree" "LTreePasses$Standing;" ∈ q_gd := q_wg1 (i := 134) rfl rfl
theorem w_138 : Cond.classLink "TreePasses" 55 "TreePasses$Walk" ∈ q_gd := q_wg1 (i := 138) rfl rfl
theorem w_139 : Cond.instantiable "TreePasses$Walk" 7 ∈ q_gd := q_wg1 (i := 139) rfl rfl
theorem w_140 : Cond.methodLinkNest "TreePasses" 57 ⟨"TreePasses$Walk", "<init>", "()V"⟩ "TreePasses" ∈ q_nst := q_wn1 (i := 140) rfl rfl
theorem w_141 : Cond.instanceMethod ⟨"TreePasses$Walk", "<init>", "()V"⟩ ∈ q_gd := q_wg1 (i := 141) rfl rfl
theorem w_143 : Cond.methodLink "TreePasses$Walk" 3 ⟨"java/lang/Object", "<init>", "()V"⟩ ∈ q_gd := q_wg1 (i := 143) rfl rfl
theorem w_144 : Cond.fieldLink "TreePasses$Walk" 9 "TreePasses$Walk" "output" "[I" ∈ q_gd := q_wg1 (i := 144) rfl rfl
theorem w_145 : Cond.fieldLinkNest "TreePasses" 208 "TreePasses$Walk" "output" "[I" "TreePasses" ∈ q_nst := q_wn1 (i := 145) rfl rfl
theorem w_146 : Cond.fieldLink "TreePasses$Walk" 15 "TreePasses$Walk" "comings" "[I" ∈ q_gd := q_wg1 (i := 146) rfl rfl
theorem w_147 : Cond.fieldLink "TreePasses$Walk" 18 "TreePasses$Walk" "places" "[I" ∈ q_gd := q_wg1 (i := 147) rfl rfl
theorem w_148 : Cond.fieldLink "TreePasses$Walk" 21 "TreePasses$Walk" "rules" "[I" ∈ q_gd := q_wg1 (i := 148) rfl rfl
theorem w_149 : Cond.fieldLink "TreePasses$Walk" 24 "TreePasses$Walk" "nexts" "[I" ∈ q_gd := q_wg1 (i := 149) rfl rfl
theorem w_150 : Cond.fieldLink "TreePasses$Walk" 33 "TreePasses$Walk" "made" "I" ∈ q_gd := q_wg1 (i := 150) rfl rfl
theorem w_151 : Cond.fieldLinkNest "TreePasses" 211 "TreePasses$Walk" "made" "I" "TreePasses" ∈ q_nst := q_wn1 (i := 151) rfl rfl
theorem w_152 : Cond.fieldLink "TreePasses$Walk" 37 "TreePasses$Walk" "depth" "I" ∈ q_gd := q_wg1 (i := 152) rfl rfl
theorem w_168 : Cond.classLink "TreePasses" 62 "TreePasses$Census" ∈ q_gd := q_wg1 (i := 168) rfl rfl
theorem w_169 : Cond.instantiable "TreePasses$Census" 15 ∈ q_gd := q_wg1 (i := 169) rfl rfl
theorem w_170 : Cond.methodLink "TreePasses" 64 ⟨"TreePasses$Census", "<init>", "(I)V"⟩ ∈ q_gd := q_wg1 (i := 170) rfl rfl
theorem w_171 : Cond.instanceMethod ⟨"TreePasses$Census", "<init>", "(I)V"⟩ ∈ q_gd := q_wg1 (i := 171) rfl rfl
theorem w_173 : Cond.methodLink "TreePasses$Census" 3 ⟨"java/lang/Object", "<init>", "()V"⟩ ∈ q_gd := q_wg1 (i := 173) rfl rfl
theorem w_174 : Cond.fieldLink "TreePasses$Census" 50 "TreePasses$Census" "pass" "I" ∈ q_gd := q_wg1 (i := 174) rfl rfl
theorem w_175 : Cond.fieldLink "TreePasses$Census" 9 "TreePasses$Census" "heads" "[I" ∈ q_gd := q_wg1 (i := 175) rfl rfl
theorem w_176 : Cond.fieldLink "TreePasses$Census" 15 "TreePasses$Census" "lefts" "[I" ∈ q_gd := q_wg1 (i := 176) rfl rfl
theorem w_177 : Cond.fieldLink "TreePasses$Census" 18 "TreePasses$Census" "rights" "[I" ∈ q_gd := q_wg1 (i := 177) rfl rfl
theorem w_178 : Cond.fieldLink "TreePasses$Census" 21 "TreePasses$Census" "sizes" "[I" ∈ q_gd := q_wg1 (i := 178) rfl rfl
theorem w_179 : Cond.fieldLink "TreePasses$Census" 24 "TreePasses$Census" "order" "[I" ∈ q_gd := q_wg1 (i := 179) rfl rfl
theorem w_180 : Cond.fieldLink "TreePasses$Census" 27 "TreePasses$Census" "settled" "[Z" ∈ q_gd := q_wg1 (i := 180) rfl rfl
theorem w_181 : Cond.fieldLink "TreePasses$Census" 31 "TreePasses$Census" "ones" "[I" ∈ q_gd := q_wg1 (i := 181) rfl rfl
theorem w_182 : Cond.fieldLink "TreePasses$Census" 34 "TreePasses$Census" "lacks" "[I" ∈ q_gd := q_wg1 (i := 182) rfl rfl
theorem w_183 : Cond.fieldLink "TreePasses$Census" 37 "TreePasses$Census" "taken" "[I" ∈ q_gd := q_wg1 (i := 183) rfl rfl
theorem w_184 : Cond.fieldLink "TreePasses$Census" 40 "TreePasses$Census" "calls" "[I" ∈ q_gd := q_wg1 (i := 184) rfl rfl
theorem w_185 : Cond.fieldLink "TreePasses$Census" 43 "TreePasses$Census" "types" "[J" ∈ q_gd := q_wg1 (i := 185) rfl rfl
theorem w_186 : Cond.fieldLink "TreePasses$Census" 47 "TreePasses$Census" "stack" "[J" ∈ q_gd := q_wg1 (i := 186) rfl rfl
theorem w_187 : Cond.fieldLink "TreePasses$Census" 78 "TreePasses$Census" "met" "I" ∈ q_gd := q_wg1 (i := 187) rfl rfl
theorem w_188 : Cond.fieldLinkNest "TreePasses" 235 "TreePasses$Census" "met" "I" "TreePasses" ∈ q_nst := q_wn1 (i := 188) rfl rfl
theorem w_189 : Cond.fieldLink "TreePasses$Census" 54 "TreePasses$Census" "fresh" "Z" ∈ q_gd := q_wg1 (i := 189) rfl rfl
theorem w_221 : Cond.arrayClass FieldType.boolean ∈ q_gd := q_wg1 (i := 221) rfl rfl
theorem w_222 : Cond.arrayClass FieldType.long ∈ q_gd := q_wg1 (i := 222) rfl rfl
theorem w_224 : Cond.methodLink "TreePasses" 78 ⟨"java/lang/String", "length", "()I"⟩ ∈ q_gd := q_wg1 (i := 224) rfl rfl
theorem w_225 : Cond.instanceMethod ⟨"java/lang/String", "length", "()I"⟩ ∈ q_gd := q_wg1 (i := 225) rfl rfl
theorem w_226 : Cond.selects "java/lang/String" ⟨"java/lang/String", "length", "()I"⟩ ⟨"java/lang/String", "length", "()I"⟩ ∈ q_gd := q_wg1 (i := 226) rfl rfl
theorem w_228 : Cond.methodLink "java/lang/String" 335 ⟨"java/lang/String", "coder", "()B"⟩ ∈ q_gd := q_wg1 (i := 228) rfl rfl
theorem w_229 : Cond.instanceMethod ⟨"java/lang/String", "coder", "()B"⟩ ∈ q_gd := q_wg1 (i := 229) rfl rfl
theorem w_230 : Cond.selects "java/lang/String" ⟨"java/lang/String", "coder", "()B"⟩ ⟨"java/lang/String", "coder", "()B"⟩ ∈ q_gd := q_wg1 (i := 230) rfl rfl
theorem w_232 : Cond.fieldLink "java/lang/String" 38 "java/lang/String" "COMPACT_STRINGS" "Z" ∈ q_gd := q_wg1 (i := 232) rfl rfl
theorem w_234 : Cond.methodLink "TreePasses" 84 ⟨"java/lang/String", "charAt", "(I)C"⟩ ∈ q_gd := q_wg1 (i := 234) rfl rfl
theorem w_235 : Cond.instanceMethod ⟨"java/lang/String", "charAt", "(I)C"⟩ ∈ q_gd := q_wg1 (i := 235) rfl rfl
theorem w_236 : Cond.selects "java/lang/String" ⟨"java/lang/String", "charAt", "(I)C"⟩ ⟨"java/lang/String", "charAt", "(I)C"⟩ ∈ q_gd := q_wg1 (i := 236) rfl rfl
theorem w_238 : Cond.methodLink "java/lang/String" 492 ⟨"java/lang/String", "isLatin1", "()Z"⟩ ∈ q_gd := q_wg1 (i := 238) rfl rfl
theorem w_239 : Cond.instanceMethod ⟨"java/lang/String", "isLatin1", "()Z"⟩ ∈ q_gd := q_wg1 (i := 239) rfl rfl
theorem w_240 : Cond.selects "java/lang/String" ⟨"java/lang/String", "isLatin1", "()Z"⟩ ⟨"java/lang/String", "isLatin1", "()Z"⟩ ∈ q_gd := q_wg2 (i := 0) rfl rfl
theorem w_242 : Cond.methodLink "java/lang/String" 495 ⟨"java/lang/StringLatin1", "charAt", "([BI)C"⟩ ∈ q_gd := q_wg2 (i := 2) rfl rfl
theorem w_243 : Cond.static ⟨"java/lang/StringLatin1", "charAt", "([BI)C"⟩ ∈ q_gd := q_wg2 (i := 3) rfl rfl
theorem w_245 : Cond.methodLink "java/lang/StringLatin1" 9 ⟨"java/lang/String", "checkIndex", "(II)V"⟩ ∈ q_gd := q_wg2 (i := 5) rfl rfl
theorem w_246 : Cond.static ⟨"java/lang/String", "checkIndex", "(II)V"⟩ ∈ q_gd := q_wg2 (i := 6) rfl rfl
theorem w_248 : Cond.fieldLink "java/lang/String" 1053 "jdk/internal/util/Preconditions" "SIOOBE_FORMATTER" "Ljava/util/function/BiFunction;" ∈ q_gd := q_wg2 (i := 8) rfl rfl
theorem w_250 : Cond.methodLink "java/lang/String" 1059 ⟨"jdk/internal/util/Preconditions", "checkIndex", "(IILjava/util/function/BiFunction;)I"⟩ ∈ q_gd := q_wg2 (i := 10) rfl rfl
theorem w_251 : Cond.static ⟨"jdk/internal/util/Preconditions", "checkIndex", "(IILjava/util/function/BiFunction;)I"⟩ ∈ q_gd := q_wg2 (i := 11) rfl rfl
theorem w_272 : Cond.methodLink "TreePasses" 88 ⟨"TreePasses$Scroll", "add", "(I)Z"⟩ ∈ q_gd := q_wg2 (i := 32) rfl rfl
theorem w_273 : Cond.instanceMethod ⟨"TreePasses$Scroll", "add", "(I)Z"⟩ ∈ q_gd := q_wg2 (i := 33) rfl rfl
theorem w_274 : Cond.selects "TreePasses$Scroll" ⟨"TreePasses$Scroll", "add", "(I)Z"⟩ ⟨"TreePasses$Scroll", "add", "(I)Z"⟩ ∈ q_gd := q_wg2 (i := 34) rfl rfl
theorem w_276 : Cond.methodLink "TreePasses" 92 ⟨"TreePasses$Scroll", "readProgram", "(LTreePasses$Program;)I"⟩ ∈ q_gd := q_wg2 (i := 36) rfl rfl
theorem w_277 : Cond.instanceMethod ⟨"TreePasses$Scroll", "readProgram", "(LTreePasses$Program;)I"⟩ ∈ q_gd := q_wg2 (i := 37) rfl rfl
theorem w_278 : Cond.selects "TreePasses$Scroll" ⟨"TreePasses$Scroll", "readProgram", "(LTreePasses$Program;)I"⟩ ⟨"TreePasses$Scroll", "readProgram", "(LTreePasses$Program;)I"⟩ ∈ q_gd := q_wg2 (i := 38) rfl rfl
theorem w_280 : Cond.methodLink "TreePasses$Scroll" 29 ⟨"TreePasses$Program", "clear", "()V"⟩ ∈ q_gd := q_wg2 (i := 40) rfl rfl
theorem w_281 : Cond.instanceMethod ⟨"TreePasses$Program", "clear", "()V"⟩ ∈ q_gd := q_wg2 (i := 41) rfl rfl
theorem w_282 : Cond.selects "TreePasses$Program" ⟨"TreePasses$Program", "clear", "()V"⟩ ⟨"TreePasses$Program", "clear", "()V"⟩ ∈ q_gd := q_wg2 (i := 42) rfl rfl
theorem w_284 : Cond.methodLink "TreePasses$Program" 30 ⟨"java/util/Arrays", "fill", "([II)V"⟩ ∈ q_gd := q_wg2 (i := 44) rfl rfl
theorem w_285 : Cond.static ⟨"java/util/Arrays", "fill", "([II)V"⟩ ∈ q_gd := q_wg2 (i := 45) rfl rfl
theorem w_287 : Cond.methodLink "TreePasses$Scroll" 34 ⟨"TreePasses$Scroll", "begin", "()V"⟩ ∈ q_gd := q_wg2 (i := 47) rfl rfl
theorem w_289 : Cond.instanceMethod ⟨"TreePasses$Scroll", "begin", "()V"⟩ ∈ q_gd := q_wg2 (i := 49) rfl rfl
theorem w_291 : Cond.methodLink "TreePasses$Scroll" 40 ⟨"TreePasses$Scroll", "readItem", "(LTreePasses$Program;)V"⟩ ∈ q_gd := q_wg2 (i := 51) rfl rfl
theorem w_293 : Cond.instanceMethod ⟨"TreePasses$Scroll", "readItem", "(LTreePasses$Program;)V"⟩ ∈ q_gd := q_wg2 (i := 53) rfl rfl
theorem w_295 : Cond.methodLink "TreePasses$Scroll" 59 ⟨"TreePasses$Scroll", "next", "()I"⟩ ∈ q_gd := q_wg2 (i := 55) rfl rfl
theorem w_297 : Cond.instanceMethod ⟨"TreePasses$Scroll", "next", "()I"⟩ ∈ q_gd := q_wg2 (i := 57) rfl rfl
theorem w_299 : Cond.methodLink "TreePasses$Scroll" 63 ⟨"TreePasses$Scroll", "readTree", "(LTreePasses$Program;)V"⟩ ∈ q_gd := q_wg2 (i := 59) rfl rfl
theorem w_301 : Cond.instanceMethod ⟨"TreePasses$Scroll", "readTree", "(LTreePasses$Program;)V"⟩ ∈ q_gd := q_wg2 (i := 61) rfl rfl
theorem w_303 : Cond.methodLink "TreePasses$Scroll" 79 ⟨"TreePasses$Scroll", "figure", "(I)I"⟩ ∈ q_gd := q_wg2 (i := 63) rfl rfl
theorem w_305 : Cond.instanceMethod ⟨"TreePasses$Scroll", "figure", "(I)I"⟩ ∈ q_gd := q_wg2 (i := 65) rfl rfl
theorem w_307 : Cond.methodLinkNest "TreePasses$Scroll" 114 ⟨"TreePasses", "within", "(II)Z"⟩ "TreePasses" ∈ q_nst := q_wn2 (i := 67) rfl rfl
theorem w_308 : Cond.static ⟨"TreePasses", "within", "(II)Z"⟩ ∈ q_gd := q_wg2 (i := 68) rfl rfl
theorem w_310 : Cond.methodLink "TreePasses$Scroll" 44 ⟨"TreePasses$Scroll", "expect", "(C)V"⟩ ∈ q_gd := q_wg2 (i := 70) rfl rfl
theorem w_312 : Cond.instanceMethod ⟨"TreePasses$Scroll", "expect", "(C)V"⟩ ∈ q_gd := q_wg2 (i := 72) rfl rfl
theorem w_314 : Cond.methodLink "TreePasses$Scroll" 83 ⟨"TreePasses$Scroll", "readRow", "([IIII)I"⟩ ∈ q_gd := q_wg2 (i := 74) rfl rfl
theorem w_316 : Cond.instanceMethod ⟨"TreePasses$Scroll", "readRow", "([IIII)I"⟩ ∈ q_gd := q_wg2 (i := 76) rfl rfl
theorem w_318 : Cond.methodLink "TreePasses$Scroll" 108 ⟨"TreePasses$Scroll", "readPiece", "(II)I"⟩ ∈ q_gd := q_wg2 (i := 78) rfl rfl
theorem w_320 : Cond.instanceMethod ⟨"TreePasses$Scroll", "readPiece", "(II)I"⟩ ∈ q_gd := q_wg2 (i := 80) rfl rfl
theorem w_322 : Cond.methodLinkNest "TreePasses$Scroll" 98 ⟨"TreePasses", "childrenOf", "(I)I"⟩ "TreePasses" ∈ q_nst := q_wn2 (i := 82) rfl rfl
theorem w_323 : Cond.static ⟨"TreePasses", "childrenOf", "(I)I"⟩ ∈ q_gd := q_wg2 (i := 83) rfl rfl
theorem w_325 : Cond.fieldLink "TreePasses" 249 "TreePasses" "CHILDREN" "[I" ∈ q_gd := q_wg2 (i := 85) rfl rfl
theorem w_327 : Cond.methodLink "TreePasses$Scroll" 111 ⟨"TreePasses$Scroll", "callSign", "(I)I"⟩ ∈ q_gd := q_wg2 (i := 87) rfl rfl
theorem w_329 : Cond.instanceMethod ⟨"TreePasses$Scroll", "callSign", "(I)I"⟩ ∈ q_gd := q_wg2 (i := 89) rfl rfl
theorem w_331 : Cond.methodLink "TreePasses$Scroll" 87 ⟨"TreePasses$Program", "setTree", "(I[II)V"⟩ ∈ q_gd := q_wg2 (i := 91) rfl rfl
theorem w_332 : Cond.instanceMethod ⟨"TreePasses$Program", "setTree", "(I[II)V"⟩ ∈ q_gd := q_wg2 (i := 92) rfl rfl
theorem w_333 : Cond.selects "TreePasses$Program" ⟨"TreePasses$Program", "setTree", "(I[II)V"⟩ ⟨"TreePasses$Program", "setTree", "(I[II)V"⟩ ∈ q_gd := q_wg2 (i := 93) rfl rfl
theorem w_335 : Cond.methodLinkNest "TreePasses$Program" 46 ⟨"TreePasses", "within", "(II)Z"⟩ "TreePasses" ∈ q_nst := q_wn2 (i := 95) rfl rfl
theorem w_336 : Cond.methodLink "TreePasses$Program" 40 ⟨"java/lang/System", "arraycopy", "(Ljava/lang/Object;ILjava/lang/Object;II)V"⟩ ∈ q_gd := q_wg2 (i := 96) rfl rfl
theorem w_339 : Cond.methodLink "TreePasses$Scroll" 66 ⟨"TreePasses$Scroll", "readKind", "(LTreePasses$Program;)V"⟩ ∈ q_gd := q_wg2 (i := 99) rfl rfl
theorem w_341 : Cond.instanceMethod ⟨"TreePasses$Scroll", "readKind", "(LTreePasses$Program;)V"⟩ ∈ q_gd := q_wg2 (i := 101) rfl rfl
theorem w_343 : Cond.methodLink "TreePasses$Scroll" 91 ⟨"TreePasses$Program", "setKind", "(II)V"⟩ ∈ q_gd := q_wg2 (i := 103) rfl rfl
theorem w_344 : Cond.instanceMethod ⟨"TreePasses$Program", "setKind", "(II)V"⟩ ∈ q_gd := q_wg2 (i := 104) rfl rfl
theorem w_345 : Cond.selects "TreePasses$Program" ⟨"TreePasses$Program", "setKind", "(II)V"⟩ ⟨"TreePasses$Program", "setKind", "(II)V"⟩ ∈ q_gd := q_wg2 (i := 105) rfl rfl
theorem w_347 : Cond.methodLink "TreePasses$Scroll" 69 ⟨"TreePasses$Scroll", "readEntries", "(LTreePasses$Program;)V"⟩ ∈ q_gd := q_wg2 (i := 107) rfl rfl
theorem w_349 : Cond.instanceMethod ⟨"TreePasses$Scroll", "readEntries", "(LTreePasses$Program;)V"⟩ ∈ q_gd := q_wg2 (i := 109) rfl rfl
theorem w_351 : Cond.methodLink "TreePasses$Scroll" 95 ⟨"TreePasses$Scroll", "letter", "()I"⟩ ∈ q_gd := q_wg2 (i := 111) rfl rfl
theorem w_353 : Cond.instanceMethod ⟨"TreePasses$Scroll", "letter", "()I"⟩ ∈ q_gd := q_wg2 (i := 113) rfl rfl
theorem w_355 : Cond.methodLink "TreePasses$Scroll" 101 ⟨"TreePasses$Program", "setEntry", "(IIII)V"⟩ ∈ q_gd := q_wg2 (i := 115) rfl rfl
theorem w_356 : Cond.instanceMethod ⟨"TreePasses$Program", "setEntry", "(IIII)V"⟩ ∈ q_gd := q_wg2 (i := 116) rfl rfl
theorem w_357 : Cond.selects "TreePasses$Program" ⟨"TreePasses$Program", "setEntry", "(IIII)V"⟩ ⟨"TreePasses$Program", "setEntry", "(IIII)V"⟩ ∈ q_gd := q_wg2 (i := 117) rfl rfl
theorem w_359 : Cond.methodLinkNest "TreePasses$Program" 53 ⟨"TreePasses", "hasEntry", "(III)Z"⟩ "TreePasses" ∈ q_nst := q_wn2 (i := 119) rfl rfl
theorem w_360 : Cond.static ⟨"TreePasses", "hasEntry", "(III)Z"⟩ ∈ q_gd := q_wg2 (i := 120) rfl rfl
theorem w_362 : Cond.methodLink "TreePasses" 112 ⟨"TreePasses", "within", "(II)Z"⟩ ∈ q_gd := q_wg2 (i := 122) rfl rfl
theorem w_363 : Cond.methodLink "TreePasses" 177 ⟨"TreePasses", "childrenOf", "(I)I"⟩ ∈ q_gd := q_wg2 (i := 123) rfl rfl
theorem w_364 : Cond.methodLink "TreePasses$Scroll" 55 ⟨"TreePasses$Scroll", "readRule", "([I)V"⟩ ∈ q_gd := q_wg2 (i := 124) rfl rfl
theorem w_366 : Cond.instanceMethod ⟨"TreePasses$Scroll", "readRule", "([I)V"⟩ ∈ q_gd := q_wg2 (i := 126) rfl rfl
theorem w_368 : Cond.methodLink "TreePasses$Scroll" 105 ⟨"TreePasses$Scroll", "sight", "()I"⟩ ∈ q_gd := q_wg2 (i := 128) rfl rfl
theorem w_370 : Cond.instanceMethod ⟨"TreePasses$Scroll", "sight", "()I"⟩ ∈ q_gd := q_wg2 (i := 130) rfl rfl
theorem w_372 : Cond.methodLink "TreePasses$Scroll" 75 ⟨"TreePasses$Program", "setRule", "(I[I)V"⟩ ∈ q_gd := q_wg2 (i := 132) rfl rfl
theorem w_373 : Cond.instanceMethod ⟨"TreePasses$Program", "setRule", "(I[I)V"⟩ ∈ q_gd := q_wg2 (i := 133) rfl rfl
theorem w_374 : Cond.selects "TreePasses$Program" ⟨"TreePasses$Program", "setRule", "(I[I)V"⟩ ⟨"TreePasses$Program", "setRule", "(I[I)V"⟩ ∈ q_gd := q_wg2 (i := 134) rfl rfl
theorem w_376 : Cond.methodLink "TreePasses$Scroll" 52 ⟨"TreePasses$Program", "choose", "()V"⟩ ∈ q_gd := q_wg2 (i := 136) rfl rfl
theorem w_377 : Cond.instanceMethod ⟨"TreePasses$Program", "choose", "()V"⟩ ∈ q_gd := q_wg2 (i := 137) rfl rfl
theorem w_378 : Cond.selects "TreePasses$Program" ⟨"TreePasses$Program", "choose", "()V"⟩ ⟨"TreePasses$Program", "choose", "()V"⟩ ∈ q_gd := q_wg2 (i := 138) rfl rfl
theorem w_380 : Cond.methodLink "TreePasses$Program" 57 ⟨"TreePasses$Program", "cell", "(II)I"⟩ ∈ q_gd := q_wg2 (i := 140) rfl rfl
theorem w_381 : Cond.instanceMethod ⟨"TreePasses$Program", "cell", "(II)I"⟩ ∈ q_gd := q_wg2 (i := 141) rfl rfl
theorem w_382 : Cond.selects "TreePasses$Program" ⟨"TreePasses$Program", "cell", "(II)I"⟩ ⟨"TreePasses$Program", "cell", "(II)I"⟩ ∈ q_gd := q_wg2 (i := 142) rfl rfl
theorem w_384 : Cond.methodLink "TreePasses$Program" 65 ⟨"TreePasses$Program", "offerRule", "(II)V"⟩ ∈ q_gd := q_wg2 (i := 144) rfl rfl
theorem w_386 : Cond.instanceMethod ⟨"TreePasses$Program", "offerRule", "(II)V"⟩ ∈ q_gd := q_wg2 (i := 146) rfl rfl
theorem w_388 : Cond.methodLink "TreePasses$Program" 69 ⟨"TreePasses$Program", "choiceAt", "(IIII)I"⟩ ∈ q_gd := q_wg2 (i := 148) rfl rfl
theorem w_389 : Cond.static ⟨"TreePasses$Program", "choiceAt", "(IIII)I"⟩ ∈ q_gd := q_wg2 (i := 149) rfl rfl
theorem w_391 : Cond.methodLink "TreePasses$Program" 73 ⟨"TreePasses$Program", "kindOf", "(I)I"⟩ ∈ q_gd := q_wg2 (i := 151) rfl rfl
theorem w_392 : Cond.instanceMethod ⟨"TreePasses$Program", "kindOf", "(I)I"⟩ ∈ q_gd := q_wg2 (i := 152) rfl rfl
theorem w_393 : Cond.selects "TreePasses$Program" ⟨"TreePasses$Program", "kindOf", "(I)I"⟩ ⟨"TreePasses$Program", "kindOf", "(I)I"⟩ ∈ q_gd := q_wg2 (i := 153) rfl rfl
theorem w_395 : Cond.methodLink "TreePasses" 96 ⟨"TreePasses$Scroll", "clear", "()V"⟩ ∈ q_gd := q_wg2 (i := 155) rfl rfl
theorem w_396 : Cond.instanceMethod ⟨"TreePasses$Scroll", "clear", "()V"⟩ ∈ q_gd := q_wg2 (i := 156) rfl rfl
theorem w_397 : Cond.selects "TreePasses$Scroll" ⟨"TreePasses$Scroll", "clear", "()V"⟩ ⟨"TreePasses$Scroll", "clear", "()V"⟩ ∈ q_gd := q_wg2 (i := 157) rfl rfl
theorem w_399 : Cond.fieldLink "TreePasses" 12 "TreePasses" "scroll" "LTreePasses$Scroll;" ∈ q_gd := q_wg2 (i := 159) rfl rfl
theorem w_400 : Cond.fieldLink "TreePasses" 19 "TreePasses" "now" "LTreePasses$Program;" ∈ q_gd := q_wg2 (i := 160) rfl rfl
theorem w_401 : Cond.fieldLink "TreePasses" 23 "TreePasses" "draft" "LTreePasses$Program;" ∈ q_gd := q_wg2 (i := 161) rfl rfl
theorem w_402 : Cond.fieldLink "TreePasses" 31 "TreePasses" "past" "LTreePasses$Shelf;" ∈ q_gd := q_wg2 (i := 162) rfl rfl
theorem w_403 : Cond.fieldLink "TreePasses" 35 "TreePasses" "kept" "LTreePasses$Shelf;" ∈ q_gd := q_wg2 (i := 163) rfl rfl
theorem w_404 : Cond.fieldLink "TreePasses" 41 "TreePasses" "ground" "LTreePasses$Standing;" ∈ q_gd := q_wg2 (i := 164) rfl rfl
theorem w_405 : Cond.fieldLink "TreePasses" 45 "TreePasses" "between" "LTreePasses$Standing;" ∈ q_gd := q_wg2 (i := 165) rfl rfl
theorem w_406 : Cond.fieldLink "TreePasses" 51 "TreePasses" "unmade" "LTreePasses$Unmade;" ∈ q_gd := q_wg2 (i := 166) rfl rfl
theorem w_407 : Cond.fieldLink "TreePasses" 58 "TreePasses" "walk" "LTreePasses$Walk;" ∈ q_gd := q_wg2 (i := 167) rfl rfl
theorem w_408 : Cond.fieldLink "TreePasses" 65 "TreePasses" "firstCensus" "LTreePasses$Census;" ∈ q_gd := q_wg2 (i := 168) rfl rfl
theorem w_409 : Cond.fieldLink "TreePasses" 69 "TreePasses" "secondCensus" "LTreePasses$Census;" ∈ q_gd := q_wg2 (i := 169) rfl rfl
theorem w_410 : Cond.fieldLink "TreePasses" 72 "TreePasses" "row" "[I" ∈ q_gd := q_wg2 (i := 170) rfl rfl
theorem w_437 : Cond.methodLink "TreePassesLaw" 13 ⟨"TreePasses", "write", "(I)I"⟩ ∈ q_gd := q_wg2 (i := 197) rfl rfl
theorem w_438 : Cond.instanceMethod ⟨"TreePasses", "write", "(I)I"⟩ ∈ q_gd := q_wg2 (i := 198) rfl rfl
theorem w_439 : Cond.selects "TreePasses" ⟨"TreePasses", "write", "(I)I"⟩ ⟨"TreePasses", "write", "(I)I"⟩ ∈ q_gd := q_wg2 (i := 199) rfl rfl
theorem w_441 : Cond.methodLink "TreePasses" 99 ⟨"TreePasses$Scroll", "length", "()I"⟩ ∈ q_gd := q_wg2 (i := 201) rfl rfl
theorem w_442 : Cond.instanceMethod ⟨"TreePasses$Scroll", "length", "()I"⟩ ∈ q_gd := q_wg2 (i := 202) rfl rfl
theorem w_443 : Cond.selects "TreePasses$Scroll" ⟨"TreePasses$Scroll", "length", "()I"⟩ ⟨"TreePasses$Scroll", "length", "()I"⟩ ∈ q_gd := q_wg2 (i := 203) rfl rfl
theorem w_445 : Cond.methodLink "TreePassesLaw" 18 ⟨"TreePasses", "wipe", "()I"⟩ ∈ q_gd := q_wg2 (i := 205) rfl rfl
theorem w_446 : Cond.instanceMethod ⟨"TreePasses", "wipe", "()I"⟩ ∈ q_gd := q_wg2 (i := 206) rfl rfl
theorem w_447 : Cond.selects "TreePasses" ⟨"TreePasses", "wipe", "()I"⟩ ⟨"TreePasses", "wipe", "()I"⟩ ∈ q_gd := q_wg2 (i := 207) rfl rfl
theorem w_449 : Cond.methodLink "TreePassesLaw" 23 ⟨"TreePasses", "fault", "()I"⟩ ∈ q_gd := q_wg2 (i := 209) rfl rfl
theorem w_450 : Cond.instanceMethod ⟨"TreePasses", "fault", "()I"⟩ ∈ q_gd := q_wg2 (i := 210) rfl rfl
theorem w_451 : Cond.selects "TreePasses" ⟨"TreePasses", "fault", "()I"⟩ ⟨"TreePasses", "fault", "()I"⟩ ∈ q_gd := q_wg2 (i := 211) rfl rfl
theorem w_453 : Cond.methodLink "TreePassesLaw" 27 ⟨"TreePasses", "lay", "()I"⟩ ∈ q_gd := q_wg2 (i := 213) rfl rfl
theorem w_454 : Cond.instanceMethod ⟨"TreePasses", "lay", "()I"⟩ ∈ q_gd := q_wg2 (i := 214) rfl rfl
theorem w_455 : Cond.selects "TreePasses" ⟨"TreePasses", "lay", "()I"⟩ ⟨"TreePasses", "lay", "()I"⟩ ∈ q_gd := q_wg2 (i := 215) rfl rfl
theorem w_457 : Cond.methodLink "TreePasses" 104 ⟨"TreePasses$Program", "copy", "(LTreePasses$Program;)V"⟩ ∈ q_gd := q_wg2 (i := 217) rfl rfl
theorem w_458 : Cond.instanceMethod ⟨"TreePasses$Program", "copy", "(LTreePasses$Program;)V"⟩ ∈ q_gd := q_wg2 (i := 218) rfl rfl
theorem w_459 : Cond.selects "TreePasses$Program" ⟨"TreePasses$Program", "copy", "(LTreePasses$Program;)V"⟩ ⟨"TreePasses$Program", "copy", "(LTreePasses$Program;)V"⟩ ∈ q_gd := q_wg2 (i := 219) rfl rfl
theorem w_461 : Cond.methodLink "TreePasses" 108 ⟨"TreePasses$Shelf", "clear", "()V"⟩ ∈ q_gd := q_wg2 (i := 221) rfl rfl
theorem w_462 : Cond.instanceMethod ⟨"TreePasses$Shelf", "clear", "()V"⟩ ∈ q_gd := q_wg2 (i := 222) rfl rfl
theorem w_463 : Cond.selects "TreePasses$Shelf" ⟨"TreePasses$Shelf", "clear", "()V"⟩ ⟨"TreePasses$Shelf", "clear", "()V"⟩ ∈ q_gd := q_wg2 (i := 223) rfl rfl
theorem w_465 : Cond.methodLink "TreePasses" 109 ⟨"TreePasses", "forgetCensus", "()V"⟩ ∈ q_gd := q_wg2 (i := 225) rfl rfl
theorem w_467 : Cond.instanceMethod ⟨"TreePasses", "forgetCensus", "()V"⟩ ∈ q_gd := q_wg2 (i := 227) rfl rfl
theorem w_469 : Cond.methodLink "TreePasses" 255 ⟨"TreePasses$Census", "forget", "()V"⟩ ∈ q_gd := q_wg2 (i := 229) rfl rfl
theorem w_470 : Cond.instanceMethod ⟨"TreePasses$Census", "forget", "()V"⟩ ∈ q_gd := q_wg2 (i := 230) rfl rfl
theorem w_471 : Cond.selects "TreePasses$Census" ⟨"TreePasses$Census", "forget", "()V"⟩ ⟨"TreePasses$Census", "forget", "()V"⟩ ∈ q_gd := q_wg2 (i := 231) rfl rfl
theorem w_473 : Cond.methodLink "TreePassesLaw" 31 ⟨"TreePasses", "tree", "(II)I"⟩ ∈ q_gd := q_wg2 (i := 233) rfl rfl
theorem w_474 : Cond.instanceMethod ⟨"TreePasses", "tree", "(II)I"⟩ ∈ q_gd := q_wg2 (i := 234) rfl rfl
theorem w_475 : Cond.selects "TreePasses" ⟨"TreePasses", "tree", "(II)I"⟩ ⟨"TreePasses", "tree", "(II)I"⟩ ∈ q_gd := q_wg2 (i := 235) rfl rfl
theorem w_477 : Cond.methodLink "TreePasses" 116 ⟨"TreePasses$Program", "nodesOf", "(I)I"⟩ ∈ q_gd := q_wg2 (i := 237) rfl rfl
theorem w_478 : Cond.instanceMethod ⟨"TreePasses$Program", "nodesOf", "(I)I"⟩ ∈ q_gd := q_wg2 (i := 238) rfl rfl
theorem w_479 : Cond.selects "TreePasses$Program" ⟨"TreePasses$Program", "nodesOf", "(I)I"⟩ ⟨"TreePasses$Program", "nodesOf", "(I)I"⟩ ∈ q_gd := q_wg2 (i := 239) rfl rfl
theorem w_481 : Cond.methodLink "TreePasses" 120 ⟨"TreePasses$Program", "hasNode", "(II)Z"⟩ ∈ q_gd := q_wg3 (i := 1) rfl rfl
theorem w_482 : Cond.instanceMethod ⟨"TreePasses$Program", "hasNode", "(II)Z"⟩ ∈ q_gd := q_wg3 (i := 2) rfl rfl
theorem w_483 : Cond.selects "TreePasses$Program" ⟨"TreePasses$Program", "hasNode", "(II)Z"⟩ ⟨"TreePasses$Program", "hasNode", "(II)Z"⟩ ∈ q_gd := q_wg3 (i := 3) rfl rfl
theorem w_485 : Cond.methodLink "TreePasses" 123 ⟨"TreePasses$Program", "letterOf", "(II)I"⟩ ∈ q_gd := q_wg3 (i := 5) rfl rfl
theorem w_486 : Cond.instanceMethod ⟨"TreePasses$Program", "letterOf", "(II)I"⟩ ∈ q_gd := q_wg3 (i := 6) rfl rfl
theorem w_487 : Cond.selects "TreePasses$Program" ⟨"TreePasses$Program", "letterOf", "(II)I"⟩ ⟨"TreePasses$Program", "letterOf", "(II)I"⟩ ∈ q_gd := q_wg3 (i := 7) rfl rfl
theorem w_489 : Cond.methodLink "TreePasses$Program" 50 ⟨"TreePasses$Program", "hasNode", "(II)Z"⟩ ∈ q_gd := q_wg3 (i := 9) rfl rfl
theorem w_490 : Cond.methodLink "TreePassesLaw" 36 ⟨"TreePasses", "value", "(III)I"⟩ ∈ q_gd := q_wg3 (i := 10) rfl rfl
theorem w_491 : Cond.instanceMethod ⟨"TreePasses", "value", "(III)I"⟩ ∈ q_gd := q_wg3 (i := 11) rfl rfl
theorem w_492 : Cond.selects "TreePasses" ⟨"TreePasses", "value", "(III)I"⟩ ⟨"TreePasses", "value", "(III)I"⟩ ∈ q_gd := q_wg3 (i := 12) rfl rfl
theorem w_494 : Cond.methodLink "TreePasses" 127 ⟨"TreePasses$Standing", "takeTree", "(LTreePasses$Program;II)V"⟩ ∈ q_gd := q_wg3 (i := 14) rfl rfl
theorem w_495 : Cond.instanceMethod ⟨"TreePasses$Standing", "takeTree", "(LTreePasses$Program;II)V"⟩ ∈ q_gd := q_wg3 (i := 15) rfl rfl
theorem w_496 : Cond.selects "TreePasses$Standing" ⟨"TreePasses$Standing", "takeTree", "(LTreePasses$Program;II)V"⟩ ⟨"TreePasses$Standing", "takeTree", "(LTreePasses$Program;II)V"⟩ ∈ q_gd := q_wg3 (i := 16) rfl rfl
theorem w_498 : Cond.methodLink "TreePasses$Standing" 21 ⟨"TreePasses$Program", "nodesOf", "(I)I"⟩ ∈ q_gd := q_wg3 (i := 18) rfl rfl
theorem w_499 : Cond.methodLink "TreePasses$Standing" 27 ⟨"java/lang/Math", "min", "(II)I"⟩ ∈ q_gd := q_wg3 (i := 19) rfl rfl
theorem w_502 : Cond.methodLink "TreePasses$Standing" 37 ⟨"TreePasses$Program", "letterOf", "(II)I"⟩ ∈ q_gd := q_wg3 (i := 22) rfl rfl
theorem w_503 : Cond.methodLink "TreePasses$Standing" 40 ⟨"TreePasses$Standing", "weigh", "(LTreePasses$Program;I)V"⟩ ∈ q_gd := q_wg3 (i := 23) rfl rfl
theorem w_505 : Cond.instanceMethod ⟨"TreePasses$Standing", "weigh", "(LTreePasses$Program;I)V"⟩ ∈ q_gd := q_wg3 (i := 25) rfl rfl
theorem w_507 : Cond.methodLinkNest "TreePasses$Standing" 53 ⟨"TreePasses", "childrenOf", "(I)I"⟩ "TreePasses" ∈ q_nst := q_wn3 (i := 27) rfl rfl
theorem w_508 : Cond.methodLinkNest "TreePasses$Standing" 56 ⟨"TreePasses", "within", "(II)Z"⟩ "TreePasses" ∈ q_nst := q_wn3 (i := 28) rfl rfl
theorem w_509 : Cond.methodLink "TreePasses$Standing" 60 ⟨"TreePasses$Program", "entry", "(III)I"⟩ ∈ q_gd := q_wg3 (i := 29) rfl rfl
theorem w_510 : Cond.instanceMethod ⟨"TreePasses$Program", "entry", "(III)I"⟩ ∈ q_gd := q_wg3 (i := 30) rfl rfl
theorem w_511 : Cond.selects "TreePasses$Program" ⟨"TreePasses$Program", "entry", "(III)I"⟩ ⟨"TreePasses$Program", "entry", "(III)I"⟩ ∈ q_gd := q_wg3 (i := 31) rfl rfl
theorem w_513 : Cond.methodLink "TreePasses" 131 ⟨"TreePasses$Standing", "sightAt", "(I)I"⟩ ∈ q_gd := q_wg3 (i := 33) rfl rfl
theorem w_514 : Cond.instanceMethod ⟨"TreePasses$Standing", "sightAt", "(I)I"⟩ ∈ q_gd := q_wg3 (i := 34) rfl rfl
theorem w_515 : Cond.selects "TreePasses$Standing" ⟨"TreePasses$Standing", "sightAt", "(I)I"⟩ ⟨"TreePasses$Standing", "sightAt", "(I)I"⟩ ∈ q_gd := q_wg3 (i := 35) rfl rfl
theorem w_517 : Cond.methodLink "TreePassesLaw" 41 ⟨"TreePasses", "table", "(III)I"⟩ ∈ q_gd := q_wg3 (i := 37) rfl rfl
theorem w_518 : Cond.instanceMethod ⟨"TreePasses", "table", "(III)I"⟩ ∈ q_gd := q_wg3 (i := 38) rfl rfl
theorem w_519 : Cond.selects "TreePasses" ⟨"TreePasses", "table", "(III)I"⟩ ⟨"TreePasses", "table", "(III)I"⟩ ∈ q_gd := q_wg3 (i := 39) rfl rfl
theorem w_521 : Cond.methodLink "TreePasses" 134 ⟨"TreePasses", "hasEntry", "(III)Z"⟩ ∈ q_gd := q_wg3 (i := 41) rfl rfl
theorem w_522 : Cond.methodLink "TreePasses" 138 ⟨"TreePasses$Program", "entry", "(III)I"⟩ ∈ q_gd := q_wg3 (i := 42) rfl rfl
theorem w_523 : Cond.methodLink "TreePassesLaw" 45 ⟨"TreePasses", "rule", "(II)I"⟩ ∈ q_gd := q_wg3 (i := 43) rfl rfl
theorem w_524 : Cond.instanceMethod ⟨"TreePasses", "rule", "(II)I"⟩ ∈ q_gd := q_wg3 (i := 44) rfl rfl
theorem w_525 : Cond.selects "TreePasses" ⟨"TreePasses", "rule", "(II)I"⟩ ⟨"TreePasses", "rule", "(II)I"⟩ ∈ q_gd := q_wg3 (i := 45) rfl rfl
theorem w_527 : Cond.methodLink "TreePasses" 142 ⟨"TreePasses$Program", "hasRule", "(I)Z"⟩ ∈ q_gd := q_wg3 (i := 47) rfl rfl
theorem w_528 : Cond.instanceMethod ⟨"TreePasses$Program", "hasRule", "(I)Z"⟩ ∈ q_gd := q_wg3 (i := 48) rfl rfl
theorem w_529 : Cond.selects "TreePasses$Program" ⟨"TreePasses$Program", "hasRule", "(I)Z"⟩ ⟨"TreePasses$Program", "hasRule", "(I)Z"⟩ ∈ q_gd := q_wg3 (i := 49) rfl rfl
theorem w_531 : Cond.methodLink "TreePasses" 145 ⟨"TreePasses$Program", "cell", "(II)I"⟩ ∈ q_gd := q_wg3 (i := 51) rfl rfl
theorem w_532 : Cond.methodLink "TreePassesLaw" 49 ⟨"TreePasses", "piece", "(II)I"⟩ ∈ q_gd := q_wg3 (i := 52) rfl rfl
theorem w_533 : Cond.instanceMethod ⟨"TreePasses", "piece", "(II)I"⟩ ∈ q_gd := q_wg3 (i := 53) rfl rfl
theorem w_534 : Cond.selects "TreePasses" ⟨"TreePasses", "piece", "(II)I"⟩ ⟨"TreePasses", "piece", "(II)I"⟩ ∈ q_gd := q_wg3 (i := 54) rfl rfl
theorem w_536 : Cond.methodLink "TreePasses" 148 ⟨"TreePasses$Program", "pieceOf", "(II)I"⟩ ∈ q_gd := q_wg3 (i := 56) rfl rfl
theorem w_537 : Cond.instanceMethod ⟨"TreePasses$Program", "pieceOf", "(II)I"⟩ ∈ q_gd := q_wg3 (i := 57) rfl rfl
theorem w_538 : Cond.selects "TreePasses$Program" ⟨"TreePasses$Program", "pieceOf", "(II)I"⟩ ⟨"TreePasses$Program", "pieceOf", "(II)I"⟩ ∈ q_gd := q_wg3 (i := 58) rfl rfl
theorem w_540 : Cond.methodLink "TreePassesLaw" 53 ⟨"TreePasses", "enter", "(I)I"⟩ ∈ q_gd := q_wg3 (i := 60) rfl rfl
theorem w_541 : Cond.instanceMethod ⟨"TreePasses", "enter", "(I)I"⟩ ∈ q_gd := q_wg3 (i := 61) rfl rfl
theorem w_542 : Cond.selects "TreePasses" ⟨"TreePasses", "enter", "(I)I"⟩ ⟨"TreePasses", "enter", "(I)I"⟩ ∈ q_gd := q_wg3 (i := 62) rfl rfl
theorem w_544 : Cond.methodLink "TreePasses" 151 ⟨"TreePasses$Scroll", "readRuleAlone", "([I)I"⟩ ∈ q_gd := q_wg3 (i := 64) rfl rfl
theorem w_545 : Cond.instanceMethod ⟨"TreePasses$Scroll", "readRuleAlone", "([I)I"⟩ ∈ q_gd := q_wg3 (i := 65) rfl rfl
theorem w_546 : Cond.selects "TreePasses$Scroll" ⟨"TreePasses$Scroll", "readRuleAlone", "([I)I"⟩ ⟨"TreePasses$Scroll", "readRuleAlone", "([I)I"⟩ ∈ q_gd := q_wg3 (i := 66) rfl rfl
theorem w_548 : Cond.methodLink "TreePasses" 155 ⟨"TreePasses$Shelf", "put", "(LTreePasses$Program;)V"⟩ ∈ q_gd := q_wg3 (i := 68) rfl rfl
theorem w_549 : Cond.instanceMethod ⟨"TreePasses$Shelf", "put", "(LTreePasses$Program;)V"⟩ ∈ q_gd := q_wg3 (i := 69) rfl rfl
theorem w_550 : Cond.selects "TreePasses$Shelf" ⟨"TreePasses$Shelf", "put", "(LTreePasses$Program;)V"⟩ ⟨"TreePasses$Shelf", "put", "(LTreePasses$Program;)V"⟩ ∈ q_gd := q_wg3 (i := 70) rfl rfl
theorem w_552 : Cond.methodLink "TreePasses$Shelf" 26 ⟨"TreePasses$Shelf", "placeOf", "(I)I"⟩ ∈ q_gd := q_wg3 (i := 72) rfl rfl
theorem w_554 : Cond.instanceMethod ⟨"TreePasses$Shelf", "placeOf", "(I)I"⟩ ∈ q_gd := q_wg3 (i := 74) rfl rfl
theorem w_556 : Cond.methodLinkNest "TreePasses$Shelf" 33 ⟨"TreePasses", "within", "(II)Z"⟩ "TreePasses" ∈ q_nst := q_wn3 (i := 76) rfl rfl
theorem w_557 : Cond.methodLink "TreePasses$Shelf" 39 ⟨"TreePasses$Program", "copy", "(LTreePasses$Program;)V"⟩ ∈ q_gd := q_wg3 (i := 77) rfl rfl
theorem w_558 : Cond.methodLink "TreePasses" 158 ⟨"TreePasses$Program", "setRule", "(I[I)V"⟩ ∈ q_gd := q_wg3 (i := 78) rfl rfl
theorem w_559 : Cond.methodLink "TreePasses" 162 ⟨"TreePasses", "changed", "()V"⟩ ∈ q_gd := q_wg3 (i := 79) rfl rfl
theorem w_561 : Cond.instanceMethod ⟨"TreePasses", "changed", "()V"⟩ ∈ q_gd := q_wg3 (i := 81) rfl rfl
theorem w_563 : Cond.methodLink "TreePasses" 252 ⟨"TreePasses$Program", "choose", "()V"⟩ ∈ q_gd := q_wg3 (i := 83) rfl rfl
theorem w_564 : Cond.methodLink "TreePassesLaw" 57 ⟨"TreePasses", "cut", "(I)I"⟩ ∈ q_gd := q_wg3 (i := 84) rfl rfl
theorem w_565 : Cond.instanceMethod ⟨"TreePasses", "cut", "(I)I"⟩ ∈ q_gd := q_wg3 (i := 85) rfl rfl
theorem w_566 : Cond.selects "TreePasses" ⟨"TreePasses", "cut", "(I)I"⟩ ⟨"TreePasses", "cut", "(I)I"⟩ ∈ q_gd := q_wg3 (i := 86) rfl rfl
theorem w_568 : Cond.methodLink "TreePasses" 165 ⟨"TreePasses$Program", "removeRule", "(I)V"⟩ ∈ q_gd := q_wg3 (i := 88) rfl rfl
theorem w_569 : Cond.instanceMethod ⟨"TreePasses$Program", "removeRule", "(I)V"⟩ ∈ q_gd := q_wg3 (i := 89) rfl rfl
theorem w_570 : Cond.selects "TreePasses$Program" ⟨"TreePasses$Program", "removeRule", "(I)V"⟩ ⟨"TreePasses$Program", "removeRule", "(I)V"⟩ ∈ q_gd := q_wg3 (i := 90) rfl rfl
theorem w_572 : Cond.methodLink "TreePasses$Program" 61 ⟨"TreePasses$Program", "hasRule", "(I)Z"⟩ ∈ q_gd := q_wg3 (i := 92) rfl rfl
theorem w_573 : Cond.methodLink "TreePassesLaw" 61 ⟨"TreePasses", "shift", "(II)I"⟩ ∈ q_gd := q_wg3 (i := 93) rfl rfl
theorem w_574 : Cond.instanceMethod ⟨"TreePasses", "shift", "(II)I"⟩ ∈ q_gd := q_wg3 (i := 94) rfl rfl
theorem w_575 : Cond.selects "TreePasses" ⟨"TreePasses", "shift", "(II)I"⟩ ⟨"TreePasses", "shift", "(II)I"⟩ ∈ q_gd := q_wg3 (i := 95) rfl rfl
theorem w_577 : Cond.methodLink "TreePasses" 168 ⟨"TreePasses$Program", "moveRule", "(II[I)V"⟩ ∈ q_gd := q_wg3 (i := 97) rfl rfl
theorem w_578 : Cond.instanceMethod ⟨"TreePasses$Program", "moveRule", "(II[I)V"⟩ ∈ q_gd := q_wg3 (i := 98) rfl rfl
theorem w_579 : Cond.selects "TreePasses$Program" ⟨"TreePasses$Program", "moveRule", "(II[I)V"⟩ ⟨"TreePasses$Program", "moveRule", "(II[I)V"⟩ ∈ q_gd := q_wg3 (i := 99) rfl rfl
theorem w_581 : Cond.methodLink "TreePasses" 172 ⟨"java/lang/Math", "abs", "(I)I"⟩ ∈ q_gd := q_wg3 (i := 101) rfl rfl
theorem w_584 : Cond.methodLink "TreePassesLaw" 65 ⟨"TreePasses", "leaf", "(III)I"⟩ ∈ q_gd := q_wg3 (i := 104) rfl rfl
theorem w_585 : Cond.instanceMethod ⟨"TreePasses", "leaf", "(III)I"⟩ ∈ q_gd := q_wg3 (i := 105) rfl rfl
theorem w_586 : Cond.selects "TreePasses" ⟨"TreePasses", "leaf", "(III)I"⟩ ⟨"TreePasses", "leaf", "(III)I"⟩ ∈ q_gd := q_wg3 (i := 106) rfl rfl
theorem w_588 : Cond.methodLink "TreePasses" 180 ⟨"TreePasses$Program", "setLetter", "(III)V"⟩ ∈ q_gd := q_wg3 (i := 108) rfl rfl
theorem w_589 : Cond.instanceMethod ⟨"TreePasses$Program", "setLetter", "(III)V"⟩ ∈ q_gd := q_wg3 (i := 109) rfl rfl
theorem w_590 : Cond.selects "TreePasses$Program" ⟨"TreePasses$Program", "setLetter", "(III)V"⟩ ⟨"TreePasses$Program", "setLetter", "(III)V"⟩ ∈ q_gd := q_wg3 (i := 110) rfl rfl
theorem w_592 : Cond.methodLink "TreePassesLaw" 69 ⟨"TreePasses", "flip", "(III)I"⟩ ∈ q_gd := q_wg3 (i := 112) rfl rfl
theorem w_593 : Cond.instanceMethod ⟨"TreePasses", "flip", "(III)I"⟩ ∈ q_gd := q_wg3 (i := 113) rfl rfl
theorem w_594 : Cond.selects "TreePasses" ⟨"TreePasses", "flip", "(III)I"⟩ ⟨"TreePasses", "flip", "(III)I"⟩ ∈ q_gd := q_wg3 (i := 114) rfl rfl
theorem w_596 : Cond.methodLink "TreePasses" 184 ⟨"TreePasses$Program", "setEntry", "(IIII)V"⟩ ∈ q_gd := q_wg3 (i := 116) rfl rfl
theorem w_597 : Cond.methodLink "TreePassesLaw" 73 ⟨"TreePasses", "rename", "(II)I"⟩ ∈ q_gd := q_wg3 (i := 117) rfl rfl
theorem w_598 : Cond.instanceMethod ⟨"TreePasses", "rename", "(II)I"⟩ ∈ q_gd := q_wg3 (i := 118) rfl rfl
theorem w_599 : Cond.selects "TreePasses" ⟨"TreePasses", "rename", "(II)I"⟩ ⟨"TreePasses", "rename", "(II)I"⟩ ∈ q_gd := q_wg3 (i := 119) rfl rfl
theorem w_601 : Cond.methodLink "TreePasses" 188 ⟨"TreePasses$Program", "kindOf", "(I)I"⟩ ∈ q_gd := q_wg3 (i := 121) rfl rfl
theorem w_602 : Cond.methodLink "TreePasses" 191 ⟨"TreePasses$Program", "setKind", "(II)V"⟩ ∈ q_gd := q_wg3 (i := 122) rfl rfl
theorem w_603 : Cond.methodLink "TreePassesLaw" 77 ⟨"TreePasses", "undo", "()I"⟩ ∈ q_gd := q_wg3 (i := 123) rfl rfl
theorem w_604 : Cond.instanceMethod ⟨"TreePasses", "undo", "()I"⟩ ∈ q_gd := q_wg3 (i := 124) rfl rfl
theorem w_605 : Cond.selects "TreePasses" ⟨"TreePasses", "undo", "()I"⟩ ⟨"TreePasses", "undo", "()I"⟩ ∈ q_gd := q_wg3 (i := 125) rfl rfl
theorem w_607 : Cond.methodLink "TreePasses" 198 ⟨"TreePasses$Shelf", "take", "(LTreePasses$Program;)V"⟩ ∈ q_gd := q_wg3 (i := 127) rfl rfl
theorem w_608 : Cond.instanceMethod ⟨"TreePasses$Shelf", "take", "(LTreePasses$Program;)V"⟩ ∈ q_gd := q_wg3 (i := 128) rfl rfl
theorem w_609 : Cond.selects "TreePasses$Shelf" ⟨"TreePasses$Shelf", "take", "(LTreePasses$Program;)V"⟩ ⟨"TreePasses$Shelf", "take", "(LTreePasses$Program;)V"⟩ ∈ q_gd := q_wg3 (i := 129) rfl rfl
theorem w_611 : Cond.methodLink "TreePassesLaw" 81 ⟨"TreePasses", "out", "(IIII)I"⟩ ∈ q_gd := q_wg3 (i := 131) rfl rfl
theorem w_612 : Cond.instanceMethod ⟨"TreePasses", "out", "(IIII)I"⟩ ∈ q_gd := q_wg3 (i := 132) rfl rfl
theorem w_613 : Cond.selects "TreePasses" ⟨"TreePasses", "out", "(IIII)I"⟩ ⟨"TreePasses", "out", "(IIII)I"⟩ ∈ q_gd := q_wg3 (i := 133) rfl rfl
theorem w_615 : Cond.methodLink "TreePasses" 201 ⟨"TreePasses$Walk", "go", "(LTreePasses$Program;LTreePasses$Ground;II)I"⟩ ∈ q_gd := q_wg3 (i := 135) rfl rfl
theorem w_616 : Cond.instanceMethod ⟨"TreePasses$Walk", "go", "(LTreePasses$Program;LTreePasses$Ground;II)I"⟩ ∈ q_gd := q_wg3 (i := 136) rfl rfl
theorem w_617 : Cond.selects "TreePasses$Walk" ⟨"TreePasses$Walk", "go", "(LTreePasses$Program;LTreePasses$Ground;II)I"⟩ ⟨"TreePasses$Walk", "go", "(LTreePasses$Program;LTreePasses$Ground;II)I"⟩ ∈ q_gd := q_wg3 (i := 137) rfl rfl
theorem w_619 : Cond.methodLink "TreePasses$Walk" 27 ⟨"java/util/Arrays", "fill", "([II)V"⟩ ∈ q_gd := q_wg3 (i := 139) rfl rfl
theorem w_620 : Cond.methodLink "TreePasses$Walk" 40 ⟨"TreePasses$Ground", "topPlace", "(LTreePasses$Program;)I"⟩ ∈ q_gd := q_wg3 (i := 140) rfl rfl
theorem w_621 : Cond.declares ⟨"TreePasses$Ground", "topPlace", "(LTreePasses$Program;)I"⟩ ∈ q_nst := q_wn3 (i := 141) rfl rfl
theorem w_622 : Cond.sameMethod "TreePasses$Ground" "TreePasses$Ground" "topPlace" "(LTreePasses$Program;)I" ∈ q_gd := q_wg3 (i := 142) rfl rfl
theorem w_623 : Cond.selects "TreePasses$Standing" ⟨"TreePasses$Ground", "topPlace", "(LTreePasses$Program;)I"⟩ ⟨"TreePasses$Standing", "topPlace", "(LTreePasses$Program;)I"⟩ ∈ q_gd := q_wg3 (i := 143) rfl rfl
theorem w_624 : Cond.instanceMethod ⟨"TreePasses$Standing", "topPlace", "(LTreePasses$Program;)I"⟩ ∈ q_gd := q_wg3 (i := 144) rfl rfl
theorem w_626 : Cond.selects "TreePasses$Unmade" ⟨"TreePasses$Ground", "topPlace", "(LTreePasses$Program;)I"⟩ ⟨"TreePasses$Unmade", "topPlace", "(LTreePasses$Program;)I"⟩ ∈ q_gd := q_wg3 (i := 146) rfl rfl
theorem w_627 : Cond.instanceMethod ⟨"TreePasses$Unmade", "topPlace", "(LTreePasses$Program;)I"⟩ ∈ q_gd := q_wg3 (i := 147) rfl rfl
theorem w_629 : Cond.methodLink "TreePasses$Unmade" 22 ⟨"TreePasses$Unmade", "make", "(LTreePasses$Program;II)I"⟩ ∈ q_gd := q_wg3 (i := 149) rfl rfl
theorem w_631 : Cond.instanceMethod ⟨"TreePasses$Unmade", "make", "(LTreePasses$Program;II)I"⟩ ∈ q_gd := q_wg3 (i := 151) rfl rfl
theorem w_633 : Cond.methodLink "TreePasses$Unmade" 49 ⟨"TreePasses$Standing", "letterAt", "(LTreePasses$Program;I)I"⟩ ∈ q_gd := q_wg3 (i := 153) rfl rfl
theorem w_634 : Cond.instanceMethod ⟨"TreePasses$Standing", "letterAt", "(LTreePasses$Program;I)I"⟩ ∈ q_gd := q_wg3 (i := 154) rfl rfl
theorem w_635 : Cond.selects "TreePasses$Standing" ⟨"TreePasses$Standing", "letterAt", "(LTreePasses$Program;I)I"⟩ ⟨"TreePasses$Standing", "letterAt", "(LTreePasses$Program;I)I"⟩ ∈ q_gd := q_wg3 (i := 155) rfl rfl
theorem w_637 : Cond.methodLink "TreePasses$Unmade" 62 ⟨"TreePasses$Standing", "sightAt", "(I)I"⟩ ∈ q_gd := q_wg3 (i := 157) rfl rfl
theorem w_638 : Cond.methodLink "TreePasses$Unmade" 65 ⟨"TreePasses$Program", "chosenRule", "(IIII)I"⟩ ∈ q_gd := q_wg3 (i := 158) rfl rfl
theorem w_639 : Cond.instanceMethod ⟨"TreePasses$Program", "chosenRule", "(IIII)I"⟩ ∈ q_gd := q_wg3 (i := 159) rfl rfl
theorem w_640 : Cond.selects "TreePasses$Program" ⟨"TreePasses$Program", "chosenRule", "(IIII)I"⟩ ⟨"TreePasses$Program", "chosenRule", "(IIII)I"⟩ ∈ q_gd := q_wg3 (i := 160) rfl rfl
theorem w_642 : Cond.methodLink "TreePasses$Unmade" 36 ⟨"TreePasses$Program", "pieceOf", "(II)I"⟩ ∈ q_gd := q_wg3 (i := 162) rfl rfl
theorem w_643 : Cond.methodLink "TreePasses$Unmade" 45 ⟨"TreePasses$Unmade", "placeOf", "(III)I"⟩ ∈ q_gd := q_wg3 (i := 163) rfl rfl
theorem w_644 : Cond.static ⟨"TreePasses$Unmade", "placeOf", "(III)I"⟩ ∈ q_gd := q_wg3 (i := 164) rfl rfl
theorem w_646 : Cond.methodLinkNest "TreePasses$Unmade" 56 ⟨"TreePasses", "stateCalled", "(I)I"⟩ "TreePasses" ∈ q_nst := q_wn3 (i := 166) rfl rfl
theorem w_647 : Cond.static ⟨"TreePasses", "stateCalled", "(I)I"⟩ ∈ q_gd := q_wg3 (i := 167) rfl rfl
theorem w_649 : Cond.methodLink "TreePasses$Unmade" 53 ⟨"TreePasses$Program", "childCalled", "(III)I"⟩ ∈ q_gd := q_wg3 (i := 169) rfl rfl
theorem w_650 : Cond.instanceMethod ⟨"TreePasses$Program", "childCalled", "(III)I"⟩ ∈ q_gd := q_wg3 (i := 170) rfl rfl
theorem w_651 : Cond.selects "TreePasses$Program" ⟨"TreePasses$Program", "childCalled", "(III)I"⟩ ⟨"TreePasses$Program", "childCalled", "(III)I"⟩ ∈ q_gd := q_wg3 (i := 171) rfl rfl
theorem w_653 : Cond.methodLinkNest "TreePasses$Program" 77 ⟨"TreePasses", "childrenOf", "(I)I"⟩ "TreePasses" ∈ q_nst := q_wn3 (i := 173) rfl rfl
theorem w_654 : Cond.methodLink "TreePasses$Unmade" 59 ⟨"TreePasses$Standing", "below", "(LTreePasses$Program;II)I"⟩ ∈ q_gd := q_wg3 (i := 174) rfl rfl
theorem w_655 : Cond.instanceMethod ⟨"TreePasses$Standing", "below", "(LTreePasses$Program;II)I"⟩ ∈ q_gd := q_wg3 (i := 175) rfl rfl
theorem w_656 : Cond.selects "TreePasses$Standing" ⟨"TreePasses$Standing", "below", "(LTreePasses$Program;II)I"⟩ ⟨"TreePasses$Standing", "below", "(LTreePasses$Program;II)I"⟩ ∈ q_gd := q_wg3 (i := 176) rfl rfl
theorem w_658 : Cond.methodLink "TreePasses$Walk" 46 ⟨"TreePasses$Walk", "come", "(LTreePasses$Program;LTreePasses$Ground;III)I"⟩ ∈ q_gd := q_wg3 (i := 178) rfl rfl
theorem w_660 : Cond.instanceMethod ⟨"TreePasses$Walk", "come", "(LTreePasses$Program;LTreePasses$Ground;III)I"⟩ ∈ q_gd := q_wg3 (i := 180) rfl rfl
theorem w_662 : Cond.methodLink "TreePasses$Walk" 84 ⟨"TreePasses$Ground", "nodeAt", "(I)I"⟩ ∈ q_gd := q_wg3 (i := 182) rfl rfl
theorem w_663 : Cond.declares ⟨"TreePasses$Ground", "nodeAt", "(I)I"⟩ ∈ q_nst := q_wn3 (i := 183) rfl rfl
theorem w_664 : Cond.sameMethod "TreePasses$Ground" "TreePasses$Ground" "nodeAt" "(I)I" ∈ q_gd := q_wg3 (i := 184) rfl rfl
theorem w_665 : Cond.selects "TreePasses$Standing" ⟨"TreePasses$Ground", "nodeAt", "(I)I"⟩ ⟨"TreePasses$Standing", "nodeAt", "(I)I"⟩ ∈ q_gd := q_wg3 (i := 185) rfl rfl
theorem w_666 : Cond.instanceMethod ⟨"TreePasses$Standing", "nodeAt", "(I)I"⟩ ∈ q_gd := q_wg3 (i := 186) rfl rfl
theorem w_668 : Cond.selects "TreePasses$Unmade" ⟨"TreePasses$Ground", "nodeAt", "(I)I"⟩ ⟨"TreePasses$Unmade", "nodeAt", "(I)I"⟩ ∈ q_gd := q_wg3 (i := 188) rfl rfl
theorem w_669 : Cond.instanceMethod ⟨"TreePasses$Unmade", "nodeAt", "(I)I"⟩ ∈ q_gd := q_wg3 (i := 189) rfl rfl
theorem w_671 : Cond.methodLinkNest "TreePasses$Walk" 55 ⟨"TreePasses", "within", "(II)Z"⟩ "TreePasses" ∈ q_nst := q_wn3 (i := 191) rfl rfl
theorem w_672 : Cond.methodLink "TreePasses$Walk" 69 ⟨"TreePasses$Ground", "letterAt", "(LTreePasses$Program;I)I"⟩ ∈ q_gd := q_wg3 (i := 192) rfl rfl
theorem w_673 : Cond.declares ⟨"TreePasses$Ground", "letterAt", "(LTreePasses$Program;I)I"⟩ ∈ q_nst := q_wn3 (i := 193) rfl rfl
theorem w_674 : Cond.sameMethod "TreePasses$Ground" "TreePasses$Ground" "letterAt" "(LTreePasses$Program;I)I" ∈ q_gd := q_wg3 (i := 194) rfl rfl
theorem w_675 : Cond.selects "TreePasses$Standing" ⟨"TreePasses$Ground", "letterAt", "(LTreePasses$Program;I)I"⟩ ⟨"TreePasses$Standing", "letterAt", "(LTreePasses$Program;I)I"⟩ ∈ q_gd := q_wg3 (i := 195) rfl rfl
theorem w_676 : Cond.selects "TreePasses$Unmade" ⟨"TreePasses$Ground", "letterAt", "(LTreePasses$Program;I)I"⟩ ⟨"TreePasses$Unmade", "letterAt", "(LTreePasses$Program;I)I"⟩ ∈ q_gd := q_wg3 (i := 196) rfl rfl
theorem w_677 : Cond.instanceMethod ⟨"TreePasses$Unmade", "letterAt", "(LTreePasses$Program;I)I"⟩ ∈ q_gd := q_wg3 (i := 197) rfl rfl
theorem w_679 : Cond.methodLink "TreePasses$Unmade" 26 ⟨"TreePasses$Unmade", "ruleAt", "(I)I"⟩ ∈ q_gd := q_wg3 (i := 199) rfl rfl
theorem w_680 : Cond.static ⟨"TreePasses$Unmade", "ruleAt", "(I)I"⟩ ∈ q_gd := q_wg3 (i := 200) rfl rfl
theorem w_682 : Cond.methodLink "TreePasses$Unmade" 30 ⟨"TreePasses$Unmade", "pieceAt", "(I)I"⟩ ∈ q_gd := q_wg3 (i := 202) rfl rfl
theorem w_683 : Cond.static ⟨"TreePasses$Unmade", "pieceAt", "(I)I"⟩ ∈ q_gd := q_wg3 (i := 203) rfl rfl
theorem w_685 : Cond.methodLink "TreePasses$Walk" 87 ⟨"TreePasses$Ground", "sightAt", "(I)I"⟩ ∈ q_gd := q_wg3 (i := 205) rfl rfl
theorem w_686 : Cond.declares ⟨"TreePasses$Ground", "sightAt", "(I)I"⟩ ∈ q_nst := q_wn3 (i := 206) rfl rfl
theorem w_687 : Cond.sameMethod "TreePasses$Ground" "TreePasses$Ground" "sightAt" "(I)I" ∈ q_gd := q_wg3 (i := 207) rfl rfl
theorem w_688 : Cond.selects "TreePasses$Standing" ⟨"TreePasses$Ground", "sightAt", "(I)I"⟩ ⟨"TreePasses$Standing", "sightAt", "(I)I"⟩ ∈ q_gd := q_wg3 (i := 208) rfl rfl
theorem w_689 : Cond.selects "TreePasses$Unmade" ⟨"TreePasses$Ground", "sightAt", "(I)I"⟩ ⟨"TreePasses$Unmade", "sightAt", "(I)I"⟩ ∈ q_gd := q_wg3 (i := 209) rfl rfl
theorem w_690 : Cond.instanceMethod ⟨"TreePasses$Unmade", "sightAt", "(I)I"⟩ ∈ q_gd := q_wg3 (i := 210) rfl rfl
theorem w_692 : Cond.methodLink "TreePasses$Walk" 90 ⟨"TreePasses$Program", "chosenRule", "(IIII)I"⟩ ∈ q_gd := q_wg3 (i := 212) rfl rfl
theorem w_693 : Cond.constant "TreePasses$Walk" 50 (nI 100000) ∈ q_gd := q_wg3 (i := 213) rfl rfl
theorem w_694 : Cond.methodLink "TreePasses$Walk" 51 ⟨"TreePasses$Walk", "step", "(LTreePasses$Program;LTreePasses$Ground;I)I"⟩ ∈ q_gd := q_wg3 (i := 214) rfl rfl
theorem w_696 : Cond.instanceMethod ⟨"TreePasses$Walk", "step", "(LTreePasses$Program;LTreePasses$Ground;I)I"⟩ ∈ q_gd := q_wg3 (i := 216) rfl rfl
theorem w_698 : Cond.methodLink "TreePasses$Walk" 59 ⟨"TreePasses$Program", "pieceOf", "(II)I"⟩ ∈ q_gd := q_wg3 (i := 218) rfl rfl
theorem w_699 : Cond.methodLink "TreePasses$Walk" 65 ⟨"TreePasses$Walk", "append", "(I)I"⟩ ∈ q_gd := q_wg3 (i := 219) rfl rfl
theorem w_701 : Cond.instanceMethod ⟨"TreePasses$Walk", "append", "(I)I"⟩ ∈ q_gd := q_wg3 (i := 221) rfl rfl
theorem w_703 : Cond.methodLink "TreePasses$Walk" 73 ⟨"TreePasses$Program", "childCalled", "(III)I"⟩ ∈ q_gd := q_wg3 (i := 223) rfl rfl
theorem w_704 : Cond.methodLinkNest "TreePasses$Walk" 77 ⟨"TreePasses", "stateCalled", "(I)I"⟩ "TreePasses" ∈ q_nst := q_wn3 (i := 224) rfl rfl
theorem w_705 : Cond.methodLink "TreePasses$Walk" 80 ⟨"TreePasses$Ground", "below", "(LTreePasses$Program;II)I"⟩ ∈ q_gd := q_wg3 (i := 225) rfl rfl
theorem w_706 : Cond.declares ⟨"TreePasses$Ground", "below", "(LTreePasses$Program;II)I"⟩ ∈ q_nst := q_wn3 (i := 226) rfl rfl
theorem w_707 : Cond.sameMethod "TreePasses$Ground" "TreePasses$Ground" "below" "(LTreePasses$Program;II)I" ∈ q_gd := q_wg3 (i := 227) rfl rfl
theorem w_708 : Cond.selects "TreePasses$Standing" ⟨"TreePasses$Ground", "below", "(LTreePasses$Program;II)I"⟩ ⟨"TreePasses$Standing", "below", "(LTreePasses$Program;II)I"⟩ ∈ q_gd := q_wg3 (i := 228) rfl rfl
theorem w_709 : Cond.selects "TreePasses$Unmade" ⟨"TreePasses$Ground", "below", "(LTreePasses$Program;II)I"⟩ ⟨"TreePasses$Unmade", "below", "(LTreePasses$Program;II)I"⟩ ∈ q_gd := q_wg3 (i := 229) rfl rfl
theorem w_710 : Cond.instanceMethod ⟨"TreePasses$Unmade", "below", "(LTreePasses$Program;II)I"⟩ ∈ q_gd := q_wg3 (i := 230) rfl rfl
theorem w_712 : Cond.methodLink "TreePasses$Unmade" 33 ⟨"TreePasses$Unmade", "behind", "(LTreePasses$Program;II)I"⟩ ∈ q_gd := q_wg3 (i := 232) rfl rfl
theorem w_713 : Cond.static ⟨"TreePasses$Unmade", "behind", "(LTreePasses$Program;II)I"⟩ ∈ q_gd := q_wg3 (i := 233) rfl rfl
theorem w_715 : Cond.methodLinkNest "TreePasses$Unmade" 69 ⟨"TreePasses", "childrenOf", "(I)I"⟩ "TreePasses" ∈ q_nst := q_wn3 (i := 235) rfl rfl
theorem w_716 : Cond.methodLink "TreePasses$Unmade" 42 ⟨"TreePasses$Unmade", "nodeAt", "(I)I"⟩ ∈ q_gd := q_wg3 (i := 236) rfl rfl
theorem w_717 : Cond.methodLink "TreePasses" 205 ⟨"TreePasses", "letterMade", "(II)I"⟩ ∈ q_gd := q_wg3 (i := 237) rfl rfl
theorem w_719 : Cond.instanceMethod ⟨"TreePasses", "letterMade", "(II)I"⟩ ∈ q_gd := q_wg3 (i := 239) rfl rfl
theorem w_721 : Cond.methodLink "TreePasses" 258 ⟨"TreePasses$Walk", "letterOf", "(I)I"⟩ ∈ q_gd := q_wg4 (i := 1) rfl rfl
theorem w_722 : Cond.instanceMethod ⟨"TreePasses$Walk", "letterOf", "(I)I"⟩ ∈ q_gd := q_wg4 (i := 2) rfl rfl
theorem w_723 : Cond.selects "TreePasses$Walk" ⟨"TreePasses$Walk", "letterOf", "(I)I"⟩ ⟨"TreePasses$Walk", "letterOf", "(I)I"⟩ ∈ q_gd := q_wg4 (i := 3) rfl rfl
theorem w_725 : Cond.methodLink "TreePassesLaw" 86 ⟨"TreePasses", "both", "(II)I"⟩ ∈ q_gd := q_wg4 (i := 5) rfl rfl
theorem w_726 : Cond.instanceMethod ⟨"TreePasses", "both", "(II)I"⟩ ∈ q_gd := q_wg4 (i := 6) rfl rfl
theorem w_727 : Cond.selects "TreePasses" ⟨"TreePasses", "both", "(II)I"⟩ ⟨"TreePasses", "both", "(II)I"⟩ ∈ q_gd := q_wg4 (i := 7) rfl rfl
theorem w_729 : Cond.methodLink "TreePasses" 214 ⟨"TreePasses$Standing", "takeRow", "(LTreePasses$Program;[II)V"⟩ ∈ q_gd := q_wg4 (i := 9) rfl rfl
theorem w_730 : Cond.instanceMethod ⟨"TreePasses$Standing", "takeRow", "(LTreePasses$Program;[II)V"⟩ ∈ q_gd := q_wg4 (i := 10) rfl rfl
theorem w_731 : Cond.selects "TreePasses$Standing" ⟨"TreePasses$Standing", "takeRow", "(LTreePasses$Program;[II)V"⟩ ⟨"TreePasses$Standing", "takeRow", "(LTreePasses$Program;[II)V"⟩ ∈ q_gd := q_wg4 (i := 11) rfl rfl
theorem w_733 : Cond.methodLink "TreePasses$Standing" 44 ⟨"java/lang/Math", "max", "(II)I"⟩ ∈ q_gd := q_wg4 (i := 13) rfl rfl
theorem w_734 : Cond.methodLink "TreePasses$Standing" 47 ⟨"java/lang/System", "arraycopy", "(Ljava/lang/Object;ILjava/lang/Object;II)V"⟩ ∈ q_gd := q_wg4 (i := 14) rfl rfl
theorem w_735 : Cond.methodLink "TreePassesLaw" 90 ⟨"TreePasses", "one", "(II)I"⟩ ∈ q_gd := q_wg4 (i := 15) rfl rfl
theorem w_736 : Cond.instanceMethod ⟨"TreePasses", "one", "(II)I"⟩ ∈ q_gd := q_wg4 (i := 16) rfl rfl
theorem w_737 : Cond.selects "TreePasses" ⟨"TreePasses", "one", "(II)I"⟩ ⟨"TreePasses", "one", "(II)I"⟩ ∈ q_gd := q_wg4 (i := 17) rfl rfl
theorem w_739 : Cond.methodLink "TreePasses" 218 ⟨"TreePasses$Unmade", "takeTree", "(LTreePasses$Program;I)V"⟩ ∈ q_gd := q_wg4 (i := 19) rfl rfl
theorem w_740 : Cond.instanceMethod ⟨"TreePasses$Unmade", "takeTree", "(LTreePasses$Program;I)V"⟩ ∈ q_gd := q_wg4 (i := 20) rfl rfl
theorem w_741 : Cond.selects "TreePasses$Unmade" ⟨"TreePasses$Unmade", "takeTree", "(LTreePasses$Program;I)V"⟩ ⟨"TreePasses$Unmade", "takeTree", "(LTreePasses$Program;I)V"⟩ ∈ q_gd := q_wg4 (i := 21) rfl rfl
theorem w_743 : Cond.methodLink "TreePasses$Unmade" 18 ⟨"TreePasses$Standing", "takeTree", "(LTreePasses$Program;II)V"⟩ ∈ q_gd := q_wg4 (i := 23) rfl rfl
theorem w_744 : Cond.methodLink "TreePassesLaw" 94 ⟨"TreePasses", "linear", "(II)I"⟩ ∈ q_gd := q_wg4 (i := 24) rfl rfl
theorem w_745 : Cond.instanceMethod ⟨"TreePasses", "linear", "(II)I"⟩ ∈ q_gd := q_wg4 (i := 25) rfl rfl
theorem w_746 : Cond.selects "TreePasses" ⟨"TreePasses", "linear", "(II)I"⟩ ⟨"TreePasses", "linear", "(II)I"⟩ ∈ q_gd := q_wg4 (i := 26) rfl rfl
theorem w_748 : Cond.methodLink "TreePasses" 221 ⟨"TreePasses$Program", "isLinear", "(I)Z"⟩ ∈ q_gd := q_wg4 (i := 28) rfl rfl
theorem w_749 : Cond.instanceMethod ⟨"TreePasses$Program", "isLinear", "(I)Z"⟩ ∈ q_gd := q_wg4 (i := 29) rfl rfl
theorem w_750 : Cond.selects "TreePasses$Program" ⟨"TreePasses$Program", "isLinear", "(I)Z"⟩ ⟨"TreePasses$Program", "isLinear", "(I)Z"⟩ ∈ q_gd := q_wg4 (i := 30) rfl rfl
theorem w_752 : Cond.methodLink "TreePasses$Program" 80 ⟨"TreePasses$Program", "callsFor", "(II)I"⟩ ∈ q_gd := q_wg4 (i := 32) rfl rfl
theorem w_754 : Cond.instanceMethod ⟨"TreePasses$Program", "callsFor", "(II)I"⟩ ∈ q_gd := q_wg4 (i := 34) rfl rfl
theorem w_756 : Cond.methodLink "TreePasses$Program" 83 ⟨"TreePasses$Program", "pieceOf", "(II)I"⟩ ∈ q_gd := q_wg4 (i := 36) rfl rfl
theorem w_757 : Cond.methodLink "TreePasses" 224 ⟨"TreePasses$Program", "isWhole", "(I)Z"⟩ ∈ q_gd := q_wg4 (i := 37) rfl rfl
theorem w_758 : Cond.instanceMethod ⟨"TreePasses$Program", "isWhole", "(I)Z"⟩ ∈ q_gd := q_wg4 (i := 38) rfl rfl
theorem w_759 : Cond.selects "TreePasses$Program" ⟨"TreePasses$Program", "isWhole", "(I)Z"⟩ ⟨"TreePasses$Program", "isWhole", "(I)Z"⟩ ∈ q_gd := q_wg4 (i := 39) rfl rfl
theorem w_761 : Cond.methodLink "TreePassesLaw" 98 ⟨"TreePasses", "visits", "(III)I"⟩ ∈ q_gd := q_wg4 (i := 41) rfl rfl
theorem w_762 : Cond.instanceMethod ⟨"TreePasses", "visits", "(III)I"⟩ ∈ q_gd := q_wg4 (i := 42) rfl rfl
theorem w_763 : Cond.selects "TreePasses" ⟨"TreePasses", "visits", "(III)I"⟩ ⟨"TreePasses", "visits", "(III)I"⟩ ∈ q_gd := q_wg4 (i := 43) rfl rfl
theorem w_765 : Cond.methodLink "TreePasses" 227 ⟨"TreePasses$Walk", "visitsOf", "(I)I"⟩ ∈ q_gd := q_wg4 (i := 45) rfl rfl
theorem w_766 : Cond.instanceMethod ⟨"TreePasses$Walk", "visitsOf", "(I)I"⟩ ∈ q_gd := q_wg4 (i := 46) rfl rfl
theorem w_767 : Cond.selects "TreePasses$Walk" ⟨"TreePasses$Walk", "visitsOf", "(I)I"⟩ ⟨"TreePasses$Walk", "visitsOf", "(I)I"⟩ ∈ q_gd := q_wg4 (i := 47) rfl rfl
theorem w_769 : Cond.methodLink "TreePassesLaw" 102 ⟨"TreePasses", "comes", "(I)I"⟩ ∈ q_gd := q_wg4 (i := 49) rfl rfl
theorem w_770 : Cond.instanceMethod ⟨"TreePasses", "comes", "(I)I"⟩ ∈ q_gd := q_wg4 (i := 50) rfl rfl
theorem w_771 : Cond.selects "TreePasses" ⟨"TreePasses", "comes", "(I)I"⟩ ⟨"TreePasses", "comes", "(I)I"⟩ ∈ q_gd := q_wg4 (i := 51) rfl rfl
theorem w_773 : Cond.methodLink "TreePasses" 230 ⟨"TreePasses", "censusOf", "(I)LTreePasses$Census;"⟩ ∈ q_gd := q_wg4 (i := 53) rfl rfl
theorem w_775 : Cond.instanceMethod ⟨"TreePasses", "censusOf", "(I)LTreePasses$Census;"⟩ ∈ q_gd := q_wg4 (i := 55) rfl rfl
theorem w_777 : Cond.methodLink "TreePasses" 234 ⟨"TreePasses$Census", "take", "(LTreePasses$Program;)V"⟩ ∈ q_gd := q_wg4 (i := 57) rfl rfl
theorem w_778 : Cond.instanceMethod ⟨"TreePasses$Census", "take", "(LTreePasses$Program;)V"⟩ ∈ q_gd := q_wg4 (i := 58) rfl rfl
theorem w_779 : Cond.selects "TreePasses$Census" ⟨"TreePasses$Census", "take", "(LTreePasses$Program;)V"⟩ ⟨"TreePasses$Census", "take", "(LTreePasses$Program;)V"⟩ ∈ q_gd := q_wg4 (i := 59) rfl rfl
theorem w_781 : Cond.methodLink "TreePasses$Census" 58 ⟨"TreePasses$Census", "begin", "(LTreePasses$Program;)V"⟩ ∈ q_gd := q_wg4 (i := 61) rfl rfl
theorem w_783 : Cond.instanceMethod ⟨"TreePasses$Census", "begin", "(LTreePasses$Program;)V"⟩ ∈ q_gd := q_wg4 (i := 63) rfl rfl
theorem w_785 : Cond.methodLink "TreePasses$Census" 81 ⟨"java/util/Arrays", "fill", "([II)V"⟩ ∈ q_gd := q_wg4 (i := 65) rfl rfl
theorem w_786 : Cond.methodLink "TreePasses$Census" 87 ⟨"TreePasses$Program", "hasRule", "(I)Z"⟩ ∈ q_gd := q_wg4 (i := 66) rfl rfl
theorem w_787 : Cond.methodLink "TreePasses$Census" 93 ⟨"TreePasses$Program", "cell", "(II)I"⟩ ∈ q_gd := q_wg4 (i := 67) rfl rfl
theorem w_788 : Cond.methodLink "TreePasses$Census" 97 ⟨"TreePasses$Census", "workOut", "(LTreePasses$Program;I)V"⟩ ∈ q_gd := q_wg4 (i := 68) rfl rfl
theorem w_790 : Cond.instanceMethod ⟨"TreePasses$Census", "workOut", "(LTreePasses$Program;I)V"⟩ ∈ q_gd := q_wg4 (i := 70) rfl rfl
theorem w_792 : Cond.methodLink "TreePasses$Census" 132 ⟨"TreePasses$Program", "pieceOf", "(II)I"⟩ ∈ q_gd := q_wg4 (i := 72) rfl rfl
theorem w_793 : Cond.methodLink "TreePasses$Census" 135 ⟨"TreePasses$Program", "childCalled", "(III)I"⟩ ∈ q_gd := q_wg4 (i := 73) rfl rfl
theorem w_794 : Cond.methodLinkNest "TreePasses$Census" 138 ⟨"TreePasses", "stateCalled", "(I)I"⟩ "TreePasses" ∈ q_nst := q_wn4 (i := 74) rfl rfl
theorem w_795 : Cond.fieldLinkNest "TreePasses$Census" 141 "TreePasses" "WHERE" "[J" "TreePasses" ∈ q_nst := q_wn4 (i := 75) rfl rfl
theorem w_797 : Cond.methodLinkNest "TreePasses$Census" 70 ⟨"TreePasses", "within", "(II)Z"⟩ "TreePasses" ∈ q_nst := q_wn4 (i := 77) rfl rfl
theorem w_798 : Cond.methodLink "TreePasses$Census" 144 ⟨"TreePasses$Census", "typeAbove", "(LTreePasses$Program;II)J"⟩ ∈ q_gd := q_wg4 (i := 78) rfl rfl
theorem w_800 : Cond.instanceMethod ⟨"TreePasses$Census", "typeAbove", "(LTreePasses$Program;II)J"⟩ ∈ q_gd := q_wg4 (i := 80) rfl rfl
theorem w_802 : Cond.methodLinkNest "TreePasses$Census" 148 ⟨"TreePasses", "childrenOf", "(I)I"⟩ "TreePasses" ∈ q_nst := q_wn4 (i := 82) rfl rfl
theorem w_803 : Cond.methodLink "TreePasses$Census" 128 ⟨"TreePasses$Program", "entry", "(III)I"⟩ ∈ q_gd := q_wg4 (i := 83) rfl rfl
theorem w_804 : Cond.constantLong "TreePasses$Census" 151 (lN 18446744073709551615) ∈ q_gd := q_wg4 (i := 84) rfl rfl
theorem w_805 : Cond.methodLink "TreePasses$Census" 101 ⟨"TreePasses$Program", "chosenRule", "(IIII)I"⟩ ∈ q_gd := q_wg4 (i := 85) rfl rfl
theorem w_806 : Cond.methodLink "TreePasses$Census" 62 ⟨"TreePasses$Census", "offer", "(LTreePasses$Program;III)V"⟩ ∈ q_gd := q_wg4 (i := 86) rfl rfl
theorem w_808 : Cond.instanceMethod ⟨"TreePasses$Census", "offer", "(LTreePasses$Program;III)V"⟩ ∈ q_gd := q_wg4 (i := 88) rfl rfl
theorem w_810 : Cond.methodLink "TreePasses$Census" 116 ⟨"TreePasses$Census", "profileOf", "(LTreePasses$Program;III)I"⟩ ∈ q_gd := q_wg4 (i := 90) rfl rfl
theorem w_812 : Cond.instanceMethod ⟨"TreePasses$Census", "profileOf", "(LTreePasses$Program;III)I"⟩ ∈ q_gd := q_wg4 (i := 92) rfl rfl
theorem w_814 : Cond.methodLink "TreePasses$Census" 108 ⟨"TreePasses$Census", "sizeOf", "(I)I"⟩ ∈ q_gd := q_wg4 (i := 94) rfl rfl
theorem w_815 : Cond.instanceMethod ⟨"TreePasses$Census", "sizeOf", "(I)I"⟩ ∈ q_gd := q_wg4 (i := 95) rfl rfl
theorem w_816 : Cond.selects "TreePasses$Census" ⟨"TreePasses$Census", "sizeOf", "(I)I"⟩ ⟨"TreePasses$Census", "sizeOf", "(I)I"⟩ ∈ q_gd := q_wg4 (i := 96) rfl rfl
theorem w_818 : Cond.methodLink "TreePasses$Census" 120 ⟨"java/lang/Math", "min", "(II)I"⟩ ∈ q_gd := q_wg4 (i := 98) rfl rfl
theorem w_819 : Cond.methodLink "TreePasses$Census" 112 ⟨"TreePasses$Census", "isBefore", "(IIIII)Z"⟩ ∈ q_gd := q_wg4 (i := 99) rfl rfl
theorem w_821 : Cond.instanceMethod ⟨"TreePasses$Census", "isBefore", "(IIIII)Z"⟩ ∈ q_gd := q_wg4 (i := 101) rfl rfl
theorem w_823 : Cond.methodLink "TreePasses$Census" 125 ⟨"TreePasses$Census", "precedes", "(II)Z"⟩ ∈ q_gd := q_wg4 (i := 103) rfl rfl
theorem w_825 : Cond.instanceMethod ⟨"TreePasses$Census", "precedes", "(II)Z"⟩ ∈ q_gd := q_wg4 (i := 105) rfl rfl
theorem w_827 : Cond.methodLink "TreePasses$Census" 66 ⟨"TreePasses$Census", "nearest", "()I"⟩ ∈ q_gd := q_wg4 (i := 107) rfl rfl
theorem w_829 : Cond.instanceMethod ⟨"TreePasses$Census", "nearest", "()I"⟩ ∈ q_gd := q_wg4 (i := 109) rfl rfl
theorem w_831 : Cond.methodLink "TreePasses$Census" 74 ⟨"TreePasses$Census", "settle", "(II)V"⟩ ∈ q_gd := q_wg4 (i := 111) rfl rfl
theorem w_833 : Cond.instanceMethod ⟨"TreePasses$Census", "settle", "(II)V"⟩ ∈ q_gd := q_wg4 (i := 113) rfl rfl
theorem w_835 : Cond.methodLink "TreePasses$Census" 105 ⟨"TreePasses$Census", "typeIn", "(II)I"⟩ ∈ q_gd := q_wg4 (i := 115) rfl rfl
theorem w_836 : Cond.static ⟨"TreePasses$Census", "typeIn", "(II)I"⟩ ∈ q_gd := q_wg4 (i := 116) rfl rfl
theorem w_838 : Cond.methodLink "TreePassesLaw" 106 ⟨"TreePasses", "least", "(III)I"⟩ ∈ q_gd := q_wg4 (i := 118) rfl rfl
theorem w_839 : Cond.instanceMethod ⟨"TreePasses", "least", "(III)I"⟩ ∈ q_gd := q_wg4 (i := 119) rfl rfl
theorem w_840 : Cond.selects "TreePasses" ⟨"TreePasses", "least", "(III)I"⟩ ⟨"TreePasses", "least", "(III)I"⟩ ∈ q_gd := q_wg4 (i := 120) rfl rfl
theorem w_842 : Cond.methodLink "TreePasses" 238 ⟨"TreePasses$Census", "sizeOf", "(I)I"⟩ ∈ q_gd := q_wg4 (i := 122) rfl rfl
theorem w_843 : Cond.methodLink "TreePasses" 241 ⟨"TreePasses$Census", "letterOf", "(II)I"⟩ ∈ q_gd := q_wg4 (i := 123) rfl rfl
theorem w_844 : Cond.instanceMethod ⟨"TreePasses$Census", "letterOf", "(II)I"⟩ ∈ q_gd := q_wg4 (i := 124) rfl rfl
theorem w_845 : Cond.selects "TreePasses$Census" ⟨"TreePasses$Census", "letterOf", "(II)I"⟩ ⟨"TreePasses$Census", "letterOf", "(II)I"⟩ ∈ q_gd := q_wg4 (i := 125) rfl rfl
theorem w_847 : Cond.methodLink "TreePassesLaw" 110 ⟨"TreePasses", "total", "(III)I"⟩ ∈ q_gd := q_wg4 (i := 127) rfl rfl
theorem w_848 : Cond.instanceMethod ⟨"TreePasses", "total", "(III)I"⟩ ∈ q_gd := q_wg4 (i := 128) rfl rfl
theorem w_849 : Cond.selects "TreePasses" ⟨"TreePasses", "total", "(III)I"⟩ ⟨"TreePasses", "total", "(III)I"⟩ ∈ q_gd := q_wg4 (i := 129) rfl rfl
theorem w_851 : Cond.methodLink "TreePasses" 242 ⟨"TreePasses", "firstLeast", "(IIII)I"⟩ ∈ q_gd := q_wg4 (i := 131) rfl rfl
theorem w_853 : Cond.instanceMethod ⟨"TreePasses", "firstLeast", "(IIII)I"⟩ ∈ q_gd := q_wg4 (i := 133) rfl rfl
theorem w_855 : Cond.methodLink "TreePasses" 260 ⟨"TreePasses$Census", "firstWith", "(II)I"⟩ ∈ q_gd := q_wg4 (i := 135) rfl rfl
theorem w_856 : Cond.instanceMethod ⟨"TreePasses$Census", "firstWith", "(II)I"⟩ ∈ q_gd := q_wg4 (i := 136) rfl rfl
theorem w_857 : Cond.selects "TreePasses$Census" ⟨"TreePasses$Census", "firstWith", "(II)I"⟩ ⟨"TreePasses$Census", "firstWith", "(II)I"⟩ ∈ q_gd := q_wg4 (i := 137) rfl rfl
theorem w_859 : Cond.methodLink "TreePassesLaw" 114 ⟨"TreePasses", "typed", "(III)I"⟩ ∈ q_gd := q_wg4 (i := 139) rfl rfl
theorem w_860 : Cond.instanceMethod ⟨"TreePasses", "typed", "(III)I"⟩ ∈ q_gd := q_wg4 (i := 140) rfl rfl
theorem w_861 : Cond.selects "TreePasses" ⟨"TreePasses", "typed", "(III)I"⟩ ⟨"TreePasses", "typed", "(III)I"⟩ ∈ q_gd := q_wg4 (i := 141) rfl rfl
theorem w_863 : Cond.methodLink "TreePassesLaw" 118 ⟨"TreePasses", "keep", "()I"⟩ ∈ q_gd := q_wg4 (i := 143) rfl rfl
theorem w_864 : Cond.instanceMethod ⟨"TreePasses", "keep", "()I"⟩ ∈ q_gd := q_wg4 (i := 144) rfl rfl
theorem w_865 : Cond.selects "TreePasses" ⟨"TreePasses", "keep", "()I"⟩ ⟨"TreePasses", "keep", "()I"⟩ ∈ q_gd := q_wg4 (i := 145) rfl rfl
theorem w_867 : Cond.methodLink "TreePassesLaw" 122 ⟨"TreePasses", "back", "()I"⟩ ∈ q_gd := q_wg4 (i := 147) rfl rfl
theorem w_868 : Cond.instanceMethod ⟨"TreePasses", "back", "()I"⟩ ∈ q_gd := q_wg4 (i := 148) rfl rfl
theorem w_869 : Cond.selects "TreePasses" ⟨"TreePasses", "back", "()I"⟩ ⟨"TreePasses", "back", "()I"⟩ ∈ q_gd := q_wg4 (i := 149) rfl rfl
theorem w_871 : Cond.methodLink "TreePassesLaw" 126 ⟨"TreePasses", "count", "(I)I"⟩ ∈ q_gd := q_wg4 (i := 151) rfl rfl
theorem w_872 : Cond.instanceMethod ⟨"TreePasses", "count", "(I)I"⟩ ∈ q_gd := q_wg4 (i := 152) rfl rfl
theorem w_873 : Cond.selects "TreePasses" ⟨"TreePasses", "count", "(I)I"⟩ ⟨"TreePasses", "count", "(I)I"⟩ ∈ q_gd := q_wg4 (i := 153) rfl rfl
theorem w_875 : Cond.methodLink "TreePasses" 246 ⟨"TreePasses$Program", "rulesOf", "(I)I"⟩ ∈ q_gd := q_wg4 (i := 155) rfl rfl
theorem w_876 : Cond.instanceMethod ⟨"TreePasses$Program", "rulesOf", "(I)I"⟩ ∈ q_gd := q_wg4 (i := 156) rfl rfl
theorem w_877 : Cond.selects "TreePasses$Program" ⟨"TreePasses$Program", "rulesOf", "(I)I"⟩ ⟨"TreePasses$Program", "rulesOf", "(I)I"⟩ ∈ q_gd := q_wg4 (i := 157) rfl rfl
theorem w_879 : Cond.classLink "TreePassesLaw" 10 "TreePassesModel" ∈ q_gd := q_wg4 (i := 159) rfl rfl
theorem w_880 : Cond.instantiable "TreePassesModel" 33 ∈ q_gd := q_wg4 (i := 160) rfl rfl
theorem w_881 : Cond.methodLink "TreePassesLaw" 12 ⟨"TreePassesModel", "<init>", "()V"⟩ ∈ q_gd := q_wg4 (i := 161) rfl rfl
theorem w_882 : Cond.instanceMethod ⟨"TreePassesModel", "<init>", "()V"⟩ ∈ q_gd := q_wg4 (i := 162) rfl rfl
theorem w_884 : Cond.methodLink "TreePassesModel" 1 ⟨"java/lang/Object", "<init>", "()V"⟩ ∈ q_gd := q_wg4 (i := 164) rfl rfl
theorem w_885 : Cond.methodLink "TreePassesModel" 74 ⟨"TreePassesModel", "readNone", "()V"⟩ ∈ q_gd := q_wg4 (i := 165) rfl rfl
theorem w_887 : Cond.instanceMethod ⟨"TreePassesModel", "readNone", "()V"⟩ ∈ q_gd := q_wg4 (i := 167) rfl rfl
theorem w_889 : Cond.methodLink "TreePassesModel" 77 ⟨"TreePassesModel", "treeIs", "(IIIIIIII)V"⟩ ∈ q_gd := q_wg4 (i := 169) rfl rfl
theorem w_891 : Cond.instanceMethod ⟨"TreePassesModel", "treeIs", "(IIIIIIII)V"⟩ ∈ q_gd := q_wg4 (i := 171) rfl rfl
theorem w_893 : Cond.methodLink "TreePassesModel" 81 ⟨"TreePassesModel", "tableAt", "(III)I"⟩ ∈ q_gd := q_wg4 (i := 173) rfl rfl
theorem w_894 : Cond.static ⟨"TreePassesModel", "tableAt", "(III)I"⟩ ∈ q_gd := q_wg4 (i := 174) rfl rfl
theorem w_896 : Cond.methodLink "TreePassesModel" 85 ⟨"TreePassesModel", "ruleIs", "(IIIIIIII)V"⟩ ∈ q_gd := q_wg4 (i := 176) rfl rfl
theorem w_898 : Cond.instanceMethod ⟨"TreePassesModel", "ruleIs", "(IIIIIIII)V"⟩ ∈ q_gd := q_wg4 (i := 178) rfl rfl
theorem w_900 : Cond.methodLink "TreePassesModel" 88 ⟨"TreePassesModel", "begin", "()V"⟩ ∈ q_gd := q_wg4 (i := 180) rfl rfl
theorem w_902 : Cond.instanceMethod ⟨"TreePassesModel", "begin", "()V"⟩ ∈ q_gd := q_wg4 (i := 182) rfl rfl
theorem w_904 : Cond.fieldLink "TreePassesModel" 99 "TreePassesModel" "length" "I" ∈ q_gd := q_wg4 (i := 184) rfl rfl
theorem w_905 : Cond.fieldLink "TreePassesModel" 7 "TreePassesModel" "text" "[I" ∈ q_gd := q_wg4 (i := 185) rfl rfl
theorem w_906 : Cond.fieldLink "TreePassesModel" 13 "TreePassesModel" "now" "[I" ∈ q_gd := q_wg4 (i := 186) rfl rfl
theorem w_907 : Cond.fieldLink "TreePassesModel" 16 "TreePassesModel" "read" "[I" ∈ q_gd := q_wg4 (i := 187) rfl rfl
theorem w_908 : Cond.fieldLink "TreePassesModel" 19 "TreePassesModel" "before" "[I" ∈ q_gd := q_wg4 (i := 188) rfl rfl
theorem w_909 : Cond.fieldLink "TreePassesModel" 140 "TreePassesModel" "undoMany" "I" ∈ q_gd := q_wg4 (i := 189) rfl rfl
theorem w_910 : Cond.fieldLink "TreePassesModel" 22 "TreePassesModel" "kept" "[I" ∈ q_gd := q_wg4 (i := 190) rfl rfl
theorem w_911 : Cond.fieldLink "TreePassesModel" 143 "TreePassesModel" "keptMany" "I" ∈ q_gd := q_wg4 (i := 191) rfl rfl
theorem w_912 : Cond.fieldLink "TreePassesModel" 103 "TreePassesModel" "spot" "I" ∈ q_gd := q_wg4 (i := 192) rfl rfl
theorem w_913 : Cond.fieldLink "TreePassesModel" 25 "TreePassesModel" "told" "[I" ∈ q_gd := q_wg4 (i := 193) rfl rfl
theorem w_914 : Cond.fieldLink "TreePassesModel" 152 "TreePassesModel" "ground" "I" ∈ q_gd := q_wg4 (i := 194) rfl rfl
theorem w_915 : Cond.fieldLink "TreePassesModel" 28 "TreePassesModel" "letters" "[I" ∈ q_gd := q_wg4 (i := 195) rfl rfl
theorem w_916 : Cond.fieldLink "TreePassesModel" 31 "TreePassesModel" "past" "[I" ∈ q_gd := q_wg4 (i := 196) rfl rfl
theorem w_917 : Cond.fieldLink "TreePassesModel" 34 "TreePassesModel" "values" "[I" ∈ q_gd := q_wg4 (i := 197) rfl rfl
theorem w_918 : Cond.fieldLink "TreePassesModel" 195 "TreePassesModel" "high" "I" ∈ q_gd := q_wg4 (i := 198) rfl rfl
theorem w_919 : Cond.fieldLink "TreePassesModel" 37 "TreePassesModel" "pileRule" "[I" ∈ q_gd := q_wg4 (i := 199) rfl rfl
theorem w_920 : Cond.fieldLink "TreePassesModel" 40 "TreePassesModel" "pilePiece" "[I" ∈ q_gd := q_wg4 (i := 200) rfl rfl
theorem w_921 : Cond.fieldLink "TreePassesModel" 43 "TreePassesModel" "pileNode" "[I" ∈ q_gd := q_wg4 (i := 201) rfl rfl
theorem w_922 : Cond.fieldLink "TreePassesModel" 192 "TreePassesModel" "outs" "I" ∈ q_gd := q_wg4 (i := 202) rfl rfl
theorem w_923 : Cond.fieldLink "TreePassesModel" 46 "TreePassesModel" "output" "[I" ∈ q_gd := q_wg4 (i := 203) rfl rfl
theorem w_924 : Cond.fieldLink "TreePassesModel" 49 "TreePassesModel" "visited" "[I" ∈ q_gd := q_wg4 (i := 204) rfl rfl
theorem w_925 : Cond.fieldLink "TreePassesModel" 209 "TreePassesModel" "stuckAt" "I" ∈ q_gd := q_wg4 (i := 205) rfl rfl
theorem w_926 : Cond.fieldLink "TreePassesModel" 52 "TreePassesModel" "pileAt" "[I" ∈ q_gd := q_wg4 (i := 206) rfl rfl
theorem w_927 : Cond.fieldLink "TreePassesModel" 55 "TreePassesModel" "pileBelow" "[I" ∈ q_gd := q_wg4 (i := 207) rfl rfl
theorem w_928 : Cond.fieldLink "TreePassesModel" 218 "TreePassesModel" "underRule" "I" ∈ q_gd := q_wg4 (i := 208) rfl rfl
theorem w_929 : Cond.fieldLink "TreePassesModel" 221 "TreePassesModel" "underPiece" "I" ∈ q_gd := q_wg4 (i := 209) rfl rfl
theorem w_930 : Cond.fieldLink "TreePassesModel" 224 "TreePassesModel" "underNode" "I" ∈ q_gd := q_wg4 (i := 210) rfl rfl
theorem w_931 : Cond.fieldLink "TreePassesModel" 248 "TreePassesModel" "come" "I" ∈ q_gd := q_wg4 (i := 211) rfl rfl
theorem w_932 : Cond.fieldLink "TreePassesModel" 58 "TreePassesModel" "comes" "[Z" ∈ q_gd := q_wg4 (i := 212) rfl rfl
theorem w_933 : Cond.fieldLink "TreePassesModel" 62 "TreePassesModel" "sizes" "[I" ∈ q_gd := q_wg4 (i := 213) rfl rfl
theorem w_934 : Cond.fieldLink "TreePassesModel" 65 "TreePassesModel" "least" "[I" ∈ q_gd := q_wg4 (i := 214) rfl rfl
theorem w_935 : Cond.fieldLink "TreePassesModel" 68 "TreePassesModel" "typePile" "[I" ∈ q_gd := q_wg4 (i := 215) rfl rfl
theorem w_936 : Cond.fieldLink "TreePassesModel" 71 "TreePassesModel" "candidate" "[I" ∈ q_gd := q_wg4 (i := 216) rfl rfl
theorem w_1004 : Cond.methodLink "TreePassesLaw" 17 ⟨"TreePassesModel", "write", "(I)I"⟩ ∈ q_gd := q_wg5 (i := 44) rfl rfl
theorem w_1005 : Cond.instanceMethod ⟨"TreePassesModel", "write", "(I)I"⟩ ∈ q_gd := q_wg5 (i := 45) rfl rfl
theorem w_1006 : Cond.selects "TreePassesModel" ⟨"TreePassesModel", "write", "(I)I"⟩ ⟨"TreePassesModel", "write", "(I)I"⟩ ∈ q_gd := q_wg5 (i := 46) rfl rfl
theorem w_1008 : Cond.constantLong "TreePassesModel" 91 (lN 32) ∈ q_gd := q_wg5 (i := 48) rfl rfl
theorem w_1009 : Cond.constantLong "TreePassesModel" 93 (lN 126) ∈ q_gd := q_wg5 (i := 49) rfl rfl
theorem w_1010 : Cond.methodLink "TreePassesModel" 95 ⟨"TreePassesModel", "in", "(JJJ)Z"⟩ ∈ q_gd := q_wg5 (i := 50) rfl rfl
theorem w_1011 : Cond.static ⟨"TreePassesModel", "in", "(JJJ)Z"⟩ ∈ q_gd := q_wg5 (i := 51) rfl rfl
theorem w_1013 : Cond.methodLink "TreePassesLaw" 22 ⟨"TreePassesModel", "wipe", "()I"⟩ ∈ q_gd := q_wg5 (i := 53) rfl rfl
theorem w_1014 : Cond.instanceMethod ⟨"TreePassesModel", "wipe", "()I"⟩ ∈ q_gd := q_wg5 (i := 54) rfl rfl
theorem w_1015 : Cond.selects "TreePassesModel" ⟨"TreePassesModel", "wipe", "()I"⟩ ⟨"TreePassesModel", "wipe", "()I"⟩ ∈ q_gd := q_wg5 (i := 55) rfl rfl
theorem w_1017 : Cond.methodLink "TreePassesLaw" 26 ⟨"TreePassesModel", "fault", "()I"⟩ ∈ q_gd := q_wg5 (i := 57) rfl rfl
theorem w_1018 : Cond.instanceMethod ⟨"TreePassesModel", "fault", "()I"⟩ ∈ q_gd := q_wg5 (i := 58) rfl rfl
theorem w_1019 : Cond.selects "TreePassesModel" ⟨"TreePassesModel", "fault", "()I"⟩ ⟨"TreePassesModel", "fault", "()I"⟩ ∈ q_gd := q_wg5 (i := 59) rfl rfl
theorem w_1021 : Cond.methodLink "TreePassesModel" 136 ⟨"TreePassesModel", "readAll", "()I"⟩ ∈ q_gd := q_wg5 (i := 61) rfl rfl
theorem w_1023 : Cond.instanceMethod ⟨"TreePassesModel", "readAll", "()I"⟩ ∈ q_gd := q_wg5 (i := 63) rfl rfl
theorem w_1025 : Cond.methodLink "TreePassesModel" 133 ⟨"TreePassesModel", "item", "()Z"⟩ ∈ q_gd := q_wg5 (i := 65) rfl rfl
theorem w_1027 : Cond.instanceMethod ⟨"TreePassesModel", "item", "()Z"⟩ ∈ q_gd := q_wg5 (i := 67) rfl rfl
theorem w_1029 : Cond.methodLink "TreePassesModel" 106 ⟨"TreePassesModel", "letterAt", "(I)I"⟩ ∈ q_gd := q_wg5 (i := 69) rfl rfl
theorem w_1031 : Cond.instanceMethod ⟨"TreePassesModel", "letterAt", "(I)I"⟩ ∈ q_gd := q_wg5 (i := 71) rfl rfl
theorem w_1033 : Cond.methodLink "TreePassesModel" 121 ⟨"TreePassesModel", "treeItem", "()Z"⟩ ∈ q_gd := q_wg5 (i := 73) rfl rfl
theorem w_1035 : Cond.instanceMethod ⟨"TreePassesModel", "treeItem", "()Z"⟩ ∈ q_gd := q_wg5 (i := 75) rfl rfl
theorem w_1037 : Cond.methodLink "TreePassesModel" 110 ⟨"TreePassesModel", "take", "(II)I"⟩ ∈ q_gd := q_wg5 (i := 77) rfl rfl
theorem w_1039 : Cond.instanceMethod ⟨"TreePassesModel", "take", "(II)I"⟩ ∈ q_gd := q_wg5 (i := 79) rfl rfl
theorem w_1041 : Cond.methodLink "TreePassesModel" 114 ⟨"TreePassesModel", "childrenOf", "(I)I"⟩ ∈ q_gd := q_wg5 (i := 81) rfl rfl
theorem w_1042 : Cond.static ⟨"TreePassesModel", "childrenOf", "(I)I"⟩ ∈ q_gd := q_wg5 (i := 82) rfl rfl
theorem w_1044 : Cond.methodLink "TreePassesModel" 124 ⟨"TreePassesModel", "kindItem", "()Z"⟩ ∈ q_gd := q_wg5 (i := 84) rfl rfl
theorem w_1046 : Cond.instanceMethod ⟨"TreePassesModel", "kindItem", "()Z"⟩ ∈ q_gd := q_wg5 (i := 86) rfl rfl
theorem w_1048 : Cond.methodLink "TreePassesModel" 127 ⟨"TreePassesModel", "tableItem", "()Z"⟩ ∈ q_gd := q_wg5 (i := 88) rfl rfl
theorem w_1050 : Cond.instanceMethod ⟨"TreePassesModel", "tableItem", "()Z"⟩ ∈ q_gd := q_wg5 (i := 90) rfl rfl
theorem w_1052 : Cond.methodLink "TreePassesModel" 130 ⟨"TreePassesModel", "ruleItem", "()Z"⟩ ∈ q_gd := q_wg5 (i := 92) rfl rfl
theorem w_1054 : Cond.instanceMethod ⟨"TreePassesModel", "ruleItem", "()Z"⟩ ∈ q_gd := q_wg5 (i := 94) rfl rfl
theorem w_1056 : Cond.methodLink "TreePassesModel" 117 ⟨"TreePassesModel", "isRuleTold", "()Z"⟩ ∈ q_gd := q_wg5 (i := 96) rfl rfl
theorem w_1058 : Cond.instanceMethod ⟨"TreePassesModel", "isRuleTold", "()Z"⟩ ∈ q_gd := q_wg5 (i := 98) rfl rfl
theorem w_1060 : Cond.methodLink "TreePassesLaw" 30 ⟨"TreePassesModel", "lay", "()I"⟩ ∈ q_gd := q_wg5 (i := 100) rfl rfl
theorem w_1061 : Cond.instanceMethod ⟨"TreePassesModel", "lay", "()I"⟩ ∈ q_gd := q_wg5 (i := 101) rfl rfl
theorem w_1062 : Cond.selects "TreePassesModel" ⟨"TreePassesModel", "lay", "()I"⟩ ⟨"TreePassesModel", "lay", "()I"⟩ ∈ q_gd := q_wg5 (i := 102) rfl rfl
theorem w_1064 : Cond.methodLink "TreePassesLaw" 35 ⟨"TreePassesModel", "tree", "(II)I"⟩ ∈ q_gd := q_wg5 (i := 104) rfl rfl
theorem w_1065 : Cond.instanceMethod ⟨"TreePassesModel", "tree", "(II)I"⟩ ∈ q_gd := q_wg5 (i := 105) rfl rfl
theorem w_1066 : Cond.selects "TreePassesModel" ⟨"TreePassesModel", "tree", "(II)I"⟩ ⟨"TreePassesModel", "tree", "(II)I"⟩ ∈ q_gd := q_wg5 (i := 106) rfl rfl
theorem w_1068 : Cond.methodLink "TreePassesModel" 148 ⟨"TreePassesModel", "isTree", "(I)Z"⟩ ∈ q_gd := q_wg5 (i := 108) rfl rfl
theorem w_1069 : Cond.static ⟨"TreePassesModel", "isTree", "(I)Z"⟩ ∈ q_gd := q_wg5 (i := 109) rfl rfl
theorem w_1071 : Cond.constantLong "TreePassesModel" 146 (lN 2) ∈ q_gd := q_wg5 (i := 111) rfl rfl
theorem w_1072 : Cond.methodLink "TreePassesLaw" 40 ⟨"TreePassesModel", "value", "(III)I"⟩ ∈ q_gd := q_wg5 (i := 112) rfl rfl
theorem w_1073 : Cond.instanceMethod ⟨"TreePassesModel", "value", "(III)I"⟩ ∈ q_gd := q_wg5 (i := 113) rfl rfl
theorem w_1074 : Cond.selects "TreePassesModel" ⟨"TreePassesModel", "value", "(III)I"⟩ ⟨"TreePassesModel", "value", "(III)I"⟩ ∈ q_gd := q_wg5 (i := 114) rfl rfl
theorem w_1076 : Cond.methodLink "TreePassesModel" 159 ⟨"TreePassesModel", "isPass", "(I)Z"⟩ ∈ q_gd := q_wg5 (i := 116) rfl rfl
theorem w_1077 : Cond.static ⟨"TreePassesModel", "isPass", "(I)Z"⟩ ∈ q_gd := q_wg5 (i := 117) rfl rfl
theorem w_1079 : Cond.methodLink "TreePassesModel" 162 ⟨"TreePassesModel", "isNode", "(II)Z"⟩ ∈ q_gd := q_wg5 (i := 119) rfl rfl
theorem w_1081 : Cond.instanceMethod ⟨"TreePassesModel", "isNode", "(II)Z"⟩ ∈ q_gd := q_wg5 (i := 121) rfl rfl
theorem w_1083 : Cond.methodLink "TreePassesModel" 166 ⟨"TreePassesModel", "groundIs", "(II)V"⟩ ∈ q_gd := q_wg5 (i := 123) rfl rfl
theorem w_1085 : Cond.instanceMethod ⟨"TreePassesModel", "groundIs", "(II)V"⟩ ∈ q_gd := q_wg5 (i := 125) rfl rfl
theorem w_1087 : Cond.methodLink "TreePassesModel" 155 ⟨"TreePassesModel", "measure", "(I)V"⟩ ∈ q_gd := q_wg5 (i := 127) rfl rfl
theorem w_1089 : Cond.instanceMethod ⟨"TreePassesModel", "measure", "(I)V"⟩ ∈ q_gd := q_wg5 (i := 129) rfl rfl
theorem w_1091 : Cond.methodLink "TreePassesLaw" 44 ⟨"TreePassesModel", "table", "(III)I"⟩ ∈ q_gd := q_wg5 (i := 131) rfl rfl
theorem w_1092 : Cond.instanceMethod ⟨"TreePassesModel", "table", "(III)I"⟩ ∈ q_gd := q_wg5 (i := 132) rfl rfl
theorem w_1093 : Cond.selects "TreePassesModel" ⟨"TreePassesModel", "table", "(III)I"⟩ ⟨"TreePassesModel", "table", "(III)I"⟩ ∈ q_gd := q_wg5 (i := 133) rfl rfl
theorem w_1095 : Cond.constantLong "TreePassesModel" 170 (lN 4) ∈ q_gd := q_wg5 (i := 135) rfl rfl
theorem w_1096 : Cond.methodLink "TreePassesLaw" 48 ⟨"TreePassesModel", "rule", "(II)I"⟩ ∈ q_gd := q_wg5 (i := 136) rfl rfl
theorem w_1097 : Cond.instanceMethod ⟨"TreePassesModel", "rule", "(II)I"⟩ ∈ q_gd := q_wg5 (i := 137) rfl rfl
theorem w_1098 : Cond.selects "TreePassesModel" ⟨"TreePassesModel", "rule", "(II)I"⟩ ⟨"TreePassesModel", "rule", "(II)I"⟩ ∈ q_gd := q_wg5 (i := 138) rfl rfl
theorem w_1100 : Cond.methodLink "TreePassesModel" 172 ⟨"TreePassesModel", "isRule", "(I)Z"⟩ ∈ q_gd := q_wg5 (i := 140) rfl rfl
theorem w_1102 : Cond.instanceMethod ⟨"TreePassesModel", "isRule", "(I)Z"⟩ ∈ q_gd := q_wg5 (i := 142) rfl rfl
theorem w_1104 : Cond.methodLink "TreePassesModel" 175 ⟨"TreePassesModel", "ruleAt", "(II)I"⟩ ∈ q_gd := q_wg5 (i := 144) rfl rfl
theorem w_1106 : Cond.instanceMethod ⟨"TreePassesModel", "ruleAt", "(II)I"⟩ ∈ q_gd := q_wg5 (i := 146) rfl rfl
theorem w_1108 : Cond.methodLink "TreePassesLaw" 52 ⟨"TreePassesModel", "piece", "(II)I"⟩ ∈ q_gd := q_wg5 (i := 148) rfl rfl
theorem w_1109 : Cond.instanceMethod ⟨"TreePassesModel", "piece", "(II)I"⟩ ∈ q_gd := q_wg5 (i := 149) rfl rfl
theorem w_1110 : Cond.selects "TreePassesModel" ⟨"TreePassesModel", "piece", "(II)I"⟩ ⟨"TreePassesModel", "piece", "(II)I"⟩ ∈ q_gd := q_wg5 (i := 150) rfl rfl
theorem w_1112 : Cond.methodLink "TreePassesLaw" 56 ⟨"TreePassesModel", "enter", "(I)I"⟩ ∈ q_gd := q_wg5 (i := 152) rfl rfl
theorem w_1113 : Cond.instanceMethod ⟨"TreePassesModel", "enter", "(I)I"⟩ ∈ q_gd := q_wg5 (i := 153) rfl rfl
theorem w_1114 : Cond.selects "TreePassesModel" ⟨"TreePassesModel", "enter", "(I)I"⟩ ⟨"TreePassesModel", "enter", "(I)I"⟩ ∈ q_gd := q_wg5 (i := 154) rfl rfl
theorem w_1116 : Cond.methodLink "TreePassesModel" 178 ⟨"TreePassesModel", "note", "()V"⟩ ∈ q_gd := q_wg5 (i := 156) rfl rfl
theorem w_1118 : Cond.instanceMethod ⟨"TreePassesModel", "note", "()V"⟩ ∈ q_gd := q_wg5 (i := 158) rfl rfl
theorem w_1120 : Cond.methodLink "TreePassesModel" 181 ⟨"TreePassesModel", "putRule", "(I)V"⟩ ∈ q_gd := q_wg5 (i := 160) rfl rfl
theorem w_1122 : Cond.instanceMethod ⟨"TreePassesModel", "putRule", "(I)V"⟩ ∈ q_gd := q_wg5 (i := 162) rfl rfl
theorem w_1124 : Cond.methodLink "TreePassesLaw" 60 ⟨"TreePassesModel", "cut", "(I)I"⟩ ∈ q_gd := q_wg5 (i := 164) rfl rfl
theorem w_1125 : Cond.instanceMethod ⟨"TreePassesModel", "cut", "(I)I"⟩ ∈ q_gd := q_wg5 (i := 165) rfl rfl
theorem w_1126 : Cond.selects "TreePassesModel" ⟨"TreePassesModel", "cut", "(I)I"⟩ ⟨"TreePassesModel", "cut", "(I)I"⟩ ∈ q_gd := q_wg5 (i := 166) rfl rfl
theorem w_1128 : Cond.methodLink "TreePassesModel" 184 ⟨"TreePassesModel", "moveRules", "(II)V"⟩ ∈ q_gd := q_wg5 (i := 168) rfl rfl
theorem w_1130 : Cond.instanceMethod ⟨"TreePassesModel", "moveRules", "(II)V"⟩ ∈ q_gd := q_wg5 (i := 170) rfl rfl
theorem w_1132 : Cond.methodLink "TreePassesLaw" 64 ⟨"TreePassesModel", "shift", "(II)I"⟩ ∈ q_gd := q_wg5 (i := 172) rfl rfl
theorem w_1133 : Cond.instanceMethod ⟨"TreePassesModel", "shift", "(II)I"⟩ ∈ q_gd := q_wg5 (i := 173) rfl rfl
theorem w_1134 : Cond.selects "TreePassesModel" ⟨"TreePassesModel", "shift", "(II)I"⟩ ⟨"TreePassesModel", "shift", "(II)I"⟩ ∈ q_gd := q_wg5 (i := 174) rfl rfl
theorem w_1136 : Cond.methodLink "TreePassesLaw" 68 ⟨"TreePassesModel", "leaf", "(III)I"⟩ ∈ q_gd := q_wg5 (i := 176) rfl rfl
theorem w_1137 : Cond.instanceMethod ⟨"TreePassesModel", "leaf", "(III)I"⟩ ∈ q_gd := q_wg5 (i := 177) rfl rfl
theorem w_1138 : Cond.selects "TreePassesModel" ⟨"TreePassesModel", "leaf", "(III)I"⟩ ⟨"TreePassesModel", "leaf", "(III)I"⟩ ∈ q_gd := q_wg5 (i := 178) rfl rfl
theorem w_1140 : Cond.methodLink "TreePassesLaw" 72 ⟨"TreePassesModel", "flip", "(III)I"⟩ ∈ q_gd := q_wg5 (i := 180) rfl rfl
theorem w_1141 : Cond.instanceMethod ⟨"TreePassesModel", "flip", "(III)I"⟩ ∈ q_gd := q_wg5 (i := 181) rfl rfl
theorem w_1142 : Cond.selects "TreePassesModel" ⟨"TreePassesModel", "flip", "(III)I"⟩ ⟨"TreePassesModel", "flip", "(III)I"⟩ ∈ q_gd := q_wg5 (i := 182) rfl rfl
theorem w_1144 : Cond.methodLink "TreePassesModel" 187 ⟨"TreePassesModel", "table", "(III)I"⟩ ∈ q_gd := q_wg5 (i := 184) rfl rfl
theorem w_1145 : Cond.methodLink "TreePassesLaw" 76 ⟨"TreePassesModel", "rename", "(II)I"⟩ ∈ q_gd := q_wg5 (i := 185) rfl rfl
theorem w_1146 : Cond.instanceMethod ⟨"TreePassesModel", "rename", "(II)I"⟩ ∈ q_gd := q_wg5 (i := 186) rfl rfl
theorem w_1147 : Cond.selects "TreePassesModel" ⟨"TreePassesModel", "rename", "(II)I"⟩ ⟨"TreePassesModel", "rename", "(II)I"⟩ ∈ q_gd := q_wg5 (i := 187) rfl rfl
theorem w_1149 : Cond.constantLong "TreePassesModel" 190 (lN 3) ∈ q_gd := q_wg5 (i := 189) rfl rfl
theorem w_1150 : Cond.methodLink "TreePassesLaw" 80 ⟨"TreePassesModel", "undo", "()I"⟩ ∈ q_gd := q_wg5 (i := 190) rfl rfl
theorem w_1151 : Cond.instanceMethod ⟨"TreePassesModel", "undo", "()I"⟩ ∈ q_gd := q_wg5 (i := 191) rfl rfl
theorem w_1152 : Cond.selects "TreePassesModel" ⟨"TreePassesModel", "undo", "()I"⟩ ⟨"TreePassesModel", "undo", "()I"⟩ ∈ q_gd := q_wg5 (i := 192) rfl rfl
theorem w_1154 : Cond.methodLink "TreePassesLaw" 85 ⟨"TreePassesModel", "out", "(IIII)I"⟩ ∈ q_gd := q_wg5 (i := 194) rfl rfl
theorem w_1155 : Cond.instanceMethod ⟨"TreePassesModel", "out", "(IIII)I"⟩ ∈ q_gd := q_wg5 (i := 195) rfl rfl
theorem w_1156 : Cond.selects "TreePassesModel" ⟨"TreePassesModel", "out", "(IIII)I"⟩ ⟨"TreePassesModel", "out", "(IIII)I"⟩ ∈ q_gd := q_wg5 (i := 196) rfl rfl
theorem w_1158 : Cond.methodLink "TreePassesModel" 212 ⟨"TreePassesModel", "go", "(II)I"⟩ ∈ q_gd := q_wg5 (i := 198) rfl rfl
theorem w_1160 : Cond.instanceMethod ⟨"TreePassesModel", "go", "(II)I"⟩ ∈ q_gd := q_wg5 (i := 200) rfl rfl
theorem w_1162 : Cond.methodLink "TreePassesModel" 198 ⟨"TreePassesModel", "isCome", "(III)Z"⟩ ∈ q_gd := q_wg5 (i := 202) rfl rfl
theorem w_1164 : Cond.instanceMethod ⟨"TreePassesModel", "isCome", "(III)Z"⟩ ∈ q_gd := q_wg5 (i := 204) rfl rfl
theorem w_1166 : Cond.methodLink "TreePassesModel" 205 ⟨"TreePassesModel", "ruleFor", "(IIII)I"⟩ ∈ q_gd := q_wg5 (i := 206) rfl rfl
theorem w_1168 : Cond.instanceMethod ⟨"TreePassesModel", "ruleFor", "(IIII)I"⟩ ∈ q_gd := q_wg5 (i := 208) rfl rfl
theorem w_1170 : Cond.methodLink "TreePassesModel" 202 ⟨"TreePassesModel", "isSecond", "(III)Z"⟩ ∈ q_gd := q_wg5 (i := 210) rfl rfl
theorem w_1172 : Cond.instanceMethod ⟨"TreePassesModel", "isSecond", "(III)Z"⟩ ∈ q_gd := q_wg5 (i := 212) rfl rfl
theorem w_1174 : Cond.methodLink "TreePassesModel" 215 ⟨"TreePassesModel", "answer", "(III)I"⟩ ∈ q_gd := q_wg5 (i := 214) rfl rfl
theorem w_1176 : Cond.instanceMethod ⟨"TreePassesModel", "answer", "(III)I"⟩ ∈ q_gd := q_wg5 (i := 216) rfl rfl
theorem w_1178 : Cond.methodLink "TreePassesLaw" 89 ⟨"TreePassesModel", "both", "(II)I"⟩ ∈ q_gd := q_wg5 (i := 218) rfl rfl
theorem w_1179 : Cond.instanceMethod ⟨"TreePassesModel", "both", "(II)I"⟩ ∈ q_gd := q_wg5 (i := 219) rfl rfl
theorem w_1180 : Cond.selects "TreePassesModel" ⟨"TreePassesModel", "both", "(II)I"⟩ ⟨"TreePassesModel", "both", "(II)I"⟩ ∈ q_gd := q_wg5 (i := 220) rfl rfl
theorem w_1182 : Cond.methodLink "TreePassesLaw" 93 ⟨"TreePassesModel", "one", "(II)I"⟩ ∈ q_gd := q_wg5 (i := 222) rfl rfl
theorem w_1183 : Cond.instanceMethod ⟨"TreePassesModel", "one", "(II)I"⟩ ∈ q_gd := q_wg5 (i := 223) rfl rfl
theorem w_1184 : Cond.selects "TreePassesModel" ⟨"TreePassesModel", "one", "(II)I"⟩ ⟨"TreePassesModel", "one", "(II)I"⟩ ∈ q_gd := q_wg5 (i := 224) rfl rfl
theorem w_1186 : Cond.methodLink "TreePassesModel" 239 ⟨"TreePassesModel", "goAsOne", "()I"⟩ ∈ q_gd := q_wg5 (i := 226) rfl rfl
theorem w_1188 : Cond.instanceMethod ⟨"TreePassesModel", "goAsOne", "()I"⟩ ∈ q_gd := q_wg5 (i := 228) rfl rfl
theorem w_1190 : Cond.methodLink "TreePassesModel" 227 ⟨"TreePassesModel", "isBegun", "(II)Z"⟩ ∈ q_gd := q_wg5 (i := 230) rfl rfl
theorem w_1192 : Cond.instanceMethod ⟨"TreePassesModel", "isBegun", "(II)Z"⟩ ∈ q_gd := q_wg5 (i := 232) rfl rfl
theorem w_1194 : Cond.methodLink "TreePassesModel" 233 ⟨"TreePassesModel", "comesUpon", "(I)Z"⟩ ∈ q_gd := q_wg5 (i := 234) rfl rfl
theorem w_1196 : Cond.instanceMethod ⟨"TreePassesModel", "comesUpon", "(I)Z"⟩ ∈ q_gd := q_wg5 (i := 236) rfl rfl
theorem w_1198 : Cond.methodLink "TreePassesModel" 230 ⟨"TreePassesModel", "isMade", "()Z"⟩ ∈ q_gd := q_wg5 (i := 238) rfl rfl
theorem w_1200 : Cond.instanceMethod ⟨"TreePassesModel", "isMade", "()Z"⟩ ∈ q_gd := q_wg6 (i := 0) rfl rfl
theorem w_1202 : Cond.methodLink "TreePassesModel" 236 ⟨"TreePassesModel", "behindPart", "(II)I"⟩ ∈ q_gd := q_wg6 (i := 2) rfl rfl
theorem w_1204 : Cond.instanceMethod ⟨"TreePassesModel", "behindPart", "(II)I"⟩ ∈ q_gd := q_wg6 (i := 4) rfl rfl
theorem w_1206 : Cond.methodLink "TreePassesLaw" 97 ⟨"TreePassesModel", "linear", "(II)I"⟩ ∈ q_gd := q_wg6 (i := 6) rfl rfl
theorem w_1207 : Cond.instanceMethod ⟨"TreePassesModel", "linear", "(II)I"⟩ ∈ q_gd := q_wg6 (i := 7) rfl rfl
theorem w_1208 : Cond.selects "TreePassesModel" ⟨"TreePassesModel", "linear", "(II)I"⟩ ⟨"TreePassesModel", "linear", "(II)I"⟩ ∈ q_gd := q_wg6 (i := 8) rfl rfl
theorem w_1210 : Cond.methodLink "TreePassesLaw" 101 ⟨"TreePassesModel", "visits", "(III)I"⟩ ∈ q_gd := q_wg6 (i := 10) rfl rfl
theorem w_1211 : Cond.instanceMethod ⟨"TreePassesModel", "visits", "(III)I"⟩ ∈ q_gd := q_wg6 (i := 11) rfl rfl
theorem w_1212 : Cond.selects "TreePassesModel" ⟨"TreePassesModel", "visits", "(III)I"⟩ ⟨"TreePassesModel", "visits", "(III)I"⟩ ∈ q_gd := q_wg6 (i := 12) rfl rfl
theorem w_1214 : Cond.methodLink "TreePassesLaw" 105 ⟨"TreePassesModel", "comes", "(I)I"⟩ ∈ q_gd := q_wg6 (i := 14) rfl rfl
theorem w_1215 : Cond.instanceMethod ⟨"TreePassesModel", "comes", "(I)I"⟩ ∈ q_gd := q_wg6 (i := 15) rfl rfl
theorem w_1216 : Cond.selects "TreePassesModel" ⟨"TreePassesModel", "comes", "(I)I"⟩ ⟨"TreePassesModel", "comes", "(I)I"⟩ ∈ q_gd := q_wg6 (i := 16) rfl rfl
theorem w_1218 : Cond.methodLink "TreePassesModel" 257 ⟨"TreePassesModel", "findComing", "(I)V"⟩ ∈ q_gd := q_wg6 (i := 18) rfl rfl
theorem w_1220 : Cond.instanceMethod ⟨"TreePassesModel", "findComing", "(I)V"⟩ ∈ q_gd := q_wg6 (i := 20) rfl rfl
theorem w_1222 : Cond.methodLink "TreePassesModel" 251 ⟨"TreePassesModel", "mayBe", "(III)Z"⟩ ∈ q_gd := q_wg6 (i := 22) rfl rfl
theorem w_1224 : Cond.instanceMethod ⟨"TreePassesModel", "mayBe", "(III)Z"⟩ ∈ q_gd := q_wg6 (i := 24) rfl rfl
theorem w_1226 : Cond.methodLink "TreePassesModel" 254 ⟨"TreePassesModel", "profileOf", "(IIII)I"⟩ ∈ q_gd := q_wg6 (i := 26) rfl rfl
theorem w_1228 : Cond.instanceMethod ⟨"TreePassesModel", "profileOf", "(IIII)I"⟩ ∈ q_gd := q_wg6 (i := 28) rfl rfl
theorem w_1230 : Cond.methodLink "TreePassesModel" 245 ⟨"TreePassesModel", "typeOf", "(IIII)I"⟩ ∈ q_gd := q_wg6 (i := 30) rfl rfl
theorem w_1232 : Cond.instanceMethod ⟨"TreePassesModel", "typeOf", "(IIII)I"⟩ ∈ q_gd := q_wg6 (i := 32) rfl rfl
theorem w_1234 : Cond.methodLink "TreePassesModel" 242 ⟨"TreePassesModel", "typeIn", "(II)I"⟩ ∈ q_gd := q_wg6 (i := 34) rfl rfl
theorem w_1235 : Cond.static ⟨"TreePassesModel", "typeIn", "(II)I"⟩ ∈ q_gd := q_wg6 (i := 35) rfl rfl
theorem w_1237 : Cond.methodLink "TreePassesLaw" 109 ⟨"TreePassesModel", "least", "(III)I"⟩ ∈ q_gd := q_wg6 (i := 37) rfl rfl
theorem w_1238 : Cond.instanceMethod ⟨"TreePassesModel", "least", "(III)I"⟩ ∈ q_gd := q_wg6 (i := 38) rfl rfl
theorem w_1239 : Cond.selects "TreePassesModel" ⟨"TreePassesModel", "least", "(III)I"⟩ ⟨"TreePassesModel", "least", "(III)I"⟩ ∈ q_gd := q_wg6 (i := 39) rfl rfl
theorem w_1241 : Cond.constantLong "TreePassesModel" 269 (lN 53) ∈ q_gd := q_wg6 (i := 41) rfl rfl
theorem w_1242 : Cond.methodLink "TreePassesModel" 271 ⟨"TreePassesModel", "findLeast", "(I)V"⟩ ∈ q_gd := q_wg6 (i := 42) rfl rfl
theorem w_1244 : Cond.instanceMethod ⟨"TreePassesModel", "findLeast", "(I)V"⟩ ∈ q_gd := q_wg6 (i := 44) rfl rfl
theorem w_1246 : Cond.methodLink "TreePassesModel" 260 ⟨"TreePassesModel", "sizeOf", "(III)I"⟩ ∈ q_gd := q_wg6 (i := 46) rfl rfl
theorem w_1248 : Cond.instanceMethod ⟨"TreePassesModel", "sizeOf", "(III)I"⟩ ∈ q_gd := q_wg6 (i := 48) rfl rfl
theorem w_1250 : Cond.methodLink "TreePassesModel" 263 ⟨"TreePassesModel", "build", "(III)I"⟩ ∈ q_gd := q_wg6 (i := 50) rfl rfl
theorem w_1252 : Cond.instanceMethod ⟨"TreePassesModel", "build", "(III)I"⟩ ∈ q_gd := q_wg6 (i := 52) rfl rfl
theorem w_1254 : Cond.methodLink "TreePassesModel" 266 ⟨"TreePassesModel", "isFirst", "(II)Z"⟩ ∈ q_gd := q_wg6 (i := 54) rfl rfl
theorem w_1256 : Cond.instanceMethod ⟨"TreePassesModel", "isFirst", "(II)Z"⟩ ∈ q_gd := q_wg6 (i := 56) rfl rfl
theorem w_1258 : Cond.methodLink "TreePassesLaw" 113 ⟨"TreePassesModel", "total", "(III)I"⟩ ∈ q_gd := q_wg6 (i := 58) rfl rfl
theorem w_1259 : Cond.instanceMethod ⟨"TreePassesModel", "total", "(III)I"⟩ ∈ q_gd := q_wg6 (i := 59) rfl rfl
theorem w_1260 : Cond.selects "TreePassesModel" ⟨"TreePassesModel", "total", "(III)I"⟩ ⟨"TreePassesModel", "total", "(III)I"⟩ ∈ q_gd := q_wg6 (i := 60) rfl rfl
theorem w_1262 : Cond.methodLink "TreePassesModel" 277 ⟨"TreePassesModel", "firstWith", "(IIII)I"⟩ ∈ q_gd := q_wg6 (i := 62) rfl rfl
theorem w_1264 : Cond.instanceMethod ⟨"TreePassesModel", "firstWith", "(IIII)I"⟩ ∈ q_gd := q_wg6 (i := 64) rfl rfl
theorem w_1266 : Cond.methodLink "TreePassesModel" 274 ⟨"TreePassesModel", "isLess", "(II)Z"⟩ ∈ q_gd := q_wg6 (i := 66) rfl rfl
theorem w_1268 : Cond.instanceMethod ⟨"TreePassesModel", "isLess", "(II)Z"⟩ ∈ q_gd := q_wg6 (i := 68) rfl rfl
theorem w_1270 : Cond.methodLink "TreePassesLaw" 117 ⟨"TreePassesModel", "typed", "(III)I"⟩ ∈ q_gd := q_wg6 (i := 70) rfl rfl
theorem w_1271 : Cond.instanceMethod ⟨"TreePassesModel", "typed", "(III)I"⟩ ∈ q_gd := q_wg6 (i := 71) rfl rfl
theorem w_1272 : Cond.selects "TreePassesModel" ⟨"TreePassesModel", "typed", "(III)I"⟩ ⟨"TreePassesModel", "typed", "(III)I"⟩ ∈ q_gd := q_wg6 (i := 72) rfl rfl
theorem w_1274 : Cond.methodLink "TreePassesLaw" 121 ⟨"TreePassesModel", "keep", "()I"⟩ ∈ q_gd := q_wg6 (i := 74) rfl rfl
theorem w_1275 : Cond.instanceMethod ⟨"TreePassesModel", "keep", "()I"⟩ ∈ q_gd := q_wg6 (i := 75) rfl rfl
theorem w_1276 : Cond.selects "TreePassesModel" ⟨"TreePassesModel", "keep", "()I"⟩ ⟨"TreePassesModel", "keep", "()I"⟩ ∈ q_gd := q_wg6 (i := 76) rfl rfl
theorem w_1278 : Cond.methodLink "TreePassesLaw" 125 ⟨"TreePassesModel", "back", "()I"⟩ ∈ q_gd := q_wg6 (i := 78) rfl rfl
theorem w_1279 : Cond.instanceMethod ⟨"TreePassesModel", "back", "()I"⟩ ∈ q_gd := q_wg6 (i := 79) rfl rfl
theorem w_1280 : Cond.selects "TreePassesModel" ⟨"TreePassesModel", "back", "()I"⟩ ⟨"TreePassesModel", "back", "()I"⟩ ∈ q_gd := q_wg6 (i := 80) rfl rfl
theorem w_1282 : Cond.methodLink "TreePassesLaw" 129 ⟨"TreePassesModel", "count", "(I)I"⟩ ∈ q_gd := q_wg6 (i := 82) rfl rfl
theorem w_1283 : Cond.instanceMethod ⟨"TreePassesModel", "count", "(I)I"⟩ ∈ q_gd := q_wg6 (i := 83) rfl rfl
theorem w_1284 : Cond.selects "TreePassesModel" ⟨"TreePassesModel", "count", "(I)I"⟩ ⟨"TreePassesModel", "count", "(I)I"⟩ ∈ q_gd := q_wg6 (i := 84) rfl rfl
theorem w_1286 : Cond.methodLink "TreePassesModel" 280 ⟨"TreePassesModel", "rulesOf", "(I)I"⟩ ∈ q_gd := q_wg6 (i := 86) rfl rfl
theorem w_1288 : Cond.instanceMethod ⟨"TreePassesModel", "rulesOf", "(I)I"⟩ ∈ q_gd := q_wg6 (i := 88) rfl rfl
theorem w_1290 : Cond.selects "TreePasses$Unmade" ⟨"TreePasses$Unmade", "nodeAt", "(I)I"⟩ ⟨"TreePasses$Unmade", "nodeAt", "(I)I"⟩ ∈ q_gd := q_wg6 (i := 90) rfl rfl
theorem w_1291 : Cond.fieldLink "java/lang/String" 9 "java/lang/String" "value" "[B" ∈ q_gd := q_wg6 (i := 91) rfl rfl
theorem w_1292 : Cond.fieldLink "java/lang/String" 15 "java/lang/String" "coder" "B" ∈ q_gd := q_wg6 (i := 92) rfl rfl
theorem wp_0 : Cond.selects "TreePasses$Scroll" ⟨"TreePasses$Scroll", "begin", "()V"⟩ ⟨"TreePasses$Scroll", "begin", "()V"⟩ ∈ q_gd := q_wp (i := 0) (q := (⟨"TreePasses$Scroll", "begin", "()V"⟩, 5)) (by decide +kernel)
theorem wp_1 : Cond.selects "TreePasses$Scroll" ⟨"TreePasses$Scroll", "readItem", "(LTreePasses$Program;)V"⟩ ⟨"TreePasses$Scroll", "readItem", "(LTreePasses$Program;)V"⟩ ∈ q_gd := q_wp (i := 1) (q := (⟨"TreePasses$Scroll", "readItem", "(LTreePasses$Program;)V"⟩, 5)) (by decide +kernel)
theorem wp_2 : Cond.selects "TreePasses$Scroll" ⟨"TreePasses$Scroll", "next", "()I"⟩ ⟨"TreePasses$Scroll", "next", "()I"⟩ ∈ q_gd := q_wp (i := 2) (q := (⟨"TreePasses$Scroll", "next", "()I"⟩, 5)) (by decide +kernel)
theorem wp_3 : Cond.selects "TreePasses$Scroll" ⟨"TreePasses$Scroll", "readTree", "(LTreePasses$Program;)V"⟩ ⟨"TreePasses$Scroll", "readTree", "(LTreePasses$Program;)V"⟩ ∈ q_gd := q_wp (i := 3) (q := (⟨"TreePasses$Scroll", "readTree", "(LTreePasses$Program;)V"⟩, 5)) (by decide +kernel)
theorem wp_4 : Cond.selects "TreePasses$Scroll" ⟨"TreePasses$Scroll", "figure", "(I)I"⟩ ⟨"TreePasses$Scroll", "figure", "(I)I"⟩ ∈ q_gd := q_wp (i := 4) (q := (⟨"TreePasses$Scroll", "figure", "(I)I"⟩, 5)) (by decide +kernel)
theorem wp_5 : Cond.selects "TreePasses$Scroll" ⟨"TreePasses$Scroll", "expect", "(C)V"⟩ ⟨"TreePasses$Scroll", "expect", "(C)V"⟩ ∈ q_gd := q_wp (i := 5) (q := (⟨"TreePasses$Scroll", "expect", "(C)V"⟩, 5)) (by decide +kernel)
theorem wp_6 : Cond.selects "TreePasses$Scroll" ⟨"TreePasses$Scroll", "readRow", "([IIII)I"⟩ ⟨"TreePasses$Scroll", "readRow", "([IIII)I"⟩ ∈ q_gd := q_wp (i := 6) (q := (⟨"TreePasses$Scroll", "readRow", "([IIII)I"⟩, 5)) (by decide +kernel)
theorem wp_7 : Cond.selects "TreePasses$Scroll" ⟨"TreePasses$Scroll", "readPiece", "(II)I"⟩ ⟨"TreePasses$Scroll", "readPiece", "(II)I"⟩ ∈ q_gd := q_wp (i := 7) (q := (⟨"TreePasses$Scroll", "readPiece", "(II)I"⟩, 5)) (by decide +kernel)
theorem wp_8 : Cond.selects "TreePasses$Scroll" ⟨"TreePasses$Scroll", "callSign", "(I)I"⟩ ⟨"TreePasses$Scroll", "callSign", "(I)I"⟩ ∈ q_gd := q_wp (i := 8) (q := (⟨"TreePasses$Scroll", "callSign", "(I)I"⟩, 5)) (by decide +kernel)
theorem wp_9 : Cond.selects "TreePasses$Scroll" ⟨"TreePasses$Scroll", "readKind", "(LTreePasses$Program;)V"⟩ ⟨"TreePasses$Scroll", "readKind", "(LTreePasses$Program;)V"⟩ ∈ q_gd := q_wp (i := 9) (q := (⟨"TreePasses$Scroll", "readKind", "(LTreePasses$Program;)V"⟩, 5)) (by decide +kernel)
theorem wp_10 : Cond.selects "TreePasses$Scroll" ⟨"TreePasses$Scroll", "readEntries", "(LTreePasses$Program;)V"⟩ ⟨"TreePasses$Scroll", "readEntries", "(LTreePasses$Program;)V"⟩ ∈ q_gd := q_wp (i := 10) (q := (⟨"TreePasses$Scroll", "readEntries", "(LTreePasses$Program;)V"⟩, 5)) (by decide +kernel)
theorem wp_11 : Cond.selects "TreePasses$Scroll" ⟨"TreePasses$Scroll", "letter", "()I"⟩ ⟨"TreePasses$Scroll", "letter", "()I"⟩ ∈ q_gd := q_wp (i := 11) (q := (⟨"TreePasses$Scroll", "letter", "()I"⟩, 5)) (by decide +kernel)
theorem wp_12 : Cond.selects "TreePasses$Scroll" ⟨"TreePasses$Scroll", "readRule", "([I)V"⟩ ⟨"TreePasses$Scroll", "readRule", "([I)V"⟩ ∈ q_gd := q_wp (i := 12) (q := (⟨"TreePasses$Scroll", "readRule", "([I)V"⟩, 5)) (by decide +kernel)
theorem wp_13 : Cond.selects "TreePasses$Scroll" ⟨"TreePasses$Scroll", "sight", "()I"⟩ ⟨"TreePasses$Scroll", "sight", "()I"⟩ ∈ q_gd := q_wp (i := 13) (q := (⟨"TreePasses$Scroll", "sight", "()I"⟩, 5)) (by decide +kernel)
theorem wp_14 : Cond.selects "TreePasses$Program" ⟨"TreePasses$Program", "offerRule", "(II)V"⟩ ⟨"TreePasses$Program", "offerRule", "(II)V"⟩ ∈ q_gd := q_wp (i := 14) (q := (⟨"TreePasses$Program", "offerRule", "(II)V"⟩, 7)) (by decide +kernel)
theorem wp_15 : Cond.selects "TreePasses" ⟨"TreePasses", "forgetCensus", "()V"⟩ ⟨"TreePasses", "forgetCensus", "()V"⟩ ∈ q_gd := q_wp (i := 15) (q := (⟨"TreePasses", "forgetCensus", "()V"⟩, 12)) (by decide +kernel)
theorem wp_16 : Cond.selects "TreePasses$Standing" ⟨"TreePasses$Standing", "weigh", "(LTreePasses$Program;I)V"⟩ ⟨"TreePasses$Standing", "weigh", "(LTreePasses$Program;I)V"⟩ ∈ q_gd := q_wp (i := 16) (q := (⟨"TreePasses$Standing", "weigh", "(LTreePasses$Program;I)V"⟩, 4)) (by decide +kernel)
theorem wp_17 : Cond.selects "TreePasses$Shelf" ⟨"TreePasses$Shelf", "placeOf", "(I)I"⟩ ⟨"TreePasses$Shelf", "placeOf", "(I)I"⟩ ∈ q_gd := q_wp (i := 17) (q := (⟨"TreePasses$Shelf", "placeOf", "(I)I"⟩, 3)) (by decide +kernel)
theorem wp_18 : Cond.selects "TreePasses" ⟨"TreePasses", "changed", "()V"⟩ ⟨"TreePasses", "changed", "()V"⟩ ∈ q_gd := q_wp (i := 18) (q := (⟨"TreePasses", "changed", "()V"⟩, 12)) (by decide +kernel)
theorem wp_19 : Cond.selects "TreePasses$Unmade" ⟨"TreePasses$Unmade", "make", "(LTreePasses$Program;II)I"⟩ ⟨"TreePasses$Unmade", "make", "(LTreePasses$Program;II)I"⟩ ∈ q_gd := q_wp (i := 19) (q := (⟨"TreePasses$Unmade", "make", "(LTreePasses$Program;II)I"⟩, 1)) (by decide +kernel)
theorem wp_20 : Cond.selects "TreePasses$Walk" ⟨"TreePasses$Walk", "come", "(LTreePasses$Program;LTreePasses$Ground;III)I"⟩ ⟨"TreePasses$Walk", "come", "(LTreePasses$Program;LTreePasses$Ground;III)I"⟩ ∈ q_gd := q_wp (i := 20) (q := (⟨"TreePasses$Walk", "come", "(LTreePasses$Program;LTreePasses$Ground;III)I"⟩, 7)) (by decide +kernel)
theorem wp_21 : Cond.selects "TreePasses$Walk" ⟨"TreePasses$Walk", "step", "(LTreePasses$Program;LTreePasses$Ground;I)I"⟩ ⟨"TreePasses$Walk", "step", "(LTreePasses$Program;LTreePasses$Ground;I)I"⟩ ∈ q_gd := q_wp (i := 21) (q := (⟨"TreePasses$Walk", "step", "(LTreePasses$Program;LTreePasses$Ground;I)I"⟩, 7)) (by decide +kernel)
theorem wp_22 : Cond.selects "TreePasses$Walk" ⟨"TreePasses$Walk", "append", "(I)I"⟩ ⟨"TreePasses$Walk", "append", "(I)I"⟩ ∈ q_gd := q_wp (i := 22) (q := (⟨"TreePasses$Walk", "append", "(I)I"⟩, 7)) (by decide +kernel)
theorem wp_23 : Cond.selects "TreePasses" ⟨"TreePasses", "letterMade", "(II)I"⟩ ⟨"TreePasses", "letterMade", "(II)I"⟩ ∈ q_gd := q_wp (i := 23) (q := (⟨"TreePasses", "letterMade", "(II)I"⟩, 12)) (by decide +kernel)
theorem wp_24 : Cond.selects "TreePasses$Program" ⟨"TreePasses$Program", "callsFor", "(II)I"⟩ ⟨"TreePasses$Program", "callsFor", "(II)I"⟩ ∈ q_gd := q_wp (i := 24) (q := (⟨"TreePasses$Program", "callsFor", "(II)I"⟩, 7)) (by decide +kernel)
theorem wp_25 : Cond.selects "TreePasses" ⟨"TreePasses", "censusOf", "(I)LTreePasses$Census;"⟩ ⟨"TreePasses", "censusOf", "(I)LTreePasses$Census;"⟩ ∈ q_gd := q_wp (i := 25) (q := (⟨"TreePasses", "censusOf", "(I)LTreePasses$Census;"⟩, 12)) (by decide +kernel)
theorem wp_26 : Cond.selects "TreePasses$Census" ⟨"TreePasses$Census", "begin", "(LTreePasses$Program;)V"⟩ ⟨"TreePasses$Census", "begin", "(LTreePasses$Program;)V"⟩ ∈ q_gd := q_wp (i := 26) (q := (⟨"TreePasses$Census", "begin", "(LTreePasses$Program;)V"⟩, 15)) (by decide +kernel)
theorem wp_27 : Cond.selects "TreePasses$Census" ⟨"TreePasses$Census", "workOut", "(LTreePasses$Program;I)V"⟩ ⟨"TreePasses$Census", "workOut", "(LTreePasses$Program;I)V"⟩ ∈ q_gd := q_wp (i := 27) (q := (⟨"TreePasses$Census", "workOut", "(LTreePasses$Program;I)V"⟩, 15)) (by decide +kernel)
theorem wp_28 : Cond.selects "TreePasses$Census" ⟨"TreePasses$Census", "typeAbove", "(LTreePasses$Program;II)J"⟩ ⟨"TreePasses$Census", "typeAbove", "(LTreePasses$Program;II)J"⟩ ∈ q_gd := q_wp (i := 28) (q := (⟨"TreePasses$Census", "typeAbove", "(LTreePasses$Program;II)J"⟩, 15)) (by decide +kernel)
theorem wp_29 : Cond.selects "TreePasses$Census" ⟨"TreePasses$Census", "offer", "(LTreePasses$Program;III)V"⟩ ⟨"TreePasses$Census", "offer", "(LTreePasses$Program;III)V"⟩ ∈ q_gd := q_wp (i := 29) (q := (⟨"TreePasses$Census", "offer", "(LTreePasses$Program;III)V"⟩, 15)) (by decide +kernel)
theorem wp_30 : Cond.selects "TreePasses$Census" ⟨"TreePasses$Census", "profileOf", "(LTreePasses$Program;III)I"⟩ ⟨"TreePasses$Census", "profileOf", "(LTreePasses$Program;III)I"⟩ ∈ q_gd := q_wp (i := 30) (q := (⟨"TreePasses$Census", "profileOf", "(LTreePasses$Program;III)I"⟩, 15)) (by decide +kernel)
theorem wp_31 : Cond.selects "TreePasses$Census" ⟨"TreePasses$Census", "isBefore", "(IIIII)Z"⟩ ⟨"TreePasses$Census", "isBefore", "(IIIII)Z"⟩ ∈ q_gd := q_wp (i := 31) (q := (⟨"TreePasses$Census", "isBefore", "(IIIII)Z"⟩, 15)) (by decide +kernel)
theorem wp_32 : Cond.selects "TreePasses$Census" ⟨"TreePasses$Census", "precedes", "(II)Z"⟩ ⟨"TreePasses$Census", "precedes", "(II)Z"⟩ ∈ q_gd := q_wp (i := 32) (q := (⟨"TreePasses$Census", "precedes", "(II)Z"⟩, 15)) (by decide +kernel)
theorem wp_33 : Cond.selects "TreePasses$Census" ⟨"TreePasses$Census", "nearest", "()I"⟩ ⟨"TreePasses$Census", "nearest", "()I"⟩ ∈ q_gd := q_wp (i := 33) (q := (⟨"TreePasses$Census", "nearest", "()I"⟩, 15)) (by decide +kernel)
theorem wp_34 : Cond.selects "TreePasses$Census" ⟨"TreePasses$Census", "settle", "(II)V"⟩ ⟨"TreePasses$Census", "settle", "(II)V"⟩ ∈ q_gd := q_wp (i := 34) (q := (⟨"TreePasses$Census", "settle", "(II)V"⟩, 15)) (by decide +kernel)
theorem wp_35 : Cond.selects "TreePasses" ⟨"TreePasses", "firstLeast", "(IIII)I"⟩ ⟨"TreePasses", "firstLeast", "(IIII)I"⟩ ∈ q_gd := q_wp (i := 35) (q := (⟨"TreePasses", "firstLeast", "(IIII)I"⟩, 12)) (by decide +kernel)
theorem wp_36 : Cond.selects "TreePassesModel" ⟨"TreePassesModel", "readNone", "()V"⟩ ⟨"TreePassesModel", "readNone", "()V"⟩ ∈ q_gd := q_wp (i := 36) (q := (⟨"TreePassesModel", "readNone", "()V"⟩, 33)) (by decide +kernel)
theorem wp_37 : Cond.selects "TreePassesModel" ⟨"TreePassesModel", "treeIs", "(IIIIIIII)V"⟩ ⟨"TreePassesModel", "treeIs", "(IIIIIIII)V"⟩ ∈ q_gd := q_wp (i := 37) (q := (⟨"TreePassesModel", "treeIs", "(IIIIIIII)V"⟩, 33)) (by decide +kernel)
theorem wp_38 : Cond.selects "TreePassesModel" ⟨"TreePassesModel", "ruleIs", "(IIIIIIII)V"⟩ ⟨"TreePassesModel", "ruleIs", "(IIIIIIII)V"⟩ ∈ q_gd := q_wp (i := 38) (q := (⟨"TreePassesModel", "ruleIs", "(IIIIIIII)V"⟩, 33)) (by decide +kernel)
theorem wp_39 : Cond.selects "TreePassesModel" ⟨"TreePassesModel", "begin", "()V"⟩ ⟨"TreePassesModel", "begin", "()V"⟩ ∈ q_gd := q_wp (i := 39) (q := (⟨"TreePassesModel", "begin", "()V"⟩, 33)) (by decide +kernel)
theorem wp_40 : Cond.selects "TreePassesModel" ⟨"TreePassesModel", "readAll", "()I"⟩ ⟨"TreePassesModel", "readAll", "()I"⟩ ∈ q_gd := q_wp (i := 40) (q := (⟨"TreePassesModel", "readAll", "()I"⟩, 33)) (by decide +kernel)
theorem wp_41 : Cond.selects "TreePassesModel" ⟨"TreePassesModel", "item", "()Z"⟩ ⟨"TreePassesModel", "item", "()Z"⟩ ∈ q_gd := q_wp (i := 41) (q := (⟨"TreePassesModel", "item", "()Z"⟩, 33)) (by decide +kernel)
theorem wp_42 : Cond.selects "TreePassesModel" ⟨"TreePassesModel", "letterAt", "(I)I"⟩ ⟨"TreePassesModel", "letterAt", "(I)I"⟩ ∈ q_gd := q_wp (i := 42) (q := (⟨"TreePassesModel", "letterAt", "(I)I"⟩, 33)) (by decide +kernel)
theorem wp_43 : Cond.selects "TreePassesModel" ⟨"TreePassesModel", "treeItem", "()Z"⟩ ⟨"TreePassesModel", "treeItem", "()Z"⟩ ∈ q_gd := q_wp (i := 43) (q := (⟨"TreePassesModel", "treeItem", "()Z"⟩, 33)) (by decide +kernel)
theorem wp_44 : Cond.selects "TreePassesModel" ⟨"TreePassesModel", "take", "(II)I"⟩ ⟨"TreePassesModel", "take", "(II)I"⟩ ∈ q_gd := q_wp (i := 44) (q := (⟨"TreePassesModel", "take", "(II)I"⟩, 33)) (by decide +kernel)
theorem wp_45 : Cond.selects "TreePassesModel" ⟨"TreePassesModel", "kindItem", "()Z"⟩ ⟨"TreePassesModel", "kindItem", "()Z"⟩ ∈ q_gd := q_wp (i := 45) (q := (⟨"TreePassesModel", "kindItem", "()Z"⟩, 33)) (by decide +kernel)
theorem wp_46 : Cond.selects "TreePassesModel" ⟨"TreePassesModel", "tableItem", "()Z"⟩ ⟨"TreePassesModel", "tableItem", "()Z"⟩ ∈ q_gd := q_wp (i := 46) (q := (⟨"TreePassesModel", "tableItem", "()Z"⟩, 33)) (by decide +kernel)
theorem wp_47 : Cond.selects "TreePassesModel" ⟨"TreePassesModel", "ruleItem", "()Z"⟩ ⟨"TreePassesModel", "ruleItem", "()Z"⟩ ∈ q_gd := q_wp (i := 47) (q := (⟨"TreePassesModel", "ruleItem", "()Z"⟩, 33)) (by decide +kernel)
theorem wp_48 : Cond.selects "TreePassesModel" ⟨"TreePassesModel", "isRuleTold", "()Z"⟩ ⟨"TreePassesModel", "isRuleTold", "()Z"⟩ ∈ q_gd := q_wp (i := 48) (q := (⟨"TreePassesModel", "isRuleTold", "()Z"⟩, 33)) (by decide +kernel)
theorem wp_49 : Cond.selects "TreePassesModel" ⟨"TreePassesModel", "isNode", "(II)Z"⟩ ⟨"TreePassesModel", "isNode", "(II)Z"⟩ ∈ q_gd := q_wp (i := 49) (q := (⟨"TreePassesModel", "isNode", "(II)Z"⟩, 33)) (by decide +kernel)
theorem wp_50 : Cond.selects "TreePassesModel" ⟨"TreePassesModel", "groundIs", "(II)V"⟩ ⟨"TreePassesModel", "groundIs", "(II)V"⟩ ∈ q_gd := q_wp (i := 50) (q := (⟨"TreePassesModel", "groundIs", "(II)V"⟩, 33)) (by decide +kernel)
theorem wp_51 : Cond.selects "TreePassesModel" ⟨"TreePassesModel", "measure", "(I)V"⟩ ⟨"TreePassesModel", "measure", "(I)V"⟩ ∈ q_gd := q_wp (i := 51) (q := (⟨"TreePassesModel", "measure", "(I)V"⟩, 33)) (by decide +kernel)
theorem wp_52 : Cond.selects "TreePassesModel" ⟨"TreePassesModel", "isRule", "(I)Z"⟩ ⟨"TreePassesModel", "isRule", "(I)Z"⟩ ∈ q_gd := q_wp (i := 52) (q := (⟨"TreePassesModel", "isRule", "(I)Z"⟩, 33)) (by decide +kernel)
theorem wp_53 : Cond.selects "TreePassesModel" ⟨"TreePassesModel", "ruleAt", "(II)I"⟩ ⟨"TreePassesModel", "ruleAt", "(II)I"⟩ ∈ q_gd := q_wp (i := 53) (q := (⟨"TreePassesModel", "ruleAt", "(II)I"⟩, 33)) (by decide +kernel)
theorem wp_54 : Cond.selects "TreePassesModel" ⟨"TreePassesModel", "note", "()V"⟩ ⟨"TreePassesModel", "note", "()V"⟩ ∈ q_gd := q_wp (i := 54) (q := (⟨"TreePassesModel", "note", "()V"⟩, 33)) (by decide +kernel)
theorem wp_55 : Cond.selects "TreePassesModel" ⟨"TreePassesModel", "putRule", "(I)V"⟩ ⟨"TreePassesModel", "putRule", "(I)V"⟩ ∈ q_gd := q_wp (i := 55) (q := (⟨"TreePassesModel", "putRule", "(I)V"⟩, 33)) (by decide +kernel)
theorem wp_56 : Cond.selects "TreePassesModel" ⟨"TreePassesModel", "moveRules", "(II)V"⟩ ⟨"TreePassesModel", "moveRules", "(II)V"⟩ ∈ q_gd := q_wp (i := 56) (q := (⟨"TreePassesModel", "moveRules", "(II)V"⟩, 33)) (by decide +kernel)
theorem wp_57 : Cond.selects "TreePassesModel" ⟨"TreePassesModel", "go", "(II)I"⟩ ⟨"TreePassesModel", "go", "(II)I"⟩ ∈ q_gd := q_wp (i := 57) (q := (⟨"TreePassesModel", "go", "(II)I"⟩, 33)) (by decide +kernel)
theorem wp_58 : Cond.selects "TreePassesModel" ⟨"TreePassesModel", "isCome", "(III)Z"⟩ ⟨"TreePassesModel", "isCome", "(III)Z"⟩ ∈ q_gd := q_wp (i := 58) (q := (⟨"TreePassesModel", "isCome", "(III)Z"⟩, 33)) (by decide +kernel)
theorem wp_59 : Cond.selects "TreePassesModel" ⟨"TreePassesModel", "ruleFor", "(IIII)I"⟩ ⟨"TreePassesModel", "ruleFor", "(IIII)I"⟩ ∈ q_gd := q_wp (i := 59) (q := (⟨"TreePassesModel", "ruleFor", "(IIII)I"⟩, 33)) (by decide +kernel)
theorem wp_60 : Cond.selects "TreePassesModel" ⟨"TreePassesModel", "isSecond", "(III)Z"⟩ ⟨"TreePassesModel", "isSecond", "(III)Z"⟩ ∈ q_gd := q_wp (i := 60) (q := (⟨"TreePassesModel", "isSecond", "(III)Z"⟩, 33)) (by decide +kernel)
theorem wp_61 : Cond.selects "TreePassesModel" ⟨"TreePassesModel", "answer", "(III)I"⟩ ⟨"TreePassesModel", "answer", "(III)I"⟩ ∈ q_gd := q_wp (i := 61) (q := (⟨"TreePassesModel", "answer", "(III)I"⟩, 33)) (by decide +kernel)
theorem wp_62 : Cond.selects "TreePassesModel" ⟨"TreePassesModel", "goAsOne", "()I"⟩ ⟨"TreePassesModel", "goAsOne", "()I"⟩ ∈ q_gd := q_wp (i := 62) (q := (⟨"TreePassesModel", "goAsOne", "()I"⟩, 33)) (by decide +kernel)
theorem wp_63 : Cond.selects "TreePassesModel" ⟨"TreePassesModel", "isBegun", "(II)Z"⟩ ⟨"TreePassesModel", "isBegun", "(II)Z"⟩ ∈ q_gd := q_wp (i := 63) (q := (⟨"TreePassesModel", "isBegun", "(II)Z"⟩, 33)) (by decide +kernel)
theorem wp_64 : Cond.selects "TreePassesModel" ⟨"TreePassesModel", "comesUpon", "(I)Z"⟩ ⟨"TreePassesModel", "comesUpon", "(I)Z"⟩ ∈ q_gd := q_wp (i := 64) (q := (⟨"TreePassesModel", "comesUpon", "(I)Z"⟩, 33)) (by decide +kernel)
theorem wp_65 : Cond.selects "TreePassesModel" ⟨"TreePassesModel", "isMade", "()Z"⟩ ⟨"TreePassesModel", "isMade", "()Z"⟩ ∈ q_gd := q_wp (i := 65) (q := (⟨"TreePassesModel", "isMade", "()Z"⟩, 33)) (by decide +kernel)
theorem wp_66 : Cond.selects "TreePassesModel" ⟨"TreePassesModel", "behindPart", "(II)I"⟩ ⟨"TreePassesModel", "behindPart", "(II)I"⟩ ∈ q_gd := q_wp (i := 66) (q := (⟨"TreePassesModel", "behindPart", "(II)I"⟩, 33)) (by decide +kernel)
theorem wp_67 : Cond.selects "TreePassesModel" ⟨"TreePassesModel", "findComing", "(I)V"⟩ ⟨"TreePassesModel", "findComing", "(I)V"⟩ ∈ q_gd := q_wp (i := 67) (q := (⟨"TreePassesModel", "findComing", "(I)V"⟩, 33)) (by decide +kernel)
theorem wp_68 : Cond.selects "TreePassesModel" ⟨"TreePassesModel", "mayBe", "(III)Z"⟩ ⟨"TreePassesModel", "mayBe", "(III)Z"⟩ ∈ q_gd := q_wp (i := 68) (q := (⟨"TreePassesModel", "mayBe", "(III)Z"⟩, 33)) (by decide +kernel)
theorem wp_69 : Cond.selects "TreePassesModel" ⟨"TreePassesModel", "profileOf", "(IIII)I"⟩ ⟨"TreePassesModel", "profileOf", "(IIII)I"⟩ ∈ q_gd := q_wp (i := 69) (q := (⟨"TreePassesModel", "profileOf", "(IIII)I"⟩, 33)) (by decide +kernel)
theorem wp_70 : Cond.selects "TreePassesModel" ⟨"TreePassesModel", "typeOf", "(IIII)I"⟩ ⟨"TreePassesModel", "typeOf", "(IIII)I"⟩ ∈ q_gd := q_wp (i := 70) (q := (⟨"TreePassesModel", "typeOf", "(IIII)I"⟩, 33)) (by decide +kernel)
theorem wp_71 : Cond.selects "TreePassesModel" ⟨"TreePassesModel", "findLeast", "(I)V"⟩ ⟨"TreePassesModel", "findLeast", "(I)V"⟩ ∈ q_gd := q_wp (i := 71) (q := (⟨"TreePassesModel", "findLeast", "(I)V"⟩, 33)) (by decide +kernel)
theorem wp_72 : Cond.selects "TreePassesModel" ⟨"TreePassesModel", "sizeOf", "(III)I"⟩ ⟨"TreePassesModel", "sizeOf", "(III)I"⟩ ∈ q_gd := q_wp (i := 72) (q := (⟨"TreePassesModel", "sizeOf", "(III)I"⟩, 33)) (by decide +kernel)
theorem wp_73 : Cond.selects "TreePassesModel" ⟨"TreePassesModel", "build", "(III)I"⟩ ⟨"TreePassesModel", "build", "(III)I"⟩ ∈ q_gd := q_wp (i := 73) (q := (⟨"TreePassesModel", "build", "(III)I"⟩, 33)) (by decide +kernel)
theorem wp_74 : Cond.selects "TreePassesModel" ⟨"TreePassesModel", "isFirst", "(II)Z"⟩ ⟨"TreePassesModel", "isFirst", "(II)Z"⟩ ∈ q_gd := q_wp (i := 74) (q := (⟨"TreePassesModel", "isFirst", "(II)Z"⟩, 33)) (by decide +kernel)
theorem wp_75 : Cond.selects "TreePassesModel" ⟨"TreePassesModel", "firstWith", "(IIII)I"⟩ ⟨"TreePassesModel", "firstWith", "(IIII)I"⟩ ∈ q_gd := q_wp (i := 75) (q := (⟨"TreePassesModel", "firstWith", "(IIII)I"⟩, 33)) (by decide +kernel)
theorem wp_76 : Cond.selects "TreePassesModel" ⟨"TreePassesModel", "isLess", "(II)Z"⟩ ⟨"TreePassesModel", "isLess", "(II)Z"⟩ ∈ q_gd := q_wp (i := 76) (q := (⟨"TreePassesModel", "isLess", "(II)Z"⟩, 33)) (by decide +kernel)
theorem wp_77 : Cond.selects "TreePassesModel" ⟨"TreePassesModel", "rulesOf", "(I)I"⟩ ⟨"TreePassesModel", "rulesOf", "(I)I"⟩ ∈ q_gd := q_wp (i := 77) (q := (⟨"TreePassesModel", "rulesOf", "(I)I"⟩, 33)) (by decide +kernel)
theorem w_oi : Cond.instanceMethod ⟨"java/lang/Object", "<init>", "()V"⟩ ∈ q_gd := q_wg1 (i := 24) rfl rfl
theorem w_cn : Cond.native ⟨"java/lang/System", "arraycopy", "(Ljava/lang/Object;ILjava/lang/Object;II)V"⟩ ∈ q_gd := q_wg2 (i := 98) rfl rfl
theorem w_cs : Cond.static ⟨"java/lang/System", "arraycopy", "(Ljava/lang/Object;ILjava/lang/Object;II)V"⟩ ∈ q_gd := q_wg2 (i := 97) rfl rfl
theorem w_ci : Cond.initialized "java/lang/System" ∈ q_gd := q_wg1 (i := 16) rfl rfl
theorem w_mi : Cond.initialized "java/lang/Math" ∈ q_gd := q_wg1 (i := 3) rfl rfl
theorem w_as : Cond.static ⟨"java/lang/Math", "abs", "(I)I"⟩ ∈ q_gd := q_wg3 (i := 102) rfl rfl
theorem w_xs : Cond.static ⟨"java/lang/Math", "max", "(II)I"⟩ ∈ q_gd := q_wg1 (i := 33) rfl rfl
theorem w_ns : Cond.static ⟨"java/lang/Math", "min", "(II)I"⟩ ∈ q_gd := q_wg3 (i := 20) rfl rfl
theorem w_oc : Cond.code Lib.objectInit ⟨#[0xb1]⟩ 1 none ∈ q_gd := q_wg1 (i := 25) rfl rfl
theorem w_ac : Cond.code Lib.Math.abs.name Lib.Math.abs.code 1 (some .int) ∈ q_gd := q_wg3 (i := 103) rfl rfl
theorem w_xc : Cond.code Lib.Math.max.name Lib.Math.max.code 2 (some .int) ∈ q_gd := q_wg1 (i := 34) rfl rfl
theorem w_nc : Cond.code Lib.Math.min.name Lib.Math.min.code 2 (some .int) ∈ q_gd := q_wg3 (i := 21) rfl rfl
def m_0 : q_M := (⟨"TreePassesModel", "childrenOf", "(I)I"⟩, prog_11_method_7_code, 1, (some FieldType.int), { frames := 0, cells := 0, slots := 0, locals := 0 })
def m_1 : q_M := (⟨"TreePassesModel", "mayBe", "(III)Z"⟩, prog_11_method_63_code, 5, (some FieldType.boolean), { frames := 1, cells := 0, slots := 0, locals := 20 })
def m_2 : q_M := (⟨"TreePasses", "within", "(II)Z"⟩, prog_1_method_30_code, 2, (some FieldType.boolean), { frames := 0, cells := 0, slots := 0, locals := 0 })
def m_3 : q_M := (⟨"TreePassesModel", "ruleAt", "(II)I"⟩, prog_11_method_27_code, 3, (some FieldType.int), { frames := 0, cells := 0, slots := 0, locals := 0 })
def m_4 : q_M := (⟨"TreePasses$Scroll", "next", "()I"⟩, prog_5_method_20_code, 1, (some FieldType.int), { frames := 0, cells := 0, slots := 0, locals := 0 })
def m_5 : q_M := (⟨"TreePasses$Scroll", "add", "(I)Z"⟩, prog_5_method_2_code, 2, (some FieldType.boolean), { frames := 0, cells := 0, slots := 0, locals := 0 })
def m_6 : q_M := (⟨"TreePasses$Program", "cell", "(II)I"⟩, prog_4_method_15_code, 3, (some FieldType.int), { frames := 1, cells := 0, slots := 0, locals := 21 })
def m_7 : q_M := (⟨"TreePasses", "childrenOf", "(I)I"⟩, prog_1_method_31_code, 1, (some FieldType.int), { frames := 0, cells := 0, slots := 0, locals := 0 })
def m_8 : q_M := (⟨"TreePasses$Scroll", "figure", "(I)I"⟩, prog_5_method_18_code, 3, (some FieldType.int), { frames := 1, cells := 0, slots := 0, locals := 21 })
def m_9 : q_M := (⟨"TreePasses$Scroll", "expect", "(C)V"⟩, prog_5_method_19_code, 2, none, { frames := 1, cells := 0, slots := 0, locals := 20 })
def m_10 : q_M := (⟨"TreePasses$Program", "choiceAt", "(IIII)I"⟩, prog_4_method_23_code, 4, (some FieldType.int), { frames := 0, cells := 0, slots := 0, locals := 0 })
def m_11 : q_M := (⟨"TreePasses$Program", "kindOf", "(I)I"⟩, prog_4_method_9_code, 2, (some FieldType.int), { frames := 1, cells := 0, slots := 0, locals := 21 })
def m_12 : q_M := (⟨"TreePasses$Program", "offerRule", "(II)V"⟩, prog_4_method_21_code, 6, none, { frames := 2, cells := 0, slots := 0, locals := 43 })
def m_13 : q_M := (⟨"TreePasses$Scroll", "readPiece", "(II)I"⟩, prog_5_method_14_code, 5, (some FieldType.int), { frames := 2, cells := 0, slots := 0, locals := 43 })
def m_14 : q_M := (⟨"TreePasses$Scroll", "readItem", "(LTreePasses$Program;)V"⟩, prog_5_method_8_code, 2, none, { frames := 5, cells := 0, slots := 0, locals := 117 })
def m_15 : q_M := (⟨"TreePasses$Scroll", "letter", "()I"⟩, prog_5_method_16_code, 2, (some FieldType.int), { frames := 1, cells := 0, slots := 0, locals := 21 })
def m_16 : q_M := (⟨"TreePasses$Scroll", "readRow", "([IIII)I"⟩, prog_5_method_13_code, 8, (some FieldType.int), { frames := 3, cells := 0, slots := 0, locals := 67 })
def m_17 : q_M := (⟨"TreePassesModel", "tableAt", "(III)I"⟩, prog_11_method_8_code, 3, (some FieldType.int), { frames := 0, cells := 0, slots := 0, locals := 0 })
def m_18 : q_M := (⟨"TreePassesModel", "ruleFor", "(IIII)I"⟩, prog_11_method_45_code, 8, (some FieldType.int), { frames := 1, cells := 0, slots := 0, locals := 22 })
def m_19 : q_M := (⟨"TreePasses$Scroll", "readRule", "([I)V"⟩, prog_5_method_12_code, 2, none, { frames := 4, cells := 0, slots := 0, locals := 94 })
def m_20 : q_M := (⟨"TreePasses$Scroll", "sight", "()I"⟩, prog_5_method_17_code, 1, (some FieldType.int), { frames := 2, cells := 0, slots := 0, locals := 43 })
def m_21 : q_M := (⟨"TreePasses$Program", "setRule", "(I[I)V"⟩, prog_4_method_17_code, 3, none, { frames := 1, cells := 0, slots := 0, locals := 26 })
def m_22 : q_M := (⟨"TreePassesModel", "ruleIs", "(IIIIIIII)V"⟩, prog_11_method_6_code, 10, none, { frames := 0, cells := 0, slots := 0, locals := 0 })
def m_23 : q_M := (⟨"TreePasses", "hasEntry", "(III)Z"⟩, prog_1_method_32_code, 3, (some FieldType.boolean), { frames := 1, cells := 0, slots := 0, locals := 21 })
def m_24 : q_M := (⟨"TreePasses$Program", "setEntry", "(IIII)V"⟩, prog_4_method_12_code, 5, none, { frames := 2, cells := 0, slots := 0, locals := 43 })
def m_25 : q_M := (⟨"TreePasses$Program", "<init>", "()V"⟩, prog_4_method_1_code, 1, none, { frames := 1, cells := 6, slots := 360, locals := 26 })
def m_26 : q_M := (⟨"TreePasses$Scroll", "callSign", "(I)I"⟩, prog_5_method_15_code, 3, (some FieldType.int), { frames := 1, cells := 0, slots := 0, locals := 21 })
def m_27 : q_M := (⟨"java/util/Arrays", "fill", "([II)V"⟩, prog_17_method_103_code, 4, none, { frames := 0, cells := 0, slots := 0, locals := 0 })
def m_28 : q_M := (⟨"TreePasses$Scroll", "readEntries", "(LTreePasses$Program;)V"⟩, prog_5_method_11_code, 7, none, { frames := 3, cells := 0, slots := 0, locals := 67 })
def m_29 : q_M := (⟨"TreePassesModel", "profileOf", "(IIII)I"⟩, prog_11_method_62_code, 11, (some FieldType.int), { frames := 3, cells := 0, slots := 0, locals := 73 })
def m_30 : q_M := (⟨"TreePasses$Program", "entry", "(III)I"⟩, prog_4_method_11_code, 4, (some FieldType.int), { frames := 1, cells := 0, slots := 0, locals := 21 })
def m_31 : q_M := (⟨"TreePasses$Ground", "<init>", "()V"⟩, prog_3_method_1_code, 1, none, { frames := 1, cells := 0, slots := 0, locals := 26 })
def m_32 : q_M := (⟨"TreePassesModel", "isSecond", "(III)Z"⟩, prog_11_method_46_code, 4, (some FieldType.boolean), { frames := 1, cells := 0, slots := 0, locals := 20 })
def m_33 : q_M := (⟨"TreePassesModel", "typeIn", "(II)I"⟩, prog_11_method_60_code, 2, (some FieldType.int), { frames := 0, cells := 0, slots := 0, locals := 0 })
def m_34 : q_M := (⟨"TreePasses$Standing", "<init>", "()V"⟩, prog_7_method_1_code, 1, none, { frames := 2, cells := 3, slots := 120, locals := 46 })
def m_35 : q_M := (⟨"TreePasses$Scroll", "readTree", "(LTreePasses$Program;)V"⟩, prog_5_method_9_code, 4, none, { frames := 4, cells := 0, slots := 0, locals := 94 })
def m_36 : q_M := (⟨"TreePasses$Program", "setTree", "(I[II)V"⟩, prog_4_method_8_code, 4, none, { frames := 1, cells := 0, slots := 0, locals := 26 })
def m_37 : q_M := (⟨"TreePassesModel", "treeIs", "(IIIIIIII)V"⟩, prog_11_method_5_code, 10, none, { frames := 0, cells := 0, slots := 0, locals := 0 })
def m_38 : q_M := (⟨"TreePassesModel", "typeOf", "(IIII)I"⟩, prog_11_method_61_code, 11, (some FieldType.int), { frames := 2, cells := 0, slots := 0, locals := 43 })
def m_39 : q_M := (⟨"TreePasses$Census", "offer", "(LTreePasses$Program;III)V"⟩, prog_2_method_10_code, 7, none, { frames := 3, cells := 0, slots := 0, locals := 78 })
def m_40 : q_M := (⟨"TreePasses$Census", "profileOf", "(LTreePasses$Program;III)I"⟩, prog_2_method_13_code, 15, (some FieldType.int), { frames := 2, cells := 0, slots := 0, locals := 44 })
def m_41 : q_M := (⟨"TreePasses$Census", "sizeOf", "(I)I"⟩, prog_2_method_6_code, 2, (some FieldType.int), { frames := 1, cells := 0, slots := 0, locals := 21 })
def m_42 : q_M := (⟨"TreePasses$Shelf", "<init>", "(I)V"⟩, prog_6_method_1_code, 3, none, { frames := 2, cells := 57, slots := 2944, locals := 46 })
def m_43 : q_M := (⟨"TreePasses$Census", "<init>", "(I)V"⟩, prog_2_method_1_code, 2, none, { frames := 1, cells := 12, slots := 501, locals := 26 })
def m_44 : q_M := (⟨"TreePasses$Program", "hasNode", "(II)Z"⟩, prog_4_method_5_code, 3, (some FieldType.boolean), { frames := 1, cells := 0, slots := 0, locals := 21 })
def m_45 : q_M := (⟨"TreePassesModel", "in", "(JJJ)Z"⟩, prog_11_method_2_code, 6, (some FieldType.boolean), { frames := 0, cells := 0, slots := 0, locals := 0 })
def m_46 : q_M := (⟨"TreePasses$Program", "chosenRule", "(IIII)I"⟩, prog_4_method_22_code, 5, (some FieldType.int), { frames := 1, cells := 0, slots := 0, locals := 23 })
def m_47 : q_M := (⟨"TreePasses$Program", "letterOf", "(II)I"⟩, prog_4_method_6_code, 3, (some FieldType.int), { frames := 2, cells := 0, slots := 0, locals := 43 })
def m_48 : q_M := (⟨"TreePasses$Program", "choose", "()V"⟩, prog_4_method_20_code, 4, none, { frames := 3, cells := 0, slots := 0, locals := 68 })
def m_49 : q_M := (⟨"TreePasses$Scroll", "begin", "()V"⟩, prog_5_method_7_code, 1, none, { frames := 0, cells := 0, slots := 0, locals := 0 })
def m_50 : q_M := (⟨"TreePasses$Census", "isBefore", "(IIIII)Z"⟩, prog_2_method_11_code, 6, (some FieldType.boolean), { frames := 2, cells := 0, slots := 0, locals := 48 })
def m_51 : q_M := (⟨"TreePasses$Scroll", "readProgram", "(LTreePasses$Program;)I"⟩, prog_5_method_5_code, 4, (some FieldType.int), { frames := 6, cells := 0, slots := 0, locals := 138 })
def m_52 : q_M := (⟨"TreePasses$Program", "clear", "()V"⟩, prog_4_method_2_code, 1, none, { frames := 1, cells := 0, slots := 0, locals := 23 })
def m_53 : q_M := (⟨"TreePasses$Program", "pieceOf", "(II)I"⟩, prog_4_method_16_code, 4, (some FieldType.int), { frames := 1, cells := 0, slots := 0, locals := 21 })
def m_54 : q_M := (⟨"TreePassesModel", "readNone", "()V"⟩, prog_11_method_4_code, 2, none, { frames := 0, cells := 0, slots := 0, locals := 0 })
def m_55 : q_M := (⟨"TreePasses$Scroll", "clear", "()V"⟩, prog_5_method_3_code, 1, none, { frames := 0, cells := 0, slots := 0, locals := 0 })
def m_56 : q_M := (⟨"TreePasses$Scroll", "<init>", "()V"⟩, prog_5_method_1_code, 1, none, { frames := 1, cells := 2, slots := 212, locals := 26 })
def m_57 : q_M := (⟨"TreePasses$Unmade", "<init>", "()V"⟩, prog_8_method_1_code, 1, none, { frames := 3, cells := 4, slots := 124, locals := 66 })
def m_58 : q_M := (⟨"TreePasses$Walk", "<init>", "()V"⟩, prog_9_method_1_code, 1, none, { frames := 1, cells := 5, slots := 320, locals := 26 })
def m_59 : q_M := (⟨"TreePassesModel", "begin", "()V"⟩, prog_11_method_22_code, 2, none, { frames := 0, cells := 0, slots := 0, locals := 0 })
def m_60 : q_M := (⟨"TreePasses$Program", "hasRule", "(I)Z"⟩, prog_4_method_13_code, 2, (some FieldType.boolean), { frames := 1, cells := 0, slots := 0, locals := 21 })
def m_61 : q_M := (⟨"TreePasses$Census", "typeIn", "(II)I"⟩, prog_2_method_16_code, 2, (some FieldType.int), { frames := 0, cells := 0, slots := 0, locals := 0 })
def m_62 : q_M := (⟨"TreePasses$Census", "forget", "()V"⟩, prog_2_method_2_code, 1, none, { frames := 0, cells := 0, slots := 0, locals := 0 })
def m_63 : q_M := (⟨"TreePasses$Program", "nodesOf", "(I)I"⟩, prog_4_method_4_code, 2, (some FieldType.int), { frames := 1, cells := 0, slots := 0, locals := 21 })
def m_64 : q_M := (⟨"TreePassesModel", "isPass", "(I)Z"⟩, prog_11_method_26_code, 1, (some FieldType.boolean), { frames := 1, cells := 0, slots := 0, locals := 25 })
def m_65 : q_M := (⟨"TreePasses$Census", "workOut", "(LTreePasses$Program;I)V"⟩, prog_2_method_14_code, 11, none, { frames := 3, cells := 0, slots := 0, locals := 76 })
def m_66 : q_M := (⟨"TreePasses$Census", "typeAbove", "(LTreePasses$Program;II)J"⟩, prog_2_method_15_code, 13, (some FieldType.long), { frames := 2, cells := 0, slots := 0, locals := 44 })
def m_67 : q_M := (⟨"TreePassesModel", "isTree", "(I)Z"⟩, prog_11_method_23_code, 1, (some FieldType.boolean), { frames := 1, cells := 0, slots := 0, locals := 25 })
def m_68 : q_M := (⟨"TreePasses", "stateCalled", "(I)I"⟩, prog_1_method_33_code, 1, (some FieldType.int), { frames := 0, cells := 0, slots := 0, locals := 0 })
def m_69 : q_M := (⟨"TreePasses$Program", "childCalled", "(III)I"⟩, prog_4_method_24_code, 6, (some FieldType.int), { frames := 1, cells := 0, slots := 0, locals := 21 })
def m_70 : q_M := (⟨"TreePasses$Census", "nearest", "()I"⟩, prog_2_method_9_code, 3, (some FieldType.int), { frames := 3, cells := 0, slots := 0, locals := 73 })
def m_71 : q_M := (⟨"TreePasses$Program", "copy", "(LTreePasses$Program;)V"⟩, prog_4_method_3_code, 2, none, { frames := 1, cells := 0, slots := 0, locals := 26 })
def m_72 : q_M := (⟨"TreePasses$Standing", "takeTree", "(LTreePasses$Program;II)V"⟩, prog_7_method_2_code, 5, none, { frames := 3, cells := 0, slots := 0, locals := 71 })
def m_73 : q_M := (⟨"TreePasses$Standing", "weigh", "(LTreePasses$Program;I)V"⟩, prog_7_method_4_code, 8, none, { frames := 2, cells := 0, slots := 0, locals := 44 })
def m_74 : q_M := (⟨"TreePasses$Standing", "sightAt", "(I)I"⟩, prog_7_method_8_code, 2, (some FieldType.int), { frames := 1, cells := 0, slots := 0, locals := 21 })
def m_75 : q_M := (⟨"TreePasses$Shelf", "put", "(LTreePasses$Program;)V"⟩, prog_6_method_3_code, 3, none, { frames := 2, cells := 0, slots := 0, locals := 47 })
def m_76 : q_M := (⟨"TreePasses$Shelf", "placeOf", "(I)I"⟩, prog_6_method_5_code, 3, (some FieldType.int), { frames := 0, cells := 0, slots := 0, locals := 0 })
def m_77 : q_M := (⟨"TreePasses$Program", "callsFor", "(II)I"⟩, prog_4_method_27_code, 6, (some FieldType.int), { frames := 2, cells := 0, slots := 0, locals := 44 })
def m_78 : q_M := (⟨"TreePasses$Program", "isWhole", "(I)Z"⟩, prog_4_method_26_code, 3, (some FieldType.boolean), { frames := 3, cells := 0, slots := 0, locals := 69 })
def m_79 : q_M := (⟨"TreePasses$Census", "settle", "(II)V"⟩, prog_2_method_5_code, 5, none, { frames := 1, cells := 0, slots := 0, locals := 21 })
def m_80 : q_M := (⟨"TreePassesModel", "groundIs", "(II)V"⟩, prog_11_method_29_code, 4, none, { frames := 2, cells := 0, slots := 0, locals := 47 })
def m_81 : q_M := (⟨"TreePassesModel", "measure", "(I)V"⟩, prog_11_method_30_code, 6, none, { frames := 1, cells := 0, slots := 0, locals := 22 })
def m_82 : q_M := (⟨"TreePassesModel", "isRule", "(I)Z"⟩, prog_11_method_25_code, 2, (some FieldType.boolean), { frames := 1, cells := 0, slots := 0, locals := 25 })
def m_83 : q_M := (⟨"TreePasses", "forgetCensus", "()V"⟩, prog_1_method_35_code, 1, none, { frames := 1, cells := 0, slots := 0, locals := 20 })
def m_84 : q_M := (⟨"TreePasses$Walk", "go", "(LTreePasses$Program;LTreePasses$Ground;II)I"⟩, prog_9_method_2_code, 7, (some FieldType.int), { frames := 5, cells := 0, slots := 0, locals := 131 })
def m_85 : q_M := (⟨"TreePasses$Standing", "letterAt", "(LTreePasses$Program;I)I"⟩, prog_7_method_7_code, 3, (some FieldType.int), { frames := 1, cells := 0, slots := 0, locals := 21 })
def m_86 : q_M := (⟨"TreePasses$Walk", "come", "(LTreePasses$Program;LTreePasses$Ground;III)I"⟩, prog_9_method_7_code, 8, (some FieldType.int), { frames := 3, cells := 0, slots := 0, locals := 66 })
def m_87 : q_M := (⟨"TreePasses$Census", "precedes", "(II)Z"⟩, prog_2_method_12_code, 8, (some FieldType.boolean), { frames := 1, cells := 0, slots := 0, locals := 21 })
def m_88 : q_M := (⟨"TreePassesModel", "note", "()V"⟩, prog_11_method_35_code, 2, none, { frames := 0, cells := 0, slots := 0, locals := 0 })
def m_89 : q_M := (⟨"TreePasses", "changed", "()V"⟩, prog_1_method_34_code, 1, none, { frames := 4, cells := 0, slots := 0, locals := 91 })
def m_90 : q_M := (⟨"TreePasses$Standing", "topPlace", "(LTreePasses$Program;)I"⟩, prog_7_method_5_code, 2, (some FieldType.int), { frames := 0, cells := 0, slots := 0, locals := 0 })
def m_91 : q_M := (⟨"TreePasses$Standing", "nodeAt", "(I)I"⟩, prog_7_method_9_code, 2, (some FieldType.int), { frames := 0, cells := 0, slots := 0, locals := 0 })
def m_92 : q_M := (⟨"TreePassesModel", "isNode", "(II)Z"⟩, prog_11_method_24_code, 3, (some FieldType.boolean), { frames := 2, cells := 0, slots := 0, locals := 45 })
def m_93 : q_M := (⟨"TreePassesModel", "moveRules", "(II)V"⟩, prog_11_method_36_code, 8, none, { frames := 0, cells := 0, slots := 0, locals := 0 })
def m_94 : q_M := (⟨"TreePassesModel", "go", "(II)I"⟩, prog_11_method_47_code, 8, (some FieldType.int), { frames := 3, cells := 0, slots := 0, locals := 73 })
def m_95 : q_M := (⟨"TreePassesModel", "isCome", "(III)Z"⟩, prog_11_method_48_code, 5, (some FieldType.boolean), { frames := 2, cells := 0, slots := 0, locals := 49 })
def m_96 : q_M := (⟨"TreePassesModel", "answer", "(III)I"⟩, prog_11_method_49_code, 4, (some FieldType.int), { frames := 0, cells := 0, slots := 0, locals := 0 })
def m_97 : q_M := (⟨"TreePasses$Scroll", "length", "()I"⟩, prog_5_method_4_code, 1, (some FieldType.int), { frames := 0, cells := 0, slots := 0, locals := 0 })
def m_98 : q_M := (⟨"TreePasses", "letterMade", "(II)I"⟩, prog_1_method_37_code, 3, (some FieldType.int), { frames := 2, cells := 0, slots := 0, locals := 42 })
def m_99 : q_M := (⟨"TreePassesModel", "readAll", "()I"⟩, prog_11_method_19_code, 2, (some FieldType.int), { frames := 5, cells := 0, slots := 0, locals := 117 })
def m_100 : q_M := (⟨"TreePasses$Program", "setKind", "(II)V"⟩, prog_4_method_10_code, 3, none, { frames := 1, cells := 0, slots := 0, locals := 21 })
def m_101 : q_M := (⟨"TreePasses$Scroll", "readRuleAlone", "([I)I"⟩, prog_5_method_6_code, 2, (some FieldType.int), { frames := 5, cells := 0, slots := 0, locals := 115 })
def m_102 : q_M := (⟨"TreePasses$Program", "removeRule", "(I)V"⟩, prog_4_method_18_code, 2, none, { frames := 2, cells := 0, slots := 0, locals := 42 })
def m_103 : q_M := (⟨"TreePasses$Program", "moveRule", "(II[I)V"⟩, prog_4_method_19_code, 4, none, { frames := 2, cells := 0, slots := 0, locals := 42 })
def m_104 : q_M := (⟨"TreePasses$Unmade", "topPlace", "(LTreePasses$Program;)I"⟩, prog_8_method_3_code, 2, (some FieldType.int), { frames := 3, cells := 0, slots := 0, locals := 76 })
def m_105 : q_M := (⟨"TreePasses$Unmade", "make", "(LTreePasses$Program;II)I"⟩, prog_8_method_11_code, 10, (some FieldType.int), { frames := 2, cells := 0, slots := 0, locals := 47 })
def m_106 : q_M := (⟨"TreePasses$Unmade", "takeTree", "(LTreePasses$Program;I)V"⟩, prog_8_method_2_code, 3, none, { frames := 4, cells := 0, slots := 0, locals := 95 })
def m_107 : q_M := (⟨"TreePasses$Walk", "visitsOf", "(I)I"⟩, prog_9_method_4_code, 2, (some FieldType.int), { frames := 1, cells := 0, slots := 0, locals := 21 })
def m_108 : q_M := (⟨"TreePasses", "censusOf", "(I)LTreePasses$Census;"⟩, prog_1_method_36_code, 2, (some (FieldType.object "TreePasses$Census")), { frames := 0, cells := 0, slots := 0, locals := 0 })
def m_109 : q_M := (⟨"TreePasses$Census", "take", "(LTreePasses$Program;)V"⟩, prog_2_method_3_code, 5, none, { frames := 5, cells := 0, slots := 0, locals := 128 })
def m_110 : q_M := (⟨"TreePasses$Census", "begin", "(LTreePasses$Program;)V"⟩, prog_2_method_4_code, 3, none, { frames := 4, cells := 0, slots := 0, locals := 106 })
def m_111 : q_M := (⟨"TreePassesModel", "letterAt", "(I)I"⟩, prog_11_method_11_code, 2, (some FieldType.int), { frames := 0, cells := 0, slots := 0, locals := 0 })
def m_112 : q_M := (⟨"TreePassesModel", "take", "(II)I"⟩, prog_11_method_12_code, 4, (some FieldType.int), { frames := 1, cells := 0, slots := 0, locals := 25 })
def m_113 : q_M := (⟨"TreePassesModel", "isRuleTold", "()Z"⟩, prog_11_method_16_code, 8, (some FieldType.boolean), { frames := 2, cells := 0, slots := 0, locals := 48 })
def m_114 : q_M := (⟨"TreePassesModel", "table", "(III)I"⟩, prog_11_method_32_code, 4, (some FieldType.int), { frames := 2, cells := 0, slots := 0, locals := 45 })
def m_115 : q_M := (⟨"TreePassesModel", "putRule", "(I)V"⟩, prog_11_method_37_code, 3, none, { frames := 0, cells := 0, slots := 0, locals := 0 })
def m_116 : q_M := (⟨"TreePassesModel", "goAsOne", "()I"⟩, prog_11_method_56_code, 5, (some FieldType.int), { frames := 5, cells := 0, slots := 0, locals := 115 })
def m_117 : q_M := (⟨"TreePassesModel", "isBegun", "(II)Z"⟩, prog_11_method_54_code, 3, (some FieldType.boolean), { frames := 2, cells := 0, slots := 0, locals := 49 })
def m_118 : q_M := (⟨"TreePassesModel", "findComing", "(I)V"⟩, prog_11_method_64_code, 8, none, { frames := 4, cells := 0, slots := 0, locals := 103 })
def m_119 : q_M := (⟨"TreePasses", "<init>", "()V"⟩, prog_1_method_1_code, 2, none, { frames := 7, cells := 400, slots := 20000, locals := 161 })
def m_120 : q_M := (⟨"TreePasses$Scroll", "readKind", "(LTreePasses$Program;)V"⟩, prog_5_method_10_code, 4, none, { frames := 2, cells := 0, slots := 0, locals := 43 })
def m_121 : q_M := (⟨"TreePasses", "write", "(I)I"⟩, prog_1_method_2_code, 2, (some FieldType.int), { frames := 1, cells := 0, slots := 0, locals := 21 })
def m_122 : q_M := (⟨"TreePasses", "wipe", "()I"⟩, prog_1_method_3_code, 2, (some FieldType.int), { frames := 1, cells := 0, slots := 0, locals := 20 })
def m_123 : q_M := (⟨"TreePasses", "fault", "()I"⟩, prog_1_method_4_code, 1, (some FieldType.int), { frames := 7, cells := 0, slots := 0, locals := 161 })
def m_124 : q_M := (⟨"TreePasses", "lay", "()I"⟩, prog_1_method_5_code, 1, (some FieldType.int), { frames := 7, cells := 0, slots := 0, locals := 161 })
def m_125 : q_M := (⟨"TreePasses$Shelf", "clear", "()V"⟩, prog_6_method_2_code, 1, none, { frames := 0, cells := 0, slots := 0, locals := 0 })
def m_126 : q_M := (⟨"TreePasses", "tree", "(II)I"⟩, prog_1_method_6_code, 3, (some FieldType.int), { frames := 3, cells := 0, slots := 0, locals := 65 })
def m_127 : q_M := (⟨"TreePasses", "value", "(III)I"⟩, prog_1_method_7_code, 4, (some FieldType.int), { frames := 4, cells := 0, slots := 0, locals := 95 })
def m_128 : q_M := (⟨"TreePasses", "table", "(III)I"⟩, prog_1_method_8_code, 4, (some FieldType.int), { frames := 2, cells := 0, slots := 0, locals := 44 })
def m_129 : q_M := (⟨"TreePasses", "rule", "(II)I"⟩, prog_1_method_9_code, 3, (some FieldType.int), { frames := 2, cells := 0, slots := 0, locals := 43 })
def m_130 : q_M := (⟨"TreePasses", "piece", "(II)I"⟩, prog_1_method_10_code, 3, (some FieldType.int), { frames := 2, cells := 0, slots := 0, locals := 44 })
def m_131 : q_M := (⟨"TreePasses", "enter", "(I)I"⟩, prog_1_method_11_code, 3, (some FieldType.int), { frames := 6, cells := 0, slots := 0, locals := 136 })
def m_132 : q_M := (⟨"TreePasses", "cut", "(I)I"⟩, prog_1_method_12_code, 2, (some FieldType.int), { frames := 5, cells := 0, slots := 0, locals := 111 })
def m_133 : q_M := (⟨"TreePasses", "shift", "(II)I"⟩, prog_1_method_13_code, 3, (some FieldType.int), { frames := 5, cells := 0, slots := 0, locals := 111 })
def m_134 : q_M := (⟨"TreePasses", "leaf", "(III)I"⟩, prog_1_method_14_code, 5, (some FieldType.int), { frames := 3, cells := 0, slots := 0, locals := 69 })
def m_135 : q_M := (⟨"TreePasses$Program", "setLetter", "(III)V"⟩, prog_4_method_7_code, 4, none, { frames := 2, cells := 0, slots := 0, locals := 43 })
def m_136 : q_M := (⟨"TreePasses", "flip", "(III)I"⟩, prog_1_method_15_code, 4, (some FieldType.int), { frames := 3, cells := 0, slots := 0, locals := 69 })
def m_137 : q_M := (⟨"TreePasses", "rename", "(II)I"⟩, prog_1_method_16_code, 4, (some FieldType.int), { frames := 5, cells := 0, slots := 0, locals := 111 })
def m_138 : q_M := (⟨"TreePasses", "undo", "()I"⟩, prog_1_method_17_code, 1, (some FieldType.int), { frames := 3, cells := 0, slots := 0, locals := 69 })
def m_139 : q_M := (⟨"TreePasses$Shelf", "take", "(LTreePasses$Program;)V"⟩, prog_6_method_4_code, 3, none, { frames := 2, cells := 0, slots := 0, locals := 47 })
def m_140 : q_M := (⟨"TreePasses", "out", "(IIII)I"⟩, prog_1_method_18_code, 5, (some FieldType.int), { frames := 6, cells := 0, slots := 0, locals := 157 })
def m_141 : q_M := (⟨"TreePasses$Unmade", "placeOf", "(III)I"⟩, prog_8_method_10_code, 3, (some FieldType.int), { frames := 0, cells := 0, slots := 0, locals := 0 })
def m_142 : q_M := (⟨"TreePasses$Standing", "below", "(LTreePasses$Program;II)I"⟩, prog_7_method_6_code, 5, (some FieldType.int), { frames := 1, cells := 0, slots := 0, locals := 21 })
def m_143 : q_M := (⟨"TreePasses$Unmade", "nodeAt", "(I)I"⟩, prog_8_method_7_code, 2, (some FieldType.int), { frames := 0, cells := 0, slots := 0, locals := 0 })
def m_144 : q_M := (⟨"TreePasses$Unmade", "letterAt", "(LTreePasses$Program;I)I"⟩, prog_8_method_5_code, 3, (some FieldType.int), { frames := 2, cells := 0, slots := 0, locals := 44 })
def m_145 : q_M := (⟨"TreePasses$Unmade", "ruleAt", "(I)I"⟩, prog_8_method_8_code, 1, (some FieldType.int), { frames := 0, cells := 0, slots := 0, locals := 0 })
def m_146 : q_M := (⟨"TreePasses$Unmade", "pieceAt", "(I)I"⟩, prog_8_method_9_code, 1, (some FieldType.int), { frames := 0, cells := 0, slots := 0, locals := 0 })
def m_147 : q_M := (⟨"TreePasses$Unmade", "sightAt", "(I)I"⟩, prog_8_method_6_code, 2, (some FieldType.int), { frames := 0, cells := 0, slots := 0, locals := 0 })
def m_148 : q_M := (⟨"TreePasses$Walk", "step", "(LTreePasses$Program;LTreePasses$Ground;I)I"⟩, prog_9_method_5_code, 8, (some FieldType.int), { frames := 4, cells := 0, slots := 0, locals := 104 })
def m_149 : q_M := (⟨"TreePasses$Walk", "append", "(I)I"⟩, prog_9_method_6_code, 2, (some FieldType.int), { frames := 0, cells := 0, slots := 0, locals := 0 })
def m_150 : q_M := (⟨"TreePasses$Unmade", "below", "(LTreePasses$Program;II)I"⟩, prog_8_method_4_code, 9, (some FieldType.int), { frames := 3, cells := 0, slots := 0, locals := 76 })
def m_151 : q_M := (⟨"TreePasses$Unmade", "behind", "(LTreePasses$Program;II)I"⟩, prog_8_method_12_code, 5, (some FieldType.int), { frames := 2, cells := 0, slots := 0, locals := 44 })
def m_152 : q_M := (⟨"TreePasses$Walk", "letterOf", "(I)I"⟩, prog_9_method_3_code, 2, (some FieldType.int), { frames := 1, cells := 0, slots := 0, locals := 21 })
def m_153 : q_M := (⟨"TreePasses", "both", "(II)I"⟩, prog_1_method_19_code, 5, (some FieldType.int), { frames := 6, cells := 0, slots := 0, locals := 157 })
def m_154 : q_M := (⟨"TreePasses$Standing", "takeRow", "(LTreePasses$Program;[II)V"⟩, prog_7_method_3_code, 4, none, { frames := 3, cells := 0, slots := 0, locals := 71 })
def m_155 : q_M := (⟨"TreePasses", "one", "(II)I"⟩, prog_1_method_20_code, 3, (some FieldType.int), { frames := 6, cells := 0, slots := 0, locals := 157 })
def m_156 : q_M := (⟨"TreePasses", "linear", "(II)I"⟩, prog_1_method_21_code, 4, (some FieldType.int), { frames := 4, cells := 0, slots := 0, locals := 91 })
def m_157 : q_M := (⟨"TreePasses$Program", "isLinear", "(I)Z"⟩, prog_4_method_25_code, 2, (some FieldType.boolean), { frames := 3, cells := 0, slots := 0, locals := 69 })
def m_158 : q_M := (⟨"TreePasses", "visits", "(III)I"⟩, prog_1_method_22_code, 4, (some FieldType.int), { frames := 6, cells := 0, slots := 0, locals := 157 })
def m_159 : q_M := (⟨"TreePasses", "comes", "(I)I"⟩, prog_1_method_23_code, 3, (some FieldType.int), { frames := 6, cells := 0, slots := 0, locals := 152 })
def m_160 : q_M := (⟨"TreePasses", "least", "(III)I"⟩, prog_1_method_24_code, 6, (some FieldType.int), { frames := 6, cells := 0, slots := 0, locals := 152 })
def m_161 : q_M := (⟨"TreePasses$Census", "letterOf", "(II)I"⟩, prog_2_method_7_code, 7, (some FieldType.int), { frames := 2, cells := 0, slots := 0, locals := 42 })
def m_162 : q_M := (⟨"TreePasses", "total", "(III)I"⟩, prog_1_method_25_code, 4, (some FieldType.int), { frames := 7, cells := 0, slots := 0, locals := 179 })
def m_163 : q_M := (⟨"TreePasses", "firstLeast", "(IIII)I"⟩, prog_1_method_38_code, 8, (some FieldType.int), { frames := 6, cells := 0, slots := 0, locals := 152 })
def m_164 : q_M := (⟨"TreePasses$Census", "firstWith", "(II)I"⟩, prog_2_method_8_code, 4, (some FieldType.int), { frames := 1, cells := 0, slots := 0, locals := 21 })
def m_165 : q_M := (⟨"TreePasses", "typed", "(III)I"⟩, prog_1_method_26_code, 4, (some FieldType.int), { frames := 7, cells := 0, slots := 0, locals := 179 })
def m_166 : q_M := (⟨"TreePasses", "keep", "()I"⟩, prog_1_method_27_code, 1, (some FieldType.int), { frames := 3, cells := 0, slots := 0, locals := 69 })
def m_167 : q_M := (⟨"TreePasses", "back", "()I"⟩, prog_1_method_28_code, 1, (some FieldType.int), { frames := 3, cells := 0, slots := 0, locals := 69 })
def m_168 : q_M := (⟨"TreePasses", "count", "(I)I"⟩, prog_1_method_29_code, 2, (some FieldType.int), { frames := 3, cells := 0, slots := 0, locals := 66 })
def m_169 : q_M := (⟨"TreePasses$Program", "rulesOf", "(I)I"⟩, prog_4_method_14_code, 4, (some FieldType.int), { frames := 2, cells := 0, slots := 0, locals := 43 })
def m_170 : q_M := (⟨"TreePassesModel", "<init>", "()V"⟩, prog_11_method_1_code, 1, none, { frames := 1, cells := 21, slots := 6440, locals := 29 })
def m_171 : q_M := (⟨"TreePassesModel", "write", "(I)I"⟩, prog_11_method_9_code, 2, (some FieldType.int), { frames := 1, cells := 0, slots := 0, locals := 25 })
def m_172 : q_M := (⟨"TreePassesModel", "wipe", "()I"⟩, prog_11_method_10_code, 2, (some FieldType.int), { frames := 0, cells := 0, slots := 0, locals := 0 })
def m_173 : q_M := (⟨"TreePassesModel", "fault", "()I"⟩, prog_11_method_20_code, 1, (some FieldType.int), { frames := 6, cells := 0, slots := 0, locals := 138 })
def m_174 : q_M := (⟨"TreePassesModel", "item", "()Z"⟩, prog_11_method_18_code, 2, (some FieldType.boolean), { frames := 4, cells := 0, slots := 0, locals := 96 })
def m_175 : q_M := (⟨"TreePassesModel", "treeItem", "()Z"⟩, prog_11_method_13_code, 5, (some FieldType.boolean), { frames := 2, cells := 0, slots := 0, locals := 48 })
def m_176 : q_M := (⟨"TreePassesModel", "kindItem", "()Z"⟩, prog_11_method_15_code, 3, (some FieldType.boolean), { frames := 2, cells := 0, slots := 0, locals := 48 })
def m_177 : q_M := (⟨"TreePassesModel", "tableItem", "()Z"⟩, prog_11_method_14_code, 5, (some FieldType.boolean), { frames := 2, cells := 0, slots := 0, locals := 48 })
def m_178 : q_M := (⟨"TreePassesModel", "ruleItem", "()Z"⟩, prog_11_method_17_code, 2, (some FieldType.boolean), { frames := 3, cells := 0, slots := 0, locals := 75 })
def m_179 : q_M := (⟨"TreePassesModel", "lay", "()I"⟩, prog_11_method_21_code, 1, (some FieldType.int), { frames := 6, cells := 0, slots := 0, locals := 138 })
def m_180 : q_M := (⟨"TreePassesModel", "tree", "(II)I"⟩, prog_11_method_28_code, 3, (some FieldType.int), { frames := 2, cells := 0, slots := 0, locals := 45 })
def m_181 : q_M := (⟨"TreePassesModel", "value", "(III)I"⟩, prog_11_method_31_code, 4, (some FieldType.int), { frames := 3, cells := 0, slots := 0, locals := 70 })
def m_182 : q_M := (⟨"TreePassesModel", "rule", "(II)I"⟩, prog_11_method_33_code, 3, (some FieldType.int), { frames := 2, cells := 0, slots := 0, locals := 46 })
def m_183 : q_M := (⟨"TreePassesModel", "piece", "(II)I"⟩, prog_11_method_34_code, 3, (some FieldType.int), { frames := 2, cells := 0, slots := 0, locals := 46 })
def m_184 : q_M := (⟨"TreePassesModel", "enter", "(I)I"⟩, prog_11_method_38_code, 3, (some FieldType.int), { frames := 3, cells := 0, slots := 0, locals := 75 })
def m_185 : q_M := (⟨"TreePassesModel", "cut", "(I)I"⟩, prog_11_method_39_code, 2, (some FieldType.int), { frames := 2, cells := 0, slots := 0, locals := 46 })
def m_186 : q_M := (⟨"TreePassesModel", "shift", "(II)I"⟩, prog_11_method_40_code, 4, (some FieldType.int), { frames := 2, cells := 0, slots := 0, locals := 46 })
def m_187 : q_M := (⟨"TreePassesModel", "leaf", "(III)I"⟩, prog_11_method_41_code, 5, (some FieldType.int), { frames := 3, cells := 0, slots := 0, locals := 67 })
def m_188 : q_M := (⟨"TreePassesModel", "flip", "(III)I"⟩, prog_11_method_42_code, 4, (some FieldType.int), { frames := 3, cells := 0, slots := 0, locals := 68 })
def m_189 : q_M := (⟨"TreePassesModel", "rename", "(II)I"⟩, prog_11_method_43_code, 4, (some FieldType.int), { frames := 2, cells := 0, slots := 0, locals := 45 })
def m_190 : q_M := (⟨"TreePassesModel", "undo", "()I"⟩, prog_11_method_44_code, 2, (some FieldType.int), { frames := 0, cells := 0, slots := 0, locals := 0 })
def m_191 : q_M := (⟨"TreePassesModel", "out", "(IIII)I"⟩, prog_11_method_50_code, 5, (some FieldType.int), { frames := 4, cells := 0, slots := 0, locals := 100 })
def m_192 : q_M := (⟨"TreePassesModel", "both", "(II)I"⟩, prog_11_method_51_code, 5, (some FieldType.int), { frames := 4, cells := 0, slots := 0, locals := 100 })
def m_193 : q_M := (⟨"TreePassesModel", "one", "(II)I"⟩, prog_11_method_57_code, 3, (some FieldType.int), { frames := 6, cells := 0, slots := 0, locals := 139 })
def m_194 : q_M := (⟨"TreePassesModel", "comesUpon", "(I)Z"⟩, prog_11_method_55_code, 3, (some FieldType.boolean), { frames := 4, cells := 0, slots := 0, locals := 93 })
def m_195 : q_M := (⟨"TreePassesModel", "isMade", "()Z"⟩, prog_11_method_53_code, 3, (some FieldType.boolean), { frames := 3, cells := 0, slots := 0, locals := 71 })
def m_196 : q_M := (⟨"TreePassesModel", "behindPart", "(II)I"⟩, prog_11_method_52_code, 6, (some FieldType.int), { frames := 1, cells := 0, slots := 0, locals := 22 })
def m_197 : q_M := (⟨"TreePassesModel", "linear", "(II)I"⟩, prog_11_method_58_code, 9, (some FieldType.int), { frames := 2, cells := 0, slots := 0, locals := 45 })
def m_198 : q_M := (⟨"TreePassesModel", "visits", "(III)I"⟩, prog_11_method_59_code, 4, (some FieldType.int), { frames := 4, cells := 0, slots := 0, locals := 100 })
def m_199 : q_M := (⟨"TreePassesModel", "comes", "(I)I"⟩, prog_11_method_69_code, 2, (some FieldType.int), { frames := 5, cells := 0, slots := 0, locals := 130 })
def m_200 : q_M := (⟨"TreePassesModel", "least", "(III)I"⟩, prog_11_method_70_code, 4, (some FieldType.int), { frames := 6, cells := 0, slots := 0, locals := 158 })
def m_201 : q_M := (⟨"TreePassesModel", "findLeast", "(I)V"⟩, prog_11_method_68_code, 9, none, { frames := 5, cells := 0, slots := 0, locals := 130 })
def m_202 : q_M := (⟨"TreePassesModel", "sizeOf", "(III)I"⟩, prog_11_method_66_code, 5, (some FieldType.int), { frames := 1, cells := 0, slots := 0, locals := 20 })
def m_203 : q_M := (⟨"TreePassesModel", "build", "(III)I"⟩, prog_11_method_65_code, 7, (some FieldType.int), { frames := 1, cells := 0, slots := 0, locals := 20 })
def m_204 : q_M := (⟨"TreePassesModel", "isFirst", "(II)Z"⟩, prog_11_method_67_code, 4, (some FieldType.boolean), { frames := 0, cells := 0, slots := 0, locals := 0 })
def m_205 : q_M := (⟨"TreePassesModel", "total", "(III)I"⟩, prog_11_method_73_code, 4, (some FieldType.int), { frames := 7, cells := 0, slots := 0, locals := 184 })
def m_206 : q_M := (⟨"TreePassesModel", "firstWith", "(IIII)I"⟩, prog_11_method_72_code, 7, (some FieldType.int), { frames := 6, cells := 0, slots := 0, locals := 158 })
def m_207 : q_M := (⟨"TreePassesModel", "isLess", "(II)Z"⟩, prog_11_method_71_code, 4, (some FieldType.boolean), { frames := 0, cells := 0, slots := 0, locals := 0 })
def m_208 : q_M := (⟨"TreePassesModel", "typed", "(III)I"⟩, prog_11_method_74_code, 4, (some FieldType.int), { frames := 7, cells := 0, slots := 0, locals := 184 })
def m_209 : q_M := (⟨"TreePassesModel", "keep", "()I"⟩, prog_11_method_75_code, 2, (some FieldType.int), { frames := 0, cells := 0, slots := 0, locals := 0 })
def m_210 : q_M := (⟨"TreePassesModel", "back", "()I"⟩, prog_11_method_76_code, 2, (some FieldType.int), { frames := 0, cells := 0, slots := 0, locals := 0 })
def m_211 : q_M := (⟨"TreePassesModel", "count", "(I)I"⟩, prog_11_method_78_code, 2, (some FieldType.int), { frames := 2, cells := 0, slots := 0, locals := 45 })
def m_212 : q_M := (⟨"TreePassesModel", "rulesOf", "(I)I"⟩, prog_11_method_77_code, 4, (some FieldType.int), { frames := 1, cells := 0, slots := 0, locals := 22 })
def m_213 : q_M := (⟨"java/lang/String", "checkIndex", "(II)V"⟩, prog_13_method_155_code, 2, none, { frames := 1, cells := 0, slots := 0, locals := 22 })
def m_214 : q_M := (⟨"jdk/internal/util/Preconditions", "checkIndex", "(IILjava/util/function/BiFunction;)I"⟩, prog_18_method_11_code, 3, (some FieldType.int), { frames := 0, cells := 0, slots := 0, locals := 0 })
def m_215 : q_M := (⟨"java/lang/String", "length", "()I"⟩, prog_13_method_54_code, 1, (some FieldType.int), { frames := 1, cells := 0, slots := 0, locals := 20 })
def m_216 : q_M := (⟨"java/lang/String", "charAt", "(I)C"⟩, prog_13_method_56_code, 2, (some FieldType.char), { frames := 3, cells := 0, slots := 0, locals := 64 })
def m_217 : q_M := (⟨"java/lang/String", "coder", "()B"⟩, prog_13_method_152_code, 1, (some FieldType.byte), { frames := 0, cells := 0, slots := 0, locals := 0 })
def m_218 : q_M := (⟨"java/lang/String", "isLatin1", "()Z"⟩, prog_13_method_154_code, 1, (some FieldType.boolean), { frames := 0, cells := 0, slots := 0, locals := 0 })
def m_219 : q_M := (⟨"java/lang/StringLatin1", "charAt", "([BI)C"⟩, prog_14_method_2_code, 2, (some FieldType.char), { frames := 2, cells := 0, slots := 0, locals := 43 })
def m_L : q_M := (⟨"TreePassesLaw", "law", "([I)Z"⟩, code, maxLocals, ret, { frames := 10, cells := 600000, slots := 7302250, locals := 414 })
def q_ml : List q_M := [m_0, m_1, m_2, m_3, m_4, m_5, m_6, m_7, m_8, m_9, m_10, m_11, m_12, m_13, m_14, m_15, m_16, m_17, m_18, m_19, m_20, m_21, m_22, m_23, m_24, m_25, m_26, m_27, m_28, m_29, m_30, m_31, m_32, m_33, m_34, m_35, m_36, m_37, m_38, m_39, m_40, m_41, m_42, m_43, m_44, m_45, m_46, m_47, m_48, m_49, m_50, m_51, m_52, m_53, m_54, m_55, m_56, m_57, m_58, m_59, m_60, m_61, m_62, m_63, m_64, m_65, m_66, m_67, m_68, m_69, m_70, m_71, m_72, m_73, m_74, m_75, m_76, m_77, m_78, m_79, m_80, m_81, m_82, m_83, m_84, m_85, m_86, m_87, m_88, m_89, m_90, m_91, m_92, m_93, m_94, m_95, m_96, m_97, m_98, m_99, m_100, m_101, m_102, m_103, m_104, m_105, m_106, m_107, m_108, m_109, m_110, m_111, m_112, m_113, m_114, m_115, m_116, m_117, m_118, m_119, m_120, m_121, m_122, m_123, m_124, m_125, m_126, m_127, m_128, m_129, m_130, m_131, m_132, m_133, m_134, m_135, m_136, m_137, m_138, m_139, m_140, m_141, m_142, m_143, m_144, m_145, m_146, m_147, m_148, m_149, m_150, m_151, m_152, m_153, m_154, m_155, m_156, m_157, m_158, m_159, m_160, m_161, m_162, m_163, m_164, m_165, m_166, m_167, m_168, m_169, m_170, m_171, m_172, m_173, m_174, m_175, m_176, m_177, m_178, m_179, m_180, m_181, m_182, m_183, m_184, m_185, m_186, m_187, m_188, m_189, m_190, m_191, m_192, m_193, m_194, m_195, m_196, m_197, m_198, m_199, m_200, m_201, m_202, m_203, m_204, m_205, m_206, m_207, m_208, m_209, m_210, m_211, m_212, m_213, m_214, m_215, m_216, m_217, m_218, m_219]
def q_mt (j : Nat) : q_M := (q_ml[j]?).getD m_0
theorem e_0 : q_mt 0 = m_0 := rfl
theorem e_1 : q_mt 1 = m_1 := rfl
theorem e_2 : q_mt 2 = m_2 := rfl
theorem e_3 : q_mt 3 = m_3 := rfl
theorem e_4 : q_mt 4 = m_4 := rfl
theorem e_5 : q_mt 5 = m_5 := rfl
theorem e_6 : q_mt 6 = m_6 := rfl
theorem e_7 : q_mt 7 = m_7 := rfl
theorem e_8 : q_mt 8 = m_8 := rfl
theorem e_9 : q_mt 9 = m_9 := rfl
theorem e_10 : q_mt 10 = m_10 := rfl
theorem e_11 : q_mt 11 = m_11 := rfl
theorem e_12 : q_mt 12 = m_12 := rfl
theorem e_13 : q_mt 13 = m_13 := rfl
theorem e_14 : q_mt 14 = m_14 := rfl
theorem e_15 : q_mt 15 = m_15 := rfl
theorem e_16 : q_mt 16 = m_16 := rfl
theorem e_17 : q_mt 17 = m_17 := rfl
theorem e_18 : q_mt 18 = m_18 := rfl
theorem e_19 : q_mt 19 = m_19 := rfl
theorem e_20 : q_mt 20 = m_20 := rfl
theorem e_21 : q_mt 21 = m_21 := rfl
theorem e_22 : q_mt 22 = m_22 := rfl
theorem e_23 : q_mt 23 = m_23 := rfl
theorem e_24 : q_mt 24 = m_24 := rfl
theorem e_25 : q_mt 25 = m_25 := rfl
theorem e_26 : q_mt 26 = m_26 := rfl
theorem e_27 : q_mt 27 = m_27 := rfl
theorem e_28 : q_mt 28 = m_28 := rfl
theorem e_29 : q_mt 29 = m_29 := rfl
theorem e_30 : q_mt 30 = m_30 := rfl
theorem e_31 : q_mt 31 = m_31 := rfl
theorem e_32 : q_mt 32 = m_32 := rfl
theorem e_33 : q_mt 33 = m_33 := rfl
theorem e_34 : q_mt 34 = m_34 := rfl
theorem e_35 : q_mt 35 = m_35 := rfl
theorem e_36 : q_mt 36 = m_36 := rfl
theorem e_37 : q_mt 37 = m_37 := rfl
theorem e_38 : q_mt 38 = m_38 := rfl
theorem e_39 : q_mt 39 = m_39 := rfl
theorem e_40 : q_mt 40 = m_40 := rfl
theorem e_41 : q_mt 41 = m_41 := rfl
theorem e_42 : q_mt 42 = m_42 := rfl
theorem e_43 : q_mt 43 = m_43 := rfl
theorem e_44 : q_mt 44 = m_44 := rfl
theorem e_45 : q_mt 45 = m_45 := rfl
theorem e_46 : q_mt 46 = m_46 := rfl
theorem e_47 : q_mt 47 = m_47 := rfl
theorem e_48 : q_mt 48 = m_48 := rfl
theorem e_49 : q_mt 49 = m_49 := rfl
theorem e_50 : q_mt 50 = m_50 := rfl
theorem e_51 : q_mt 51 = m_51 := rfl
theorem e_52 : q_mt 52 = m_52 := rfl
theorem e_53 : q_mt 53 = m_53 := rfl
theorem e_54 : q_mt 54 = m_54 := rfl
theorem e_55 : q_mt 55 = m_55 := rfl
theorem e_56 : q_mt 56 = m_56 := rfl
theorem e_57 : q_mt 57 = m_57 := rfl
theorem e_58 : q_mt 58 = m_58 := rfl
theorem e_59 : q_mt 59 = m_59 := rfl
theorem e_60 : q_mt 60 = m_60 := rfl
theorem e_61 : q_mt 61 = m_61 := rfl
theorem e_62 : q_mt 62 = m_62 := rfl
theorem e_63 : q_mt 63 = m_63 := rfl
theorem e_64 : q_mt 64 = m_64 := rfl
theorem e_65 : q_mt 65 = m_65 := rfl
theorem e_66 : q_mt 66 = m_66 := rfl
theorem e_67 : q_mt 67 = m_67 := rfl
theorem e_68 : q_mt 68 = m_68 := rfl
theorem e_69 : q_mt 69 = m_69 := rfl
theorem e_70 : q_mt 70 = m_70 := rfl
theorem e_71 : q_mt 71 = m_71 := rfl
theorem e_72 : q_mt 72 = m_72 := rfl
theorem e_73 : q_mt 73 = m_73 := rfl
theorem e_74 : q_mt 74 = m_74 := rfl
theorem e_75 : q_mt 75 = m_75 := rfl
theorem e_76 : q_mt 76 = m_76 := rfl
theorem e_77 : q_mt 77 = m_77 := rfl
theorem e_78 : q_mt 78 = m_78 := rfl
theorem e_79 : q_mt 79 = m_79 := rfl
theorem e_80 : q_mt 80 = m_80 := rfl
theorem e_81 : q_mt 81 = m_81 := rfl
theorem e_82 : q_mt 82 = m_82 := rfl
theorem e_83 : q_mt 83 = m_83 := rfl
theorem e_84 : q_mt 84 = m_84 := rfl
theorem e_85 : q_mt 85 = m_85 := rfl
theorem e_86 : q_mt 86 = m_86 := rfl
theorem e_87 : q_mt 87 = m_87 := rfl
theorem e_88 : q_mt 88 = m_88 := rfl
theorem e_89 : q_mt 89 = m_89 := rfl
theorem e_90 : q_mt 90 = m_90 := rfl
theorem e_91 : q_mt 91 = m_91 := rfl
theorem e_92 : q_mt 92 = m_92 := rfl
theorem e_93 : q_mt 93 = m_93 := rfl
theorem e_94 : q_mt 94 = m_94 := rfl
theorem e_95 : q_mt 95 = m_95 := rfl
theorem e_96 : q_mt 96 = m_96 := rfl
theorem e_97 : q_mt 97 = m_97 := rfl
theorem e_98 : q_mt 98 = m_98 := rfl
theorem e_99 : q_mt 99 = m_99 := rfl
theorem e_100 : q_mt 100 = m_100 := rfl
theorem e_101 : q_mt 101 = m_101 := rfl
theorem e_102 : q_mt 102 = m_102 := rfl
theorem e_103 : q_mt 103 = m_103 := rfl
theorem e_104 : q_mt 104 = m_104 := rfl
theorem e_105 : q_mt 105 = m_105 := rfl
theorem e_106 : q_mt 106 = m_106 := rfl
theorem e_107 : q_mt 107 = m_107 := rfl
theorem e_108 : q_mt 108 = m_108 := rfl
theorem e_109 : q_mt 109 = m_109 := rfl
theorem e_110 : q_mt 110 = m_110 := rfl
theorem e_111 : q_mt 111 = m_111 := rfl
theorem e_112 : q_mt 112 = m_112 := rfl
theorem e_113 : q_mt 113 = m_113 := rfl
theorem e_114 : q_mt 114 = m_114 := rfl
theorem e_115 : q_mt 115 = m_115 := rfl
theorem e_116 : q_mt 116 = m_116 := rfl
theorem e_117 : q_mt 117 = m_117 := rfl
theorem e_118 : q_mt 118 = m_118 := rfl
theorem e_120 : q_mt 120 = m_120 := rfl
theorem e_121 : q_mt 121 = m_121 := rfl
theorem e_122 : q_mt 122 = m_122 := rfl
theorem e_123 : q_mt 123 = m_123 := rfl
theorem e_124 : q_mt 124 = m_124 := rfl
theorem e_125 : q_mt 125 = m_125 := rfl
theorem e_126 : q_mt 126 = m_126 := rfl
theorem e_127 : q_mt 127 = m_127 := rfl
theorem e_128 : q_mt 128 = m_128 := rfl
theorem e_129 : q_mt 129 = m_129 := rfl
theorem e_130 : q_mt 130 = m_130 := rfl
theorem e_131 : q_mt 131 = m_131 := rfl
theorem e_132 : q_mt 132 = m_132 := rfl
theorem e_133 : q_mt 133 = m_133 := rfl
theorem e_134 : q_mt 134 = m_134 := rfl
theorem e_135 : q_mt 135 = m_135 := rfl
theorem e_136 : q_mt 136 = m_136 := rfl
theorem e_137 : q_mt 137 = m_137 := rfl
theorem e_138 : q_mt 138 = m_138 := rfl
theorem e_139 : q_mt 139 = m_139 := rfl
theorem e_140 : q_mt 140 = m_140 := rfl
theorem e_141 : q_mt 141 = m_141 := rfl
theorem e_142 : q_mt 142 = m_142 := rfl
theorem e_143 : q_mt 143 = m_143 := rfl
theorem e_144 : q_mt 144 = m_144 := rfl
theorem e_145 : q_mt 145 = m_145 := rfl
theorem e_146 : q_mt 146 = m_146 := rfl
theorem e_147 : q_mt 147 = m_147 := rfl
theorem e_148 : q_mt 148 = m_148 := rfl
theorem e_149 : q_mt 149 = m_149 := rfl
theorem e_150 : q_mt 150 = m_150 := rfl
theorem e_151 : q_mt 151 = m_151 := rfl
theorem e_152 : q_mt 152 = m_152 := rfl
theorem e_153 : q_mt 153 = m_153 := rfl
theorem e_154 : q_mt 154 = m_154 := rfl
theorem e_155 : q_mt 155 = m_155 := rfl
theorem e_156 : q_mt 156 = m_156 := rfl
theorem e_157 : q_mt 157 = m_157 := rfl
theorem e_158 : q_mt 158 = m_158 := rfl
theorem e_159 : q_mt 159 = m_159 := rfl
theorem e_160 : q_mt 160 = m_160 := rfl
theorem e_161 : q_mt 161 = m_161 := rfl
theorem e_162 : q_mt 162 = m_162 := rfl
theorem e_163 : q_mt 163 = m_163 := rfl
theorem e_164 : q_mt 164 = m_164 := rfl
theorem e_165 : q_mt 165 = m_165 := rfl
theorem e_166 : q_mt 166 = m_166 := rfl
theorem e_167 : q_mt 167 = m_167 := rfl
theorem e_168 : q_mt 168 = m_168 := rfl
theorem e_169 : q_mt 169 = m_169 := rfl
theorem e_171 : q_mt 171 = m_171 := rfl
theorem e_172 : q_mt 172 = m_172 := rfl
theorem e_173 : q_mt 173 = m_173 := rfl
theorem e_174 : q_mt 174 = m_174 := rfl
theorem e_175 : q_mt 175 = m_175 := rfl
theorem e_176 : q_mt 176 = m_176 := rfl
theorem e_177 : q_mt 177 = m_177 := rfl
theorem e_178 : q_mt 178 = m_178 := rfl
theorem e_179 : q_mt 179 = m_179 := rfl
theorem e_180 : q_mt 180 = m_180 := rfl
theorem e_181 : q_mt 181 = m_181 := rfl
theorem e_182 : q_mt 182 = m_182 := rfl
theorem e_183 : q_mt 183 = m_183 := rfl
theorem e_184 : q_mt 184 = m_184 := rfl
theorem e_185 : q_mt 185 = m_185 := rfl
theorem e_186 : q_mt 186 = m_186 := rfl
theorem e_187 : q_mt 187 = m_187 := rfl
theorem e_188 : q_mt 188 = m_188 := rfl
theorem e_189 : q_mt 189 = m_189 := rfl
theorem e_190 : q_mt 190 = m_190 := rfl
theorem e_191 : q_mt 191 = m_191 := rfl
theorem e_192 : q_mt 192 = m_192 := rfl
theorem e_193 : q_mt 193 = m_193 := rfl
theorem e_194 : q_mt 194 = m_194 := rfl
theorem e_195 : q_mt 195 = m_195 := rfl
theorem e_196 : q_mt 196 = m_196 := rfl
theorem e_197 : q_mt 197 = m_197 := rfl
theorem e_198 : q_mt 198 = m_198 := rfl
theorem e_199 : q_mt 199 = m_199 := rfl
theorem e_200 : q_mt 200 = m_200 := rfl
theorem e_201 : q_mt 201 = m_201 := rfl
theorem e_202 : q_mt 202 = m_202 := rfl
theorem e_203 : q_mt 203 = m_203 := rfl
theorem e_204 : q_mt 204 = m_204 := rfl
theorem e_205 : q_mt 205 = m_205 := rfl
theorem e_206 : q_mt 206 = m_206 := rfl
theorem e_207 : q_mt 207 = m_207 := rfl
theorem e_208 : q_mt 208 = m_208 := rfl
theorem e_209 : q_mt 209 = m_209 := rfl
theorem e_210 : q_mt 210 = m_210 := rfl
theorem e_211 : q_mt 211 = m_211 := rfl
theorem e_212 : q_mt 212 = m_212 := rfl
theorem e_213 : q_mt 213 = m_213 := rfl
theorem e_214 : q_mt 214 = m_214 := rfl
theorem e_215 : q_mt 215 = m_215 := rfl
theorem e_216 : q_mt 216 = m_216 := rfl
theorem e_217 : q_mt 217 = m_217 := rfl
theorem e_218 : q_mt 218 = m_218 := rfl
theorem e_219 : q_mt 219 = m_219 := rfl
theorem s_0 : Cond.code m_0.1 m_0.2.1 m_0.2.2.1 m_0.2.2.2.1 ∈ q_gd ∧ Cond.initialized m_0.1.cls ∈ q_gd ∧ (m_0.1.cls ≠ "java/lang/invoke/MethodHandle" ∧ m_0.1.cls ≠ "java/lang/invoke/VarHandle" ∧ (parseMethodDescriptor m_0.1.desc).map (fun d => d.parameters.length) = some 1) := ⟨q_wg5 (i := 83) rfl rfl, w_17, by decide +kernel⟩
theorem s_1 : Cond.code m_1.1 m_1.2.1 m_1.2.2.1 m_1.2.2.2.1 ∈ q_gd ∧ Cond.initialized m_1.1.cls ∈ q_gd ∧ (m_1.1.cls ≠ "java/lang/invoke/MethodHandle" ∧ m_1.1.cls ≠ "java/lang/invoke/VarHandle" ∧ (parseMethodDescriptor m_1.1.desc).map (fun d => d.parameters.length) = some 3) := ⟨q_wg6 (i := 25) rfl rfl, w_17, by decide +kernel⟩
theorem s_2 : Cond.code m_2.1 m_2.2.1 m_2.2.2.1 m_2.2.2.2.1 ∈ q_gd ∧ Cond.initialized m_2.1.cls ∈ q_gd ∧ (m_2.1.cls ≠ "java/lang/invoke/MethodHandle" ∧ m_2.1.cls ≠ "java/lang/invoke/VarHandle" ∧ (parseMethodDescriptor m_2.1.desc).map (fun d => d.parameters.length) = some 2) := ⟨q_wg2 (i := 69) rfl rfl, w_1, by decide +kernel⟩
theorem s_3 : Cond.code m_3.1 m_3.2.1 m_3.2.2.1 m_3.2.2.2.1 ∈ q_gd ∧ Cond.initialized m_3.1.cls ∈ q_gd ∧ (m_3.1.cls ≠ "java/lang/invoke/MethodHandle" ∧ m_3.1.cls ≠ "java/lang/invoke/VarHandle" ∧ (parseMethodDescriptor m_3.1.desc).map (fun d => d.parameters.length) = some 2) := ⟨q_wg5 (i := 147) rfl rfl, w_17, by decide +kernel⟩
theorem s_4 : Cond.code m_4.1 m_4.2.1 m_4.2.2.1 m_4.2.2.2.1 ∈ q_gd ∧ Cond.initialized m_4.1.cls ∈ q_gd ∧ (m_4.1.cls ≠ "java/lang/invoke/MethodHandle" ∧ m_4.1.cls ≠ "java/lang/invoke/VarHandle" ∧ (parseMethodDescriptor m_4.1.desc).map (fun d => d.parameters.length) = some 0) := ⟨q_wg2 (i := 58) rfl rfl, w_2, by decide +kernel⟩
theorem s_5 : Cond.code m_5.1 m_5.2.1 m_5.2.2.1 m_5.2.2.2.1 ∈ q_gd ∧ Cond.initialized m_5.1.cls ∈ q_gd ∧ (m_5.1.cls ≠ "java/lang/invoke/MethodHandle" ∧ m_5.1.cls ≠ "java/lang/invoke/VarHandle" ∧ (parseMethodDescriptor m_5.1.desc).map (fun d => d.parameters.length) = some 1) := ⟨q_wg2 (i := 35) rfl rfl, w_2, by decide +kernel⟩
theorem s_6 : Cond.code m_6.1 m_6.2.1 m_6.2.2.1 m_6.2.2.2.1 ∈ q_gd ∧ Cond.initialized m_6.1.cls ∈ q_gd ∧ (m_6.1.cls ≠ "java/lang/invoke/MethodHandle" ∧ m_6.1.cls ≠ "java/lang/invoke/VarHandle" ∧ (parseMethodDescriptor m_6.1.desc).map (fun d => d.parameters.length) = some 2) := ⟨q_wg2 (i := 143) rfl rfl, w_4, by decide +kernel⟩
theorem s_7 : Cond.code m_7.1 m_7.2.1 m_7.2.2.1 m_7.2.2.2.1 ∈ q_gd ∧ Cond.initialized m_7.1.cls ∈ q_gd ∧ (m_7.1.cls ≠ "java/lang/invoke/MethodHandle" ∧ m_7.1.cls ≠ "java/lang/invoke/VarHandle" ∧ (parseMethodDescriptor m_7.1.desc).map (fun d => d.parameters.length) = some 1) := ⟨q_wg2 (i := 84) rfl rfl, w_1, by decide +kernel⟩
theorem s_8 : Cond.code m_8.1 m_8.2.1 m_8.2.2.1 m_8.2.2.2.1 ∈ q_gd ∧ Cond.initialized m_8.1.cls ∈ q_gd ∧ (m_8.1.cls ≠ "java/lang/invoke/MethodHandle" ∧ m_8.1.cls ≠ "java/lang/invoke/VarHandle" ∧ (parseMethodDescriptor m_8.1.desc).map (fun d => d.parameters.length) = some 1) := ⟨q_wg2 (i := 66) rfl rfl, w_2, by decide +kernel⟩
theorem s_9 : Cond.code m_9.1 m_9.2.1 m_9.2.2.1 m_9.2.2.2.1 ∈ q_gd ∧ Cond.initialized m_9.1.cls ∈ q_gd ∧ (m_9.1.cls ≠ "java/lang/invoke/MethodHandle" ∧ m_9.1.cls ≠ "java/lang/invoke/VarHandle" ∧ (parseMethodDescriptor m_9.1.desc).map (fun d => d.parameters.length) = some 1) := ⟨q_wg2 (i := 73) rfl rfl, w_2, by decide +kernel⟩
theorem s_10 : Cond.code m_10.1 m_10.2.1 m_10.2.2.1 m_10.2.2.2.1 ∈ q_gd ∧ Cond.initialized m_10.1.cls ∈ q_gd ∧ (m_10.1.cls ≠ "java/lang/invoke/MethodHandle" ∧ m_10.1.cls ≠ "java/lang/invoke/VarHandle" ∧ (parseMethodDescriptor m_10.1.desc).map (fun d => d.parameters.length) = some 4) := ⟨q_wg2 (i := 150) rfl rfl, w_4, by decide +kernel⟩
theorem s_11 : Cond.code m_11.1 m_11.2.1 m_11.2.2.1 m_11.2.2.2.1 ∈ q_gd ∧ Cond.initialized m_11.1.cls ∈ q_gd ∧ (m_11.1.cls ≠ "java/lang/invoke/MethodHandle" ∧ m_11.1.cls ≠ "java/lang/invoke/VarHandle" ∧ (parseMethodDescriptor m_11.1.desc).map (fun d => d.parameters.length) = some 1) := ⟨q_wg2 (i := 154) rfl rfl, w_4, by decide +kernel⟩
theorem s_12 : Cond.code m_12.1 m_12.2.1 m_12.2.2.1 m_12.2.2.2.1 ∈ q_gd ∧ Cond.initialized m_12.1.cls ∈ q_gd ∧ (m_12.1.cls ≠ "java/lang/invoke/MethodHandle" ∧ m_12.1.cls ≠ "java/lang/invoke/VarHandle" ∧ (parseMethodDescriptor m_12.1.desc).map (fun d => d.parameters.length) = some 2) := ⟨q_wg2 (i := 147) rfl rfl, w_4, by decide +kernel⟩
theorem s_13 : Cond.code m_13.1 m_13.2.1 m_13.2.2.1 m_13.2.2.2.1 ∈ q_gd ∧ Cond.initialized m_13.1.cls ∈ q_gd ∧ (m_13.1.cls ≠ "java/lang/invoke/MethodHandle" ∧ m_13.1.cls ≠ "java/lang/invoke/VarHandle" ∧ (parseMethodDescriptor m_13.1.desc).map (fun d => d.parameters.length) = some 2) := ⟨q_wg2 (i := 81) rfl rfl, w_2, by decide +kernel⟩
theorem s_14 : Cond.code m_14.1 m_14.2.1 m_14.2.2.1 m_14.2.2.2.1 ∈ q_gd ∧ Cond.initialized m_14.1.cls ∈ q_gd ∧ (m_14.1.cls ≠ "java/lang/invoke/MethodHandle" ∧ m_14.1.cls ≠ "java/lang/invoke/VarHandle" ∧ (parseMethodDescriptor m_14.1.desc).map (fun d => d.parameters.length) = some 1) := ⟨q_wg2 (i := 54) rfl rfl, w_2, by decide +kernel⟩
theorem s_15 : Cond.code m_15.1 m_15.2.1 m_15.2.2.1 m_15.2.2.2.1 ∈ q_gd ∧ Cond.initialized m_15.1.cls ∈ q_gd ∧ (m_15.1.cls ≠ "java/lang/invoke/MethodHandle" ∧ m_15.1.cls ≠ "java/lang/invoke/VarHandle" ∧ (parseMethodDescriptor m_15.1.desc).map (fun d => d.parameters.length) = some 0) := ⟨q_wg2 (i := 114) rfl rfl, w_2, by decide +kernel⟩
theorem s_16 : Cond.code m_16.1 m_16.2.1 m_16.2.2.1 m_16.2.2.2.1 ∈ q_gd ∧ Cond.initialized m_16.1.cls ∈ q_gd ∧ (m_16.1.cls ≠ "java/lang/invoke/MethodHandle" ∧ m_16.1.cls ≠ "java/lang/invoke/VarHandle" ∧ (parseMethodDescriptor m_16.1.desc).map (fun d => d.parameters.length) = some 4) := ⟨q_wg2 (i := 77) rfl rfl, w_2, by decide +kernel⟩
theorem s_17 : Cond.code m_17.1 m_17.2.1 m_17.2.2.1 m_17.2.2.2.1 ∈ q_gd ∧ Cond.initialized m_17.1.cls ∈ q_gd ∧ (m_17.1.cls ≠ "java/lang/invoke/MethodHandle" ∧ m_17.1.cls ≠ "java/lang/invoke/VarHandle" ∧ (parseMethodDescriptor m_17.1.desc).map (fun d => d.parameters.length) = some 3) := ⟨q_wg4 (i := 175) rfl rfl, w_17, by decide +kernel⟩
theorem s_18 : Cond.code m_18.1 m_18.2.1 m_18.2.2.1 m_18.2.2.2.1 ∈ q_gd ∧ Cond.initialized m_18.1.cls ∈ q_gd ∧ (m_18.1.cls ≠ "java/lang/invoke/MethodHandle" ∧ m_18.1.cls ≠ "java/lang/invoke/VarHandle" ∧ (parseMethodDescriptor m_18.1.desc).map (fun d => d.parameters.length) = some 4) := ⟨q_wg5 (i := 209) rfl rfl, w_17, by decide +kernel⟩
theorem s_19 : Cond.code m_19.1 m_19.2.1 m_19.2.2.1 m_19.2.2.2.1 ∈ q_gd ∧ Cond.initialized m_19.1.cls ∈ q_gd ∧ (m_19.1.cls ≠ "java/lang/invoke/MethodHandle" ∧ m_19.1.cls ≠ "java/lang/invoke/VarHandle" ∧ (parseMethodDescriptor m_19.1.desc).map (fun d => d.parameters.length) = some 1) := ⟨q_wg2 (i := 127) rfl rfl, w_2, by decide +kernel⟩
theorem s_20 : Cond.code m_20.1 m_20.2.1 m_20.2.2.1 m_20.2.2.2.1 ∈ q_gd ∧ Cond.initialized m_20.1.cls ∈ q_gd ∧ (m_20.1.cls ≠ "java/lang/invoke/MethodHandle" ∧ m_20.1.cls ≠ "java/lang/invoke/VarHandle" ∧ (parseMethodDescriptor m_20.1.desc).map (fun d => d.parameters.length) = some 0) := ⟨q_wg2 (i := 131) rfl rfl, w_2, by decide +kernel⟩
theorem s_21 : Cond.code m_21.1 m_21.2.1 m_21.2.2.1 m_21.2.2.2.1 ∈ q_gd ∧ Cond.initialized m_21.1.cls ∈ q_gd ∧ (m_21.1.cls ≠ "java/lang/invoke/MethodHandle" ∧ m_21.1.cls ≠ "java/lang/invoke/VarHandle" ∧ (parseMethodDescriptor m_21.1.desc).map (fun d => d.parameters.length) = some 2) := ⟨q_wg2 (i := 135) rfl rfl, w_4, by decide +kernel⟩
theorem s_22 : Cond.code m_22.1 m_22.2.1 m_22.2.2.1 m_22.2.2.2.1 ∈ q_gd ∧ Cond.initialized m_22.1.cls ∈ q_gd ∧ (m_22.1.cls ≠ "java/lang/invoke/MethodHandle" ∧ m_22.1.cls ≠ "java/lang/invoke/VarHandle" ∧ (parseMethodDescriptor m_22.1.desc).map (fun d => d.parameters.length) = some 8) := ⟨q_wg4 (i := 179) rfl rfl, w_17, by decide +kernel⟩
theorem s_23 : Cond.code m_23.1 m_23.2.1 m_23.2.2.1 m_23.2.2.2.1 ∈ q_gd ∧ Cond.initialized m_23.1.cls ∈ q_gd ∧ (m_23.1.cls ≠ "java/lang/invoke/MethodHandle" ∧ m_23.1.cls ≠ "java/lang/invoke/VarHandle" ∧ (parseMethodDescriptor m_23.1.desc).map (fun d => d.parameters.length) = some 3) := ⟨q_wg2 (i := 121) rfl rfl, w_1, by decide +kernel⟩
theorem s_24 : Cond.code m_24.1 m_24.2.1 m_24.2.2.1 m_24.2.2.2.1 ∈ q_gd ∧ Cond.initialized m_24.1.cls ∈ q_gd ∧ (m_24.1.cls ≠ "java/lang/invoke/MethodHandle" ∧ m_24.1.cls ≠ "java/lang/invoke/VarHandle" ∧ (parseMethodDescriptor m_24.1.desc).map (fun d => d.parameters.length) = some 4) := ⟨q_wg2 (i := 118) rfl rfl, w_4, by decide +kernel⟩
theorem s_25 : Cond.code m_25.1 m_25.2.1 m_25.2.2.1 m_25.2.2.2.1 ∈ q_gd ∧ Cond.initialized m_25.1.cls ∈ q_gd ∧ (m_25.1.cls ≠ "java/lang/invoke/MethodHandle" ∧ m_25.1.cls ≠ "java/lang/invoke/VarHandle" ∧ (parseMethodDescriptor m_25.1.desc).map (fun d => d.parameters.length) = some 0) := ⟨q_wg1 (i := 57) rfl rfl, w_4, by decide +kernel⟩
theorem s_26 : Cond.code m_26.1 m_26.2.1 m_26.2.2.1 m_26.2.2.2.1 ∈ q_gd ∧ Cond.initialized m_26.1.cls ∈ q_gd ∧ (m_26.1.cls ≠ "java/lang/invoke/MethodHandle" ∧ m_26.1.cls ≠ "java/lang/invoke/VarHandle" ∧ (parseMethodDescriptor m_26.1.desc).map (fun d => d.parameters.length) = some 1) := ⟨q_wg2 (i := 90) rfl rfl, w_2, by decide +kernel⟩
theorem s_27 : Cond.code m_27.1 m_27.2.1 m_27.2.2.1 m_27.2.2.2.1 ∈ q_gd ∧ Cond.initialized m_27.1.cls ∈ q_gd ∧ (m_27.1.cls ≠ "java/lang/invoke/MethodHandle" ∧ m_27.1.cls ≠ "java/lang/invoke/VarHandle" ∧ (parseMethodDescriptor m_27.1.desc).map (fun d => d.parameters.length) = some 2) := ⟨q_wg2 (i := 46) rfl rfl, w_15, by decide +kernel⟩
theorem s_28 : Cond.code m_28.1 m_28.2.1 m_28.2.2.1 m_28.2.2.2.1 ∈ q_gd ∧ Cond.initialized m_28.1.cls ∈ q_gd ∧ (m_28.1.cls ≠ "java/lang/invoke/MethodHandle" ∧ m_28.1.cls ≠ "java/lang/invoke/VarHandle" ∧ (parseMethodDescriptor m_28.1.desc).map (fun d => d.parameters.length) = some 1) := ⟨q_wg2 (i := 110) rfl rfl, w_2, by decide +kernel⟩
theorem s_29 : Cond.code m_29.1 m_29.2.1 m_29.2.2.1 m_29.2.2.2.1 ∈ q_gd ∧ Cond.initialized m_29.1.cls ∈ q_gd ∧ (m_29.1.cls ≠ "java/lang/invoke/MethodHandle" ∧ m_29.1.cls ≠ "java/lang/invoke/VarHandle" ∧ (parseMethodDescriptor m_29.1.desc).map (fun d => d.parameters.length) = some 4) := ⟨q_wg6 (i := 29) rfl rfl, w_17, by decide +kernel⟩
theorem s_30 : Cond.code m_30.1 m_30.2.1 m_30.2.2.1 m_30.2.2.2.1 ∈ q_gd ∧ Cond.initialized m_30.1.cls ∈ q_gd ∧ (m_30.1.cls ≠ "java/lang/invoke/MethodHandle" ∧ m_30.1.cls ≠ "java/lang/invoke/VarHandle" ∧ (parseMethodDescriptor m_30.1.desc).map (fun d => d.parameters.length) = some 3) := ⟨q_wg3 (i := 32) rfl rfl, w_4, by decide +kernel⟩
theorem s_31 : Cond.code m_31.1 m_31.2.1 m_31.2.2.1 m_31.2.2.2.1 ∈ q_gd ∧ Cond.initialized m_31.1.cls ∈ q_gd ∧ (m_31.1.cls ≠ "java/lang/invoke/MethodHandle" ∧ m_31.1.cls ≠ "java/lang/invoke/VarHandle" ∧ (parseMethodDescriptor m_31.1.desc).map (fun d => d.parameters.length) = some 0) := ⟨q_wg1 (i := 111) rfl rfl, w_6, by decide +kernel⟩
theorem s_32 : Cond.code m_32.1 m_32.2.1 m_32.2.2.1 m_32.2.2.2.1 ∈ q_gd ∧ Cond.initialized m_32.1.cls ∈ q_gd ∧ (m_32.1.cls ≠ "java/lang/invoke/MethodHandle" ∧ m_32.1.cls ≠ "java/lang/invoke/VarHandle" ∧ (parseMethodDescriptor m_32.1.desc).map (fun d => d.parameters.length) = some 3) := ⟨q_wg5 (i := 213) rfl rfl, w_17, by decide +kernel⟩
theorem s_33 : Cond.code m_33.1 m_33.2.1 m_33.2.2.1 m_33.2.2.2.1 ∈ q_gd ∧ Cond.initialized m_33.1.cls ∈ q_gd ∧ (m_33.1.cls ≠ "java/lang/invoke/MethodHandle" ∧ m_33.1.cls ≠ "java/lang/invoke/VarHandle" ∧ (parseMethodDescriptor m_33.1.desc).map (fun d => d.parameters.length) = some 2) := ⟨q_wg6 (i := 36) rfl rfl, w_17, by decide +kernel⟩
theorem s_34 : Cond.code m_34.1 m_34.2.1 m_34.2.2.1 m_34.2.2.2.1 ∈ q_gd ∧ Cond.initialized m_34.1.cls ∈ q_gd ∧ (m_34.1.cls ≠ "java/lang/invoke/MethodHandle" ∧ m_34.1.cls ≠ "java/lang/invoke/VarHandle" ∧ (parseMethodDescriptor m_34.1.desc).map (fun d => d.parameters.length) = some 0) := ⟨q_wg1 (i := 108) rfl rfl, w_7, by decide +kernel⟩
theorem s_35 : Cond.code m_35.1 m_35.2.1 m_35.2.2.1 m_35.2.2.2.1 ∈ q_gd ∧ Cond.initialized m_35.1.cls ∈ q_gd ∧ (m_35.1.cls ≠ "java/lang/invoke/MethodHandle" ∧ m_35.1.cls ≠ "java/lang/invoke/VarHandle" ∧ (parseMethodDescriptor m_35.1.desc).map (fun d => d.parameters.length) = some 1) := ⟨q_wg2 (i := 62) rfl rfl, w_2, by decide +kernel⟩
theorem s_36 : Cond.code m_36.1 m_36.2.1 m_36.2.2.1 m_36.2.2.2.1 ∈ q_gd ∧ Cond.initialized m_36.1.cls ∈ q_gd ∧ (m_36.1.cls ≠ "java/lang/invoke/MethodHandle" ∧ m_36.1.cls ≠ "java/lang/invoke/VarHandle" ∧ (parseMethodDescriptor m_36.1.desc).map (fun d => d.parameters.length) = some 3) := ⟨q_wg2 (i := 94) rfl rfl, w_4, by decide +kernel⟩
theorem s_37 : Cond.code m_37.1 m_37.2.1 m_37.2.2.1 m_37.2.2.2.1 ∈ q_gd ∧ Cond.initialized m_37.1.cls ∈ q_gd ∧ (m_37.1.cls ≠ "java/lang/invoke/MethodHandle" ∧ m_37.1.cls ≠ "java/lang/invoke/VarHandle" ∧ (parseMethodDescriptor m_37.1.desc).map (fun d => d.parameters.length) = some 8) := ⟨q_wg4 (i := 172) rfl rfl, w_17, by decide +kernel⟩
theorem s_38 : Cond.code m_38.1 m_38.2.1 m_38.2.2.1 m_38.2.2.2.1 ∈ q_gd ∧ Cond.initialized m_38.1.cls ∈ q_gd ∧ (m_38.1.cls ≠ "java/lang/invoke/MethodHandle" ∧ m_38.1.cls ≠ "java/lang/invoke/VarHandle" ∧ (parseMethodDescriptor m_38.1.desc).map (fun d => d.parameters.length) = some 4) := ⟨q_wg6 (i := 33) rfl rfl, w_17, by decide +kernel⟩
theorem s_39 : Cond.code m_39.1 m_39.2.1 m_39.2.2.1 m_39.2.2.2.1 ∈ q_gd ∧ Cond.initialized m_39.1.cls ∈ q_gd ∧ (m_39.1.cls ≠ "java/lang/invoke/MethodHandle" ∧ m_39.1.cls ≠ "java/lang/invoke/VarHandle" ∧ (parseMethodDescriptor m_39.1.desc).map (fun d => d.parameters.length) = some 4) := ⟨q_wg4 (i := 89) rfl rfl, w_10, by decide +kernel⟩
theorem s_40 : Cond.code m_40.1 m_40.2.1 m_40.2.2.1 m_40.2.2.2.1 ∈ q_gd ∧ Cond.initialized m_40.1.cls ∈ q_gd ∧ (m_40.1.cls ≠ "java/lang/invoke/MethodHandle" ∧ m_40.1.cls ≠ "java/lang/invoke/VarHandle" ∧ (parseMethodDescriptor m_40.1.desc).map (fun d => d.parameters.length) = some 4) := ⟨q_wg4 (i := 93) rfl rfl, w_10, by decide +kernel⟩
theorem s_41 : Cond.code m_41.1 m_41.2.1 m_41.2.2.1 m_41.2.2.2.1 ∈ q_gd ∧ Cond.initialized m_41.1.cls ∈ q_gd ∧ (m_41.1.cls ≠ "java/lang/invoke/MethodHandle" ∧ m_41.1.cls ≠ "java/lang/invoke/VarHandle" ∧ (parseMethodDescriptor m_41.1.desc).map (fun d => d.parameters.length) = some 1) := ⟨q_wg4 (i := 97) rfl rfl, w_10, by decide +kernel⟩
theorem s_42 : Cond.code m_42.1 m_42.2.1 m_42.2.2.1 m_42.2.2.2.1 ∈ q_gd ∧ Cond.initialized m_42.1.cls ∈ q_gd ∧ (m_42.1.cls ≠ "java/lang/invoke/MethodHandle" ∧ m_42.1.cls ≠ "java/lang/invoke/VarHandle" ∧ (parseMethodDescriptor m_42.1.desc).map (fun d => d.parameters.length) = some 1) := ⟨q_wg1 (i := 87) rfl rfl, w_5, by decide +kernel⟩
theorem s_43 : Cond.code m_43.1 m_43.2.1 m_43.2.2.1 m_43.2.2.2.1 ∈ q_gd ∧ Cond.initialized m_43.1.cls ∈ q_gd ∧ (m_43.1.cls ≠ "java/lang/invoke/MethodHandle" ∧ m_43.1.cls ≠ "java/lang/invoke/VarHandle" ∧ (parseMethodDescriptor m_43.1.desc).map (fun d => d.parameters.length) = some 1) := ⟨q_wg1 (i := 172) rfl rfl, w_10, by decide +kernel⟩
theorem s_44 : Cond.code m_44.1 m_44.2.1 m_44.2.2.1 m_44.2.2.2.1 ∈ q_gd ∧ Cond.initialized m_44.1.cls ∈ q_gd ∧ (m_44.1.cls ≠ "java/lang/invoke/MethodHandle" ∧ m_44.1.cls ≠ "java/lang/invoke/VarHandle" ∧ (parseMethodDescriptor m_44.1.desc).map (fun d => d.parameters.length) = some 2) := ⟨q_wg3 (i := 4) rfl rfl, w_4, by decide +kernel⟩
theorem s_45 : Cond.code m_45.1 m_45.2.1 m_45.2.2.1 m_45.2.2.2.1 ∈ q_gd ∧ Cond.initialized m_45.1.cls ∈ q_gd ∧ (m_45.1.cls ≠ "java/lang/invoke/MethodHandle" ∧ m_45.1.cls ≠ "java/lang/invoke/VarHandle" ∧ (parseMethodDescriptor m_45.1.desc).map (fun d => d.parameters.length) = some 3) := ⟨q_wg5 (i := 52) rfl rfl, w_17, by decide +kernel⟩
theorem s_46 : Cond.code m_46.1 m_46.2.1 m_46.2.2.1 m_46.2.2.2.1 ∈ q_gd ∧ Cond.initialized m_46.1.cls ∈ q_gd ∧ (m_46.1.cls ≠ "java/lang/invoke/MethodHandle" ∧ m_46.1.cls ≠ "java/lang/invoke/VarHandle" ∧ (parseMethodDescriptor m_46.1.desc).map (fun d => d.parameters.length) = some 4) := ⟨q_wg3 (i := 161) rfl rfl, w_4, by decide +kernel⟩
theorem s_47 : Cond.code m_47.1 m_47.2.1 m_47.2.2.1 m_47.2.2.2.1 ∈ q_gd ∧ Cond.initialized m_47.1.cls ∈ q_gd ∧ (m_47.1.cls ≠ "java/lang/invoke/MethodHandle" ∧ m_47.1.cls ≠ "java/lang/invoke/VarHandle" ∧ (parseMethodDescriptor m_47.1.desc).map (fun d => d.parameters.length) = some 2) := ⟨q_wg3 (i := 8) rfl rfl, w_4, by decide +kernel⟩
theorem s_48 : Cond.code m_48.1 m_48.2.1 m_48.2.2.1 m_48.2.2.2.1 ∈ q_gd ∧ Cond.initialized m_48.1.cls ∈ q_gd ∧ (m_48.1.cls ≠ "java/lang/invoke/MethodHandle" ∧ m_48.1.cls ≠ "java/lang/invoke/VarHandle" ∧ (parseMethodDescriptor m_48.1.desc).map (fun d => d.parameters.length) = some 0) := ⟨q_wg2 (i := 139) rfl rfl, w_4, by decide +kernel⟩
theorem s_49 : Cond.code m_49.1 m_49.2.1 m_49.2.2.1 m_49.2.2.2.1 ∈ q_gd ∧ Cond.initialized m_49.1.cls ∈ q_gd ∧ (m_49.1.cls ≠ "java/lang/invoke/MethodHandle" ∧ m_49.1.cls ≠ "java/lang/invoke/VarHandle" ∧ (parseMethodDescriptor m_49.1.desc).map (fun d => d.parameters.length) = some 0) := ⟨q_wg2 (i := 50) rfl rfl, w_2, by decide +kernel⟩
theorem s_50 : Cond.code m_50.1 m_50.2.1 m_50.2.2.1 m_50.2.2.2.1 ∈ q_gd ∧ Cond.initialized m_50.1.cls ∈ q_gd ∧ (m_50.1.cls ≠ "java/lang/invoke/MethodHandle" ∧ m_50.1.cls ≠ "java/lang/invoke/VarHandle" ∧ (parseMethodDescriptor m_50.1.desc).map (fun d => d.parameters.length) = some 5) := ⟨q_wg4 (i := 102) rfl rfl, w_10, by decide +kernel⟩
theorem s_51 : Cond.code m_51.1 m_51.2.1 m_51.2.2.1 m_51.2.2.2.1 ∈ q_gd ∧ Cond.initialized m_51.1.cls ∈ q_gd ∧ (m_51.1.cls ≠ "java/lang/invoke/MethodHandle" ∧ m_51.1.cls ≠ "java/lang/invoke/VarHandle" ∧ (parseMethodDescriptor m_51.1.desc).map (fun d => d.parameters.length) = some 1) := ⟨q_wg2 (i := 39) rfl rfl, w_2, by decide +kernel⟩
theorem s_52 : Cond.code m_52.1 m_52.2.1 m_52.2.2.1 m_52.2.2.2.1 ∈ q_gd ∧ Cond.initialized m_52.1.cls ∈ q_gd ∧ (m_52.1.cls ≠ "java/lang/invoke/MethodHandle" ∧ m_52.1.cls ≠ "java/lang/invoke/VarHandle" ∧ (parseMethodDescriptor m_52.1.desc).map (fun d => d.parameters.length) = some 0) := ⟨q_wg2 (i := 43) rfl rfl, w_4, by decide +kernel⟩
theorem s_53 : Cond.code m_53.1 m_53.2.1 m_53.2.2.1 m_53.2.2.2.1 ∈ q_gd ∧ Cond.initialized m_53.1.cls ∈ q_gd ∧ (m_53.1.cls ≠ "java/lang/invoke/MethodHandle" ∧ m_53.1.cls ≠ "java/lang/invoke/VarHandle" ∧ (parseMethodDescriptor m_53.1.desc).map (fun d => d.parameters.length) = some 2) := ⟨q_wg3 (i := 59) rfl rfl, w_4, by decide +kernel⟩
theorem s_54 : Cond.code m_54.1 m_54.2.1 m_54.2.2.1 m_54.2.2.2.1 ∈ q_gd ∧ Cond.initialized m_54.1.cls ∈ q_gd ∧ (m_54.1.cls ≠ "java/lang/invoke/MethodHandle" ∧ m_54.1.cls ≠ "java/lang/invoke/VarHandle" ∧ (parseMethodDescriptor m_54.1.desc).map (fun d => d.parameters.length) = some 0) := ⟨q_wg4 (i := 168) rfl rfl, w_17, by decide +kernel⟩
theorem s_55 : Cond.code m_55.1 m_55.2.1 m_55.2.2.1 m_55.2.2.2.1 ∈ q_gd ∧ Cond.initialized m_55.1.cls ∈ q_gd ∧ (m_55.1.cls ≠ "java/lang/invoke/MethodHandle" ∧ m_55.1.cls ≠ "java/lang/invoke/VarHandle" ∧ (parseMethodDescriptor m_55.1.desc).map (fun d => d.parameters.length) = some 0) := ⟨q_wg2 (i := 158) rfl rfl, w_2, by decide +kernel⟩
theorem s_56 : Cond.code m_56.1 m_56.2.1 m_56.2.2.1 m_56.2.2.2.1 ∈ q_gd ∧ Cond.initialized m_56.1.cls ∈ q_gd ∧ (m_56.1.cls ≠ "java/lang/invoke/MethodHandle" ∧ m_56.1.cls ≠ "java/lang/invoke/VarHandle" ∧ (parseMethodDescriptor m_56.1.desc).map (fun d => d.parameters.length) = some 0) := ⟨q_wg1 (i := 30) rfl rfl, w_2, by decide +kernel⟩
theorem s_57 : Cond.code m_57.1 m_57.2.1 m_57.2.2.1 m_57.2.2.2.1 ∈ q_gd ∧ Cond.initialized m_57.1.cls ∈ q_gd ∧ (m_57.1.cls ≠ "java/lang/invoke/MethodHandle" ∧ m_57.1.cls ≠ "java/lang/invoke/VarHandle" ∧ (parseMethodDescriptor m_57.1.desc).map (fun d => d.parameters.length) = some 0) := ⟨q_wg1 (i := 130) rfl rfl, w_8, by decide +kernel⟩
theorem s_58 : Cond.code m_58.1 m_58.2.1 m_58.2.2.1 m_58.2.2.2.1 ∈ q_gd ∧ Cond.initialized m_58.1.cls ∈ q_gd ∧ (m_58.1.cls ≠ "java/lang/invoke/MethodHandle" ∧ m_58.1.cls ≠ "java/lang/invoke/VarHandle" ∧ (parseMethodDescriptor m_58.1.desc).map (fun d => d.parameters.length) = some 0) := ⟨q_wg1 (i := 142) rfl rfl, w_9, by decide +kernel⟩
theorem s_59 : Cond.code m_59.1 m_59.2.1 m_59.2.2.1 m_59.2.2.2.1 ∈ q_gd ∧ Cond.initialized m_59.1.cls ∈ q_gd ∧ (m_59.1.cls ≠ "java/lang/invoke/MethodHandle" ∧ m_59.1.cls ≠ "java/lang/invoke/VarHandle" ∧ (parseMethodDescriptor m_59.1.desc).map (fun d => d.parameters.length) = some 0) := ⟨q_wg4 (i := 183) rfl rfl, w_17, by decide +kernel⟩
theorem s_60 : Cond.code m_60.1 m_60.2.1 m_60.2.2.1 m_60.2.2.2.1 ∈ q_gd ∧ Cond.initialized m_60.1.cls ∈ q_gd ∧ (m_60.1.cls ≠ "java/lang/invoke/MethodHandle" ∧ m_60.1.cls ≠ "java/lang/invoke/VarHandle" ∧ (parseMethodDescriptor m_60.1.desc).map (fun d => d.parameters.length) = some 1) := ⟨q_wg3 (i := 50) rfl rfl, w_4, by decide +kernel⟩
theorem s_61 : Cond.code m_61.1 m_61.2.1 m_61.2.2.1 m_61.2.2.2.1 ∈ q_gd ∧ Cond.initialized m_61.1.cls ∈ q_gd ∧ (m_61.1.cls ≠ "java/lang/invoke/MethodHandle" ∧ m_61.1.cls ≠ "java/lang/invoke/VarHandle" ∧ (parseMethodDescriptor m_61.1.desc).map (fun d => d.parameters.length) = some 2) := ⟨q_wg4 (i := 117) rfl rfl, w_10, by decide +kernel⟩
theorem s_62 : Cond.code m_62.1 m_62.2.1 m_62.2.2.1 m_62.2.2.2.1 ∈ q_gd ∧ Cond.initialized m_62.1.cls ∈ q_gd ∧ (m_62.1.cls ≠ "java/lang/invoke/MethodHandle" ∧ m_62.1.cls ≠ "java/lang/invoke/VarHandle" ∧ (parseMethodDescriptor m_62.1.desc).map (fun d => d.parameters.length) = some 0) := ⟨q_wg2 (i := 232) rfl rfl, w_10, by decide +kernel⟩
theorem s_63 : Cond.code m_63.1 m_63.2.1 m_63.2.2.1 m_63.2.2.2.1 ∈ q_gd ∧ Cond.initialized m_63.1.cls ∈ q_gd ∧ (m_63.1.cls ≠ "java/lang/invoke/MethodHandle" ∧ m_63.1.cls ≠ "java/lang/invoke/VarHandle" ∧ (parseMethodDescriptor m_63.1.desc).map (fun d => d.parameters.length) = some 1) := ⟨q_wg3 (i := 0) rfl rfl, w_4, by decide +kernel⟩
theorem s_64 : Cond.code m_64.1 m_64.2.1 m_64.2.2.1 m_64.2.2.2.1 ∈ q_gd ∧ Cond.initialized m_64.1.cls ∈ q_gd ∧ (m_64.1.cls ≠ "java/lang/invoke/MethodHandle" ∧ m_64.1.cls ≠ "java/lang/invoke/VarHandle" ∧ (parseMethodDescriptor m_64.1.desc).map (fun d => d.parameters.length) = some 1) := ⟨q_wg5 (i := 118) rfl rfl, w_17, by decide +kernel⟩
theorem s_65 : Cond.code m_65.1 m_65.2.1 m_65.2.2.1 m_65.2.2.2.1 ∈ q_gd ∧ Cond.initialized m_65.1.cls ∈ q_gd ∧ (m_65.1.cls ≠ "java/lang/invoke/MethodHandle" ∧ m_65.1.cls ≠ "java/lang/invoke/VarHandle" ∧ (parseMethodDescriptor m_65.1.desc).map (fun d => d.parameters.length) = some 2) := ⟨q_wg4 (i := 71) rfl rfl, w_10, by decide +kernel⟩
theorem s_66 : Cond.code m_66.1 m_66.2.1 m_66.2.2.1 m_66.2.2.2.1 ∈ q_gd ∧ Cond.initialized m_66.1.cls ∈ q_gd ∧ (m_66.1.cls ≠ "java/lang/invoke/MethodHandle" ∧ m_66.1.cls ≠ "java/lang/invoke/VarHandle" ∧ (parseMethodDescriptor m_66.1.desc).map (fun d => d.parameters.length) = some 3) := ⟨q_wg4 (i := 81) rfl rfl, w_10, by decide +kernel⟩
theorem s_67 : Cond.code m_67.1 m_67.2.1 m_67.2.2.1 m_67.2.2.2.1 ∈ q_gd ∧ Cond.initialized m_67.1.cls ∈ q_gd ∧ (m_67.1.cls ≠ "java/lang/invoke/MethodHandle" ∧ m_67.1.cls ≠ "java/lang/invoke/VarHandle" ∧ (parseMethodDescriptor m_67.1.desc).map (fun d => d.parameters.length) = some 1) := ⟨q_wg5 (i := 110) rfl rfl, w_17, by decide +kernel⟩
theorem s_68 : Cond.code m_68.1 m_68.2.1 m_68.2.2.1 m_68.2.2.2.1 ∈ q_gd ∧ Cond.initialized m_68.1.cls ∈ q_gd ∧ (m_68.1.cls ≠ "java/lang/invoke/MethodHandle" ∧ m_68.1.cls ≠ "java/lang/invoke/VarHandle" ∧ (parseMethodDescriptor m_68.1.desc).map (fun d => d.parameters.length) = some 1) := ⟨q_wg3 (i := 168) rfl rfl, w_1, by decide +kernel⟩
theorem s_69 : Cond.code m_69.1 m_69.2.1 m_69.2.2.1 m_69.2.2.2.1 ∈ q_gd ∧ Cond.initialized m_69.1.cls ∈ q_gd ∧ (m_69.1.cls ≠ "java/lang/invoke/MethodHandle" ∧ m_69.1.cls ≠ "java/lang/invoke/VarHandle" ∧ (parseMethodDescriptor m_69.1.desc).map (fun d => d.parameters.length) = some 3) := ⟨q_wg3 (i := 172) rfl rfl, w_4, by decide +kernel⟩
theorem s_70 : Cond.code m_70.1 m_70.2.1 m_70.2.2.1 m_70.2.2.2.1 ∈ q_gd ∧ Cond.initialized m_70.1.cls ∈ q_gd ∧ (m_70.1.cls ≠ "java/lang/invoke/MethodHandle" ∧ m_70.1.cls ≠ "java/lang/invoke/VarHandle" ∧ (parseMethodDescriptor m_70.1.desc).map (fun d => d.parameters.length) = some 0) := ⟨q_wg4 (i := 110) rfl rfl, w_10, by decide +kernel⟩
theorem s_71 : Cond.code m_71.1 m_71.2.1 m_71.2.2.1 m_71.2.2.2.1 ∈ q_gd ∧ Cond.initialized m_71.1.cls ∈ q_gd ∧ (m_71.1.cls ≠ "java/lang/invoke/MethodHandle" ∧ m_71.1.cls ≠ "java/lang/invoke/VarHandle" ∧ (parseMethodDescriptor m_71.1.desc).map (fun d => d.parameters.length) = some 1) := ⟨q_wg2 (i := 220) rfl rfl, w_4, by decide +kernel⟩
theorem s_72 : Cond.code m_72.1 m_72.2.1 m_72.2.2.1 m_72.2.2.2.1 ∈ q_gd ∧ Cond.initialized m_72.1.cls ∈ q_gd ∧ (m_72.1.cls ≠ "java/lang/invoke/MethodHandle" ∧ m_72.1.cls ≠ "java/lang/invoke/VarHandle" ∧ (parseMethodDescriptor m_72.1.desc).map (fun d => d.parameters.length) = some 3) := ⟨q_wg3 (i := 17) rfl rfl, w_7, by decide +kernel⟩
theorem s_73 : Cond.code m_73.1 m_73.2.1 m_73.2.2.1 m_73.2.2.2.1 ∈ q_gd ∧ Cond.initialized m_73.1.cls ∈ q_gd ∧ (m_73.1.cls ≠ "java/lang/invoke/MethodHandle" ∧ m_73.1.cls ≠ "java/lang/invoke/VarHandle" ∧ (parseMethodDescriptor m_73.1.desc).map (fun d => d.parameters.length) = some 2) := ⟨q_wg3 (i := 26) rfl rfl, w_7, by decide +kernel⟩
theorem s_74 : Cond.code m_74.1 m_74.2.1 m_74.2.2.1 m_74.2.2.2.1 ∈ q_gd ∧ Cond.initialized m_74.1.cls ∈ q_gd ∧ (m_74.1.cls ≠ "java/lang/invoke/MethodHandle" ∧ m_74.1.cls ≠ "java/lang/invoke/VarHandle" ∧ (parseMethodDescriptor m_74.1.desc).map (fun d => d.parameters.length) = some 1) := ⟨q_wg3 (i := 36) rfl rfl, w_7, by decide +kernel⟩
theorem s_75 : Cond.code m_75.1 m_75.2.1 m_75.2.2.1 m_75.2.2.2.1 ∈ q_gd ∧ Cond.initialized m_75.1.cls ∈ q_gd ∧ (m_75.1.cls ≠ "java/lang/invoke/MethodHandle" ∧ m_75.1.cls ≠ "java/lang/invoke/VarHandle" ∧ (parseMethodDescriptor m_75.1.desc).map (fun d => d.parameters.length) = some 1) := ⟨q_wg3 (i := 71) rfl rfl, w_5, by decide +kernel⟩
theorem s_76 : Cond.code m_76.1 m_76.2.1 m_76.2.2.1 m_76.2.2.2.1 ∈ q_gd ∧ Cond.initialized m_76.1.cls ∈ q_gd ∧ (m_76.1.cls ≠ "java/lang/invoke/MethodHandle" ∧ m_76.1.cls ≠ "java/lang/invoke/VarHandle" ∧ (parseMethodDescriptor m_76.1.desc).map (fun d => d.parameters.length) = some 1) := ⟨q_wg3 (i := 75) rfl rfl, w_5, by decide +kernel⟩
theorem s_77 : Cond.code m_77.1 m_77.2.1 m_77.2.2.1 m_77.2.2.2.1 ∈ q_gd ∧ Cond.initialized m_77.1.cls ∈ q_gd ∧ (m_77.1.cls ≠ "java/lang/invoke/MethodHandle" ∧ m_77.1.cls ≠ "java/lang/invoke/VarHandle" ∧ (parseMethodDescriptor m_77.1.desc).map (fun d => d.parameters.length) = some 2) := ⟨q_wg4 (i := 35) rfl rfl, w_4, by decide +kernel⟩
theorem s_78 : Cond.code m_78.1 m_78.2.1 m_78.2.2.1 m_78.2.2.2.1 ∈ q_gd ∧ Cond.initialized m_78.1.cls ∈ q_gd ∧ (m_78.1.cls ≠ "java/lang/invoke/MethodHandle" ∧ m_78.1.cls ≠ "java/lang/invoke/VarHandle" ∧ (parseMethodDescriptor m_78.1.desc).map (fun d => d.parameters.length) = some 1) := ⟨q_wg4 (i := 40) rfl rfl, w_4, by decide +kernel⟩
theorem s_79 : Cond.code m_79.1 m_79.2.1 m_79.2.2.1 m_79.2.2.2.1 ∈ q_gd ∧ Cond.initialized m_79.1.cls ∈ q_gd ∧ (m_79.1.cls ≠ "java/lang/invoke/MethodHandle" ∧ m_79.1.cls ≠ "java/lang/invoke/VarHandle" ∧ (parseMethodDescriptor m_79.1.desc).map (fun d => d.parameters.length) = some 2) := ⟨q_wg4 (i := 114) rfl rfl, w_10, by decide +kernel⟩
theorem s_80 : Cond.code m_80.1 m_80.2.1 m_80.2.2.1 m_80.2.2.2.1 ∈ q_gd ∧ Cond.initialized m_80.1.cls ∈ q_gd ∧ (m_80.1.cls ≠ "java/lang/invoke/MethodHandle" ∧ m_80.1.cls ≠ "java/lang/invoke/VarHandle" ∧ (parseMethodDescriptor m_80.1.desc).map (fun d => d.parameters.length) = some 2) := ⟨q_wg5 (i := 126) rfl rfl, w_17, by decide +kernel⟩
theorem s_81 : Cond.code m_81.1 m_81.2.1 m_81.2.2.1 m_81.2.2.2.1 ∈ q_gd ∧ Cond.initialized m_81.1.cls ∈ q_gd ∧ (m_81.1.cls ≠ "java/lang/invoke/MethodHandle" ∧ m_81.1.cls ≠ "java/lang/invoke/VarHandle" ∧ (parseMethodDescriptor m_81.1.desc).map (fun d => d.parameters.length) = some 1) := ⟨q_wg5 (i := 130) rfl rfl, w_17, by decide +kernel⟩
theorem s_82 : Cond.code m_82.1 m_82.2.1 m_82.2.2.1 m_82.2.2.2.1 ∈ q_gd ∧ Cond.initialized m_82.1.cls ∈ q_gd ∧ (m_82.1.cls ≠ "java/lang/invoke/MethodHandle" ∧ m_82.1.cls ≠ "java/lang/invoke/VarHandle" ∧ (parseMethodDescriptor m_82.1.desc).map (fun d => d.parameters.length) = some 1) := ⟨q_wg5 (i := 143) rfl rfl, w_17, by decide +kernel⟩
theorem s_83 : Cond.code m_83.1 m_83.2.1 m_83.2.2.1 m_83.2.2.2.1 ∈ q_gd ∧ Cond.initialized m_83.1.cls ∈ q_gd ∧ (m_83.1.cls ≠ "java/lang/invoke/MethodHandle" ∧ m_83.1.cls ≠ "java/lang/invoke/VarHandle" ∧ (parseMethodDescriptor m_83.1.desc).map (fun d => d.parameters.length) = some 0) := ⟨q_wg2 (i := 228) rfl rfl, w_1, by decide +kernel⟩
theorem s_84 : Cond.code m_84.1 m_84.2.1 m_84.2.2.1 m_84.2.2.2.1 ∈ q_gd ∧ Cond.initialized m_84.1.cls ∈ q_gd ∧ (m_84.1.cls ≠ "java/lang/invoke/MethodHandle" ∧ m_84.1.cls ≠ "java/lang/invoke/VarHandle" ∧ (parseMethodDescriptor m_84.1.desc).map (fun d => d.parameters.length) = some 4) := ⟨q_wg3 (i := 138) rfl rfl, w_9, by decide +kernel⟩
theorem s_85 : Cond.code m_85.1 m_85.2.1 m_85.2.2.1 m_85.2.2.2.1 ∈ q_gd ∧ Cond.initialized m_85.1.cls ∈ q_gd ∧ (m_85.1.cls ≠ "java/lang/invoke/MethodHandle" ∧ m_85.1.cls ≠ "java/lang/invoke/VarHandle" ∧ (parseMethodDescriptor m_85.1.desc).map (fun d => d.parameters.length) = some 2) := ⟨q_wg3 (i := 156) rfl rfl, w_7, by decide +kernel⟩
theorem s_86 : Cond.code m_86.1 m_86.2.1 m_86.2.2.1 m_86.2.2.2.1 ∈ q_gd ∧ Cond.initialized m_86.1.cls ∈ q_gd ∧ (m_86.1.cls ≠ "java/lang/invoke/MethodHandle" ∧ m_86.1.cls ≠ "java/lang/invoke/VarHandle" ∧ (parseMethodDescriptor m_86.1.desc).map (fun d => d.parameters.length) = some 5) := ⟨q_wg3 (i := 181) rfl rfl, w_9, by decide +kernel⟩
theorem s_87 : Cond.code m_87.1 m_87.2.1 m_87.2.2.1 m_87.2.2.2.1 ∈ q_gd ∧ Cond.initialized m_87.1.cls ∈ q_gd ∧ (m_87.1.cls ≠ "java/lang/invoke/MethodHandle" ∧ m_87.1.cls ≠ "java/lang/invoke/VarHandle" ∧ (parseMethodDescriptor m_87.1.desc).map (fun d => d.parameters.length) = some 2) := ⟨q_wg4 (i := 106) rfl rfl, w_10, by decide +kernel⟩
theorem s_88 : Cond.code m_88.1 m_88.2.1 m_88.2.2.1 m_88.2.2.2.1 ∈ q_gd ∧ Cond.initialized m_88.1.cls ∈ q_gd ∧ (m_88.1.cls ≠ "java/lang/invoke/MethodHandle" ∧ m_88.1.cls ≠ "java/lang/invoke/VarHandle" ∧ (parseMethodDescriptor m_88.1.desc).map (fun d => d.parameters.length) = some 0) := ⟨q_wg5 (i := 159) rfl rfl, w_17, by decide +kernel⟩
theorem s_89 : Cond.code m_89.1 m_89.2.1 m_89.2.2.1 m_89.2.2.2.1 ∈ q_gd ∧ Cond.initialized m_89.1.cls ∈ q_gd ∧ (m_89.1.cls ≠ "java/lang/invoke/MethodHandle" ∧ m_89.1.cls ≠ "java/lang/invoke/VarHandle" ∧ (parseMethodDescriptor m_89.1.desc).map (fun d => d.parameters.length) = some 0) := ⟨q_wg3 (i := 82) rfl rfl, w_1, by decide +kernel⟩
theorem s_90 : Cond.code m_90.1 m_90.2.1 m_90.2.2.1 m_90.2.2.2.1 ∈ q_gd ∧ Cond.initialized m_90.1.cls ∈ q_gd ∧ (m_90.1.cls ≠ "java/lang/invoke/MethodHandle" ∧ m_90.1.cls ≠ "java/lang/invoke/VarHandle" ∧ (parseMethodDescriptor m_90.1.desc).map (fun d => d.parameters.length) = some 1) := ⟨q_wg3 (i := 145) rfl rfl, w_7, by decide +kernel⟩
theorem s_91 : Cond.code m_91.1 m_91.2.1 m_91.2.2.1 m_91.2.2.2.1 ∈ q_gd ∧ Cond.initialized m_91.1.cls ∈ q_gd ∧ (m_91.1.cls ≠ "java/lang/invoke/MethodHandle" ∧ m_91.1.cls ≠ "java/lang/invoke/VarHandle" ∧ (parseMethodDescriptor m_91.1.desc).map (fun d => d.parameters.length) = some 1) := ⟨q_wg3 (i := 187) rfl rfl, w_7, by decide +kernel⟩
theorem s_92 : Cond.code m_92.1 m_92.2.1 m_92.2.2.1 m_92.2.2.2.1 ∈ q_gd ∧ Cond.initialized m_92.1.cls ∈ q_gd ∧ (m_92.1.cls ≠ "java/lang/invoke/MethodHandle" ∧ m_92.1.cls ≠ "java/lang/invoke/VarHandle" ∧ (parseMethodDescriptor m_92.1.desc).map (fun d => d.parameters.length) = some 2) := ⟨q_wg5 (i := 122) rfl rfl, w_17, by decide +kernel⟩
theorem s_93 : Cond.code m_93.1 m_93.2.1 m_93.2.2.1 m_93.2.2.2.1 ∈ q_gd ∧ Cond.initialized m_93.1.cls ∈ q_gd ∧ (m_93.1.cls ≠ "java/lang/invoke/MethodHandle" ∧ m_93.1.cls ≠ "java/lang/invoke/VarHandle" ∧ (parseMethodDescriptor m_93.1.desc).map (fun d => d.parameters.length) = some 2) := ⟨q_wg5 (i := 171) rfl rfl, w_17, by decide +kernel⟩
theorem s_94 : Cond.code m_94.1 m_94.2.1 m_94.2.2.1 m_94.2.2.2.1 ∈ q_gd ∧ Cond.initialized m_94.1.cls ∈ q_gd ∧ (m_94.1.cls ≠ "java/lang/invoke/MethodHandle" ∧ m_94.1.cls ≠ "java/lang/invoke/VarHandle" ∧ (parseMethodDescriptor m_94.1.desc).map (fun d => d.parameters.length) = some 2) := ⟨q_wg5 (i := 201) rfl rfl, w_17, by decide +kernel⟩
theorem s_95 : Cond.code m_95.1 m_95.2.1 m_95.2.2.1 m_95.2.2.2.1 ∈ q_gd ∧ Cond.initialized m_95.1.cls ∈ q_gd ∧ (m_95.1.cls ≠ "java/lang/invoke/MethodHandle" ∧ m_95.1.cls ≠ "java/lang/invoke/VarHandle" ∧ (parseMethodDescriptor m_95.1.desc).map (fun d => d.parameters.length) = some 3) := ⟨q_wg5 (i := 205) rfl rfl, w_17, by decide +kernel⟩
theorem s_96 : Cond.code m_96.1 m_96.2.1 m_96.2.2.1 m_96.2.2.2.1 ∈ q_gd ∧ Cond.initialized m_96.1.cls ∈ q_gd ∧ (m_96.1.cls ≠ "java/lang/invoke/MethodHandle" ∧ m_96.1.cls ≠ "java/lang/invoke/VarHandle" ∧ (parseMethodDescriptor m_96.1.desc).map (fun d => d.parameters.length) = some 3) := ⟨q_wg5 (i := 217) rfl rfl, w_17, by decide +kernel⟩
theorem s_97 : Cond.code m_97.1 m_97.2.1 m_97.2.2.1 m_97.2.2.2.1 ∈ q_gd ∧ Cond.initialized m_97.1.cls ∈ q_gd ∧ (m_97.1.cls ≠ "java/lang/invoke/MethodHandle" ∧ m_97.1.cls ≠ "java/lang/invoke/VarHandle" ∧ (parseMethodDescriptor m_97.1.desc).map (fun d => d.parameters.length) = some 0) := ⟨q_wg2 (i := 204) rfl rfl, w_2, by decide +kernel⟩
theorem s_98 : Cond.code m_98.1 m_98.2.1 m_98.2.2.1 m_98.2.2.2.1 ∈ q_gd ∧ Cond.initialized m_98.1.cls ∈ q_gd ∧ (m_98.1.cls ≠ "java/lang/invoke/MethodHandle" ∧ m_98.1.cls ≠ "java/lang/invoke/VarHandle" ∧ (parseMethodDescriptor m_98.1.desc).map (fun d => d.parameters.length) = some 2) := ⟨q_wg4 (i := 0) rfl rfl, w_1, by decide +kernel⟩
theorem s_99 : Cond.code m_99.1 m_99.2.1 m_99.2.2.1 m_99.2.2.2.1 ∈ q_gd ∧ Cond.initialized m_99.1.cls ∈ q_gd ∧ (m_99.1.cls ≠ "java/lang/invoke/MethodHandle" ∧ m_99.1.cls ≠ "java/lang/invoke/VarHandle" ∧ (parseMethodDescriptor m_99.1.desc).map (fun d => d.parameters.length) = some 0) := ⟨q_wg5 (i := 64) rfl rfl, w_17, by decide +kernel⟩
theorem s_100 : Cond.code m_100.1 m_100.2.1 m_100.2.2.1 m_100.2.2.2.1 ∈ q_gd ∧ Cond.initialized m_100.1.cls ∈ q_gd ∧ (m_100.1.cls ≠ "java/lang/invoke/MethodHandle" ∧ m_100.1.cls ≠ "java/lang/invoke/VarHandle" ∧ (parseMethodDescriptor m_100.1.desc).map (fun d => d.parameters.length) = some 2) := ⟨q_wg2 (i := 106) rfl rfl, w_4, by decide +kernel⟩
theorem s_101 : Cond.code m_101.1 m_101.2.1 m_101.2.2.1 m_101.2.2.2.1 ∈ q_gd ∧ Cond.initialized m_101.1.cls ∈ q_gd ∧ (m_101.1.cls ≠ "java/lang/invoke/MethodHandle" ∧ m_101.1.cls ≠ "java/lang/invoke/VarHandle" ∧ (parseMethodDescriptor m_101.1.desc).map (fun d => d.parameters.length) = some 1) := ⟨q_wg3 (i := 67) rfl rfl, w_2, by decide +kernel⟩
theorem s_102 : Cond.code m_102.1 m_102.2.1 m_102.2.2.1 m_102.2.2.2.1 ∈ q_gd ∧ Cond.initialized m_102.1.cls ∈ q_gd ∧ (m_102.1.cls ≠ "java/lang/invoke/MethodHandle" ∧ m_102.1.cls ≠ "java/lang/invoke/VarHandle" ∧ (parseMethodDescriptor m_102.1.desc).map (fun d => d.parameters.length) = some 1) := ⟨q_wg3 (i := 91) rfl rfl, w_4, by decide +kernel⟩
theorem s_103 : Cond.code m_103.1 m_103.2.1 m_103.2.2.1 m_103.2.2.2.1 ∈ q_gd ∧ Cond.initialized m_103.1.cls ∈ q_gd ∧ (m_103.1.cls ≠ "java/lang/invoke/MethodHandle" ∧ m_103.1.cls ≠ "java/lang/invoke/VarHandle" ∧ (parseMethodDescriptor m_103.1.desc).map (fun d => d.parameters.length) = some 3) := ⟨q_wg3 (i := 100) rfl rfl, w_4, by decide +kernel⟩
theorem s_104 : Cond.code m_104.1 m_104.2.1 m_104.2.2.1 m_104.2.2.2.1 ∈ q_gd ∧ Cond.initialized m_104.1.cls ∈ q_gd ∧ (m_104.1.cls ≠ "java/lang/invoke/MethodHandle" ∧ m_104.1.cls ≠ "java/lang/invoke/VarHandle" ∧ (parseMethodDescriptor m_104.1.desc).map (fun d => d.parameters.length) = some 1) := ⟨q_wg3 (i := 148) rfl rfl, w_8, by decide +kernel⟩
theorem s_105 : Cond.code m_105.1 m_105.2.1 m_105.2.2.1 m_105.2.2.2.1 ∈ q_gd ∧ Cond.initialized m_105.1.cls ∈ q_gd ∧ (m_105.1.cls ≠ "java/lang/invoke/MethodHandle" ∧ m_105.1.cls ≠ "java/lang/invoke/VarHandle" ∧ (parseMethodDescriptor m_105.1.desc).map (fun d => d.parameters.length) = some 3) := ⟨q_wg3 (i := 152) rfl rfl, w_8, by decide +kernel⟩
theorem s_106 : Cond.code m_106.1 m_106.2.1 m_106.2.2.1 m_106.2.2.2.1 ∈ q_gd ∧ Cond.initialized m_106.1.cls ∈ q_gd ∧ (m_106.1.cls ≠ "java/lang/invoke/MethodHandle" ∧ m_106.1.cls ≠ "java/lang/invoke/VarHandle" ∧ (parseMethodDescriptor m_106.1.desc).map (fun d => d.parameters.length) = some 2) := ⟨q_wg4 (i := 22) rfl rfl, w_8, by decide +kernel⟩
theorem s_107 : Cond.code m_107.1 m_107.2.1 m_107.2.2.1 m_107.2.2.2.1 ∈ q_gd ∧ Cond.initialized m_107.1.cls ∈ q_gd ∧ (m_107.1.cls ≠ "java/lang/invoke/MethodHandle" ∧ m_107.1.cls ≠ "java/lang/invoke/VarHandle" ∧ (parseMethodDescriptor m_107.1.desc).map (fun d => d.parameters.length) = some 1) := ⟨q_wg4 (i := 48) rfl rfl, w_9, by decide +kernel⟩
theorem s_108 : Cond.code m_108.1 m_108.2.1 m_108.2.2.1 m_108.2.2.2.1 ∈ q_gd ∧ Cond.initialized m_108.1.cls ∈ q_gd ∧ (m_108.1.cls ≠ "java/lang/invoke/MethodHandle" ∧ m_108.1.cls ≠ "java/lang/invoke/VarHandle" ∧ (parseMethodDescriptor m_108.1.desc).map (fun d => d.parameters.length) = some 1) := ⟨q_wg4 (i := 56) rfl rfl, w_1, by decide +kernel⟩
theorem s_109 : Cond.code m_109.1 m_109.2.1 m_109.2.2.1 m_109.2.2.2.1 ∈ q_gd ∧ Cond.initialized m_109.1.cls ∈ q_gd ∧ (m_109.1.cls ≠ "java/lang/invoke/MethodHandle" ∧ m_109.1.cls ≠ "java/lang/invoke/VarHandle" ∧ (parseMethodDescriptor m_109.1.desc).map (fun d => d.parameters.length) = some 1) := ⟨q_wg4 (i := 60) rfl rfl, w_10, by decide +kernel⟩
theorem s_110 : Cond.code m_110.1 m_110.2.1 m_110.2.2.1 m_110.2.2.2.1 ∈ q_gd ∧ Cond.initialized m_110.1.cls ∈ q_gd ∧ (m_110.1.cls ≠ "java/lang/invoke/MethodHandle" ∧ m_110.1.cls ≠ "java/lang/invoke/VarHandle" ∧ (parseMethodDescriptor m_110.1.desc).map (fun d => d.parameters.length) = some 1) := ⟨q_wg4 (i := 64) rfl rfl, w_10, by decide +kernel⟩
theorem s_111 : Cond.code m_111.1 m_111.2.1 m_111.2.2.1 m_111.2.2.2.1 ∈ q_gd ∧ Cond.initialized m_111.1.cls ∈ q_gd ∧ (m_111.1.cls ≠ "java/lang/invoke/MethodHandle" ∧ m_111.1.cls ≠ "java/lang/invoke/VarHandle" ∧ (parseMethodDescriptor m_111.1.desc).map (fun d => d.parameters.length) = some 1) := ⟨q_wg5 (i := 72) rfl rfl, w_17, by decide +kernel⟩
theorem s_112 : Cond.code m_112.1 m_112.2.1 m_112.2.2.1 m_112.2.2.2.1 ∈ q_gd ∧ Cond.initialized m_112.1.cls ∈ q_gd ∧ (m_112.1.cls ≠ "java/lang/invoke/MethodHandle" ∧ m_112.1.cls ≠ "java/lang/invoke/VarHandle" ∧ (parseMethodDescriptor m_112.1.desc).map (fun d => d.parameters.length) = some 2) := ⟨q_wg5 (i := 80) rfl rfl, w_17, by decide +kernel⟩
theorem s_113 : Cond.code m_113.1 m_113.2.1 m_113.2.2.1 m_113.2.2.2.1 ∈ q_gd ∧ Cond.initialized m_113.1.cls ∈ q_gd ∧ (m_113.1.cls ≠ "java/lang/invoke/MethodHandle" ∧ m_113.1.cls ≠ "java/lang/invoke/VarHandle" ∧ (parseMethodDescriptor m_113.1.desc).map (fun d => d.parameters.length) = some 0) := ⟨q_wg5 (i := 99) rfl rfl, w_17, by decide +kernel⟩
theorem s_114 : Cond.code m_114.1 m_114.2.1 m_114.2.2.1 m_114.2.2.2.1 ∈ q_gd ∧ Cond.initialized m_114.1.cls ∈ q_gd ∧ (m_114.1.cls ≠ "java/lang/invoke/MethodHandle" ∧ m_114.1.cls ≠ "java/lang/invoke/VarHandle" ∧ (parseMethodDescriptor m_114.1.desc).map (fun d => d.parameters.length) = some 3) := ⟨q_wg5 (i := 134) rfl rfl, w_17, by decide +kernel⟩
theorem s_115 : Cond.code m_115.1 m_115.2.1 m_115.2.2.1 m_115.2.2.2.1 ∈ q_gd ∧ Cond.initialized m_115.1.cls ∈ q_gd ∧ (m_115.1.cls ≠ "java/lang/invoke/MethodHandle" ∧ m_115.1.cls ≠ "java/lang/invoke/VarHandle" ∧ (parseMethodDescriptor m_115.1.desc).map (fun d => d.parameters.length) = some 1) := ⟨q_wg5 (i := 163) rfl rfl, w_17, by decide +kernel⟩
theorem s_116 : Cond.code m_116.1 m_116.2.1 m_116.2.2.1 m_116.2.2.2.1 ∈ q_gd ∧ Cond.initialized m_116.1.cls ∈ q_gd ∧ (m_116.1.cls ≠ "java/lang/invoke/MethodHandle" ∧ m_116.1.cls ≠ "java/lang/invoke/VarHandle" ∧ (parseMethodDescriptor m_116.1.desc).map (fun d => d.parameters.length) = some 0) := ⟨q_wg5 (i := 229) rfl rfl, w_17, by decide +kernel⟩
theorem s_117 : Cond.code m_117.1 m_117.2.1 m_117.2.2.1 m_117.2.2.2.1 ∈ q_gd ∧ Cond.initialized m_117.1.cls ∈ q_gd ∧ (m_117.1.cls ≠ "java/lang/invoke/MethodHandle" ∧ m_117.1.cls ≠ "java/lang/invoke/VarHandle" ∧ (parseMethodDescriptor m_117.1.desc).map (fun d => d.parameters.length) = some 2) := ⟨q_wg5 (i := 233) rfl rfl, w_17, by decide +kernel⟩
theorem s_118 : Cond.code m_118.1 m_118.2.1 m_118.2.2.1 m_118.2.2.2.1 ∈ q_gd ∧ Cond.initialized m_118.1.cls ∈ q_gd ∧ (m_118.1.cls ≠ "java/lang/invoke/MethodHandle" ∧ m_118.1.cls ≠ "java/lang/invoke/VarHandle" ∧ (parseMethodDescriptor m_118.1.desc).map (fun d => d.parameters.length) = some 1) := ⟨q_wg6 (i := 21) rfl rfl, w_17, by decide +kernel⟩
theorem s_119 : Cond.code m_119.1 m_119.2.1 m_119.2.2.1 m_119.2.2.2.1 ∈ q_gd ∧ Cond.initialized m_119.1.cls ∈ q_gd ∧ (m_119.1.cls ≠ "java/lang/invoke/MethodHandle" ∧ m_119.1.cls ≠ "java/lang/invoke/VarHandle" ∧ (parseMethodDescriptor m_119.1.desc).map (fun d => d.parameters.length) = some 0) := ⟨q_wg1 (i := 22) rfl rfl, w_1, by decide +kernel⟩
theorem s_120 : Cond.code m_120.1 m_120.2.1 m_120.2.2.1 m_120.2.2.2.1 ∈ q_gd ∧ Cond.initialized m_120.1.cls ∈ q_gd ∧ (m_120.1.cls ≠ "java/lang/invoke/MethodHandle" ∧ m_120.1.cls ≠ "java/lang/invoke/VarHandle" ∧ (parseMethodDescriptor m_120.1.desc).map (fun d => d.parameters.length) = some 1) := ⟨q_wg2 (i := 102) rfl rfl, w_2, by decide +kernel⟩
theorem s_121 : Cond.code m_121.1 m_121.2.1 m_121.2.2.1 m_121.2.2.2.1 ∈ q_gd ∧ Cond.initialized m_121.1.cls ∈ q_gd ∧ (m_121.1.cls ≠ "java/lang/invoke/MethodHandle" ∧ m_121.1.cls ≠ "java/lang/invoke/VarHandle" ∧ (parseMethodDescriptor m_121.1.desc).map (fun d => d.parameters.length) = some 1) := ⟨q_wg2 (i := 200) rfl rfl, w_1, by decide +kernel⟩
theorem s_122 : Cond.code m_122.1 m_122.2.1 m_122.2.2.1 m_122.2.2.2.1 ∈ q_gd ∧ Cond.initialized m_122.1.cls ∈ q_gd ∧ (m_122.1.cls ≠ "java/lang/invoke/MethodHandle" ∧ m_122.1.cls ≠ "java/lang/invoke/VarHandle" ∧ (parseMethodDescriptor m_122.1.desc).map (fun d => d.parameters.length) = some 0) := ⟨q_wg2 (i := 208) rfl rfl, w_1, by decide +kernel⟩
theorem s_123 : Cond.code m_123.1 m_123.2.1 m_123.2.2.1 m_123.2.2.2.1 ∈ q_gd ∧ Cond.initialized m_123.1.cls ∈ q_gd ∧ (m_123.1.cls ≠ "java/lang/invoke/MethodHandle" ∧ m_123.1.cls ≠ "java/lang/invoke/VarHandle" ∧ (parseMethodDescriptor m_123.1.desc).map (fun d => d.parameters.length) = some 0) := ⟨q_wg2 (i := 212) rfl rfl, w_1, by decide +kernel⟩
theorem s_124 : Cond.code m_124.1 m_124.2.1 m_124.2.2.1 m_124.2.2.2.1 ∈ q_gd ∧ Cond.initialized m_124.1.cls ∈ q_gd ∧ (m_124.1.cls ≠ "java/lang/invoke/MethodHandle" ∧ m_124.1.cls ≠ "java/lang/invoke/VarHandle" ∧ (parseMethodDescriptor m_124.1.desc).map (fun d => d.parameters.length) = some 0) := ⟨q_wg2 (i := 216) rfl rfl, w_1, by decide +kernel⟩
theorem s_125 : Cond.code m_125.1 m_125.2.1 m_125.2.2.1 m_125.2.2.2.1 ∈ q_gd ∧ Cond.initialized m_125.1.cls ∈ q_gd ∧ (m_125.1.cls ≠ "java/lang/invoke/MethodHandle" ∧ m_125.1.cls ≠ "java/lang/invoke/VarHandle" ∧ (parseMethodDescriptor m_125.1.desc).map (fun d => d.parameters.length) = some 0) := ⟨q_wg2 (i := 224) rfl rfl, w_5, by decide +kernel⟩
theorem s_126 : Cond.code m_126.1 m_126.2.1 m_126.2.2.1 m_126.2.2.2.1 ∈ q_gd ∧ Cond.initialized m_126.1.cls ∈ q_gd ∧ (m_126.1.cls ≠ "java/lang/invoke/MethodHandle" ∧ m_126.1.cls ≠ "java/lang/invoke/VarHandle" ∧ (parseMethodDescriptor m_126.1.desc).map (fun d => d.parameters.length) = some 2) := ⟨q_wg2 (i := 236) rfl rfl, w_1, by decide +kernel⟩
theorem s_127 : Cond.code m_127.1 m_127.2.1 m_127.2.2.1 m_127.2.2.2.1 ∈ q_gd ∧ Cond.initialized m_127.1.cls ∈ q_gd ∧ (m_127.1.cls ≠ "java/lang/invoke/MethodHandle" ∧ m_127.1.cls ≠ "java/lang/invoke/VarHandle" ∧ (parseMethodDescriptor m_127.1.desc).map (fun d => d.parameters.length) = some 3) := ⟨q_wg3 (i := 13) rfl rfl, w_1, by decide +kernel⟩
theorem s_128 : Cond.code m_128.1 m_128.2.1 m_128.2.2.1 m_128.2.2.2.1 ∈ q_gd ∧ Cond.initialized m_128.1.cls ∈ q_gd ∧ (m_128.1.cls ≠ "java/lang/invoke/MethodHandle" ∧ m_128.1.cls ≠ "java/lang/invoke/VarHandle" ∧ (parseMethodDescriptor m_128.1.desc).map (fun d => d.parameters.length) = some 3) := ⟨q_wg3 (i := 40) rfl rfl, w_1, by decide +kernel⟩
theorem s_129 : Cond.code m_129.1 m_129.2.1 m_129.2.2.1 m_129.2.2.2.1 ∈ q_gd ∧ Cond.initialized m_129.1.cls ∈ q_gd ∧ (m_129.1.cls ≠ "java/lang/invoke/MethodHandle" ∧ m_129.1.cls ≠ "java/lang/invoke/VarHandle" ∧ (parseMethodDescriptor m_129.1.desc).map (fun d => d.parameters.length) = some 2) := ⟨q_wg3 (i := 46) rfl rfl, w_1, by decide +kernel⟩
theorem s_130 : Cond.code m_130.1 m_130.2.1 m_130.2.2.1 m_130.2.2.2.1 ∈ q_gd ∧ Cond.initialized m_130.1.cls ∈ q_gd ∧ (m_130.1.cls ≠ "java/lang/invoke/MethodHandle" ∧ m_130.1.cls ≠ "java/lang/invoke/VarHandle" ∧ (parseMethodDescriptor m_130.1.desc).map (fun d => d.parameters.length) = some 2) := ⟨q_wg3 (i := 55) rfl rfl, w_1, by decide +kernel⟩
theorem s_131 : Cond.code m_131.1 m_131.2.1 m_131.2.2.1 m_131.2.2.2.1 ∈ q_gd ∧ Cond.initialized m_131.1.cls ∈ q_gd ∧ (m_131.1.cls ≠ "java/lang/invoke/MethodHandle" ∧ m_131.1.cls ≠ "java/lang/invoke/VarHandle" ∧ (parseMethodDescriptor m_131.1.desc).map (fun d => d.parameters.length) = some 1) := ⟨q_wg3 (i := 63) rfl rfl, w_1, by decide +kernel⟩
theorem s_132 : Cond.code m_132.1 m_132.2.1 m_132.2.2.1 m_132.2.2.2.1 ∈ q_gd ∧ Cond.initialized m_132.1.cls ∈ q_gd ∧ (m_132.1.cls ≠ "java/lang/invoke/MethodHandle" ∧ m_132.1.cls ≠ "java/lang/invoke/VarHandle" ∧ (parseMethodDescriptor m_132.1.desc).map (fun d => d.parameters.length) = some 1) := ⟨q_wg3 (i := 87) rfl rfl, w_1, by decide +kernel⟩
theorem s_133 : Cond.code m_133.1 m_133.2.1 m_133.2.2.1 m_133.2.2.2.1 ∈ q_gd ∧ Cond.initialized m_133.1.cls ∈ q_gd ∧ (m_133.1.cls ≠ "java/lang/invoke/MethodHandle" ∧ m_133.1.cls ≠ "java/lang/invoke/VarHandle" ∧ (parseMethodDescriptor m_133.1.desc).map (fun d => d.parameters.length) = some 2) := ⟨q_wg3 (i := 96) rfl rfl, w_1, by decide +kernel⟩
theorem s_134 : Cond.code m_134.1 m_134.2.1 m_134.2.2.1 m_134.2.2.2.1 ∈ q_gd ∧ Cond.initialized m_134.1.cls ∈ q_gd ∧ (m_134.1.cls ≠ "java/lang/invoke/MethodHandle" ∧ m_134.1.cls ≠ "java/lang/invoke/VarHandle" ∧ (parseMethodDescriptor m_134.1.desc).map (fun d => d.parameters.length) = some 3) := ⟨q_wg3 (i := 107) rfl rfl, w_1, by decide +kernel⟩
theorem s_135 : Cond.code m_135.1 m_135.2.1 m_135.2.2.1 m_135.2.2.2.1 ∈ q_gd ∧ Cond.initialized m_135.1.cls ∈ q_gd ∧ (m_135.1.cls ≠ "java/lang/invoke/MethodHandle" ∧ m_135.1.cls ≠ "java/lang/invoke/VarHandle" ∧ (parseMethodDescriptor m_135.1.desc).map (fun d => d.parameters.length) = some 3) := ⟨q_wg3 (i := 111) rfl rfl, w_4, by decide +kernel⟩
theorem s_136 : Cond.code m_136.1 m_136.2.1 m_136.2.2.1 m_136.2.2.2.1 ∈ q_gd ∧ Cond.initialized m_136.1.cls ∈ q_gd ∧ (m_136.1.cls ≠ "java/lang/invoke/MethodHandle" ∧ m_136.1.cls ≠ "java/lang/invoke/VarHandle" ∧ (parseMethodDescriptor m_136.1.desc).map (fun d => d.parameters.length) = some 3) := ⟨q_wg3 (i := 115) rfl rfl, w_1, by decide +kernel⟩
theorem s_137 : Cond.code m_137.1 m_137.2.1 m_137.2.2.1 m_137.2.2.2.1 ∈ q_gd ∧ Cond.initialized m_137.1.cls ∈ q_gd ∧ (m_137.1.cls ≠ "java/lang/invoke/MethodHandle" ∧ m_137.1.cls ≠ "java/lang/invoke/VarHandle" ∧ (parseMethodDescriptor m_137.1.desc).map (fun d => d.parameters.length) = some 2) := ⟨q_wg3 (i := 120) rfl rfl, w_1, by decide +kernel⟩
theorem s_138 : Cond.code m_138.1 m_138.2.1 m_138.2.2.1 m_138.2.2.2.1 ∈ q_gd ∧ Cond.initialized m_138.1.cls ∈ q_gd ∧ (m_138.1.cls ≠ "java/lang/invoke/MethodHandle" ∧ m_138.1.cls ≠ "java/lang/invoke/VarHandle" ∧ (parseMethodDescriptor m_138.1.desc).map (fun d => d.parameters.length) = some 0) := ⟨q_wg3 (i := 126) rfl rfl, w_1, by decide +kernel⟩
theorem s_139 : Cond.code m_139.1 m_139.2.1 m_139.2.2.1 m_139.2.2.2.1 ∈ q_gd ∧ Cond.initialized m_139.1.cls ∈ q_gd ∧ (m_139.1.cls ≠ "java/lang/invoke/MethodHandle" ∧ m_139.1.cls ≠ "java/lang/invoke/VarHandle" ∧ (parseMethodDescriptor m_139.1.desc).map (fun d => d.parameters.length) = some 1) := ⟨q_wg3 (i := 130) rfl rfl, w_5, by decide +kernel⟩
theorem s_140 : Cond.code m_140.1 m_140.2.1 m_140.2.2.1 m_140.2.2.2.1 ∈ q_gd ∧ Cond.initialized m_140.1.cls ∈ q_gd ∧ (m_140.1.cls ≠ "java/lang/invoke/MethodHandle" ∧ m_140.1.cls ≠ "java/lang/invoke/VarHandle" ∧ (parseMethodDescriptor m_140.1.desc).map (fun d => d.parameters.length) = some 4) := ⟨q_wg3 (i := 134) rfl rfl, w_1, by decide +kernel⟩
theorem s_141 : Cond.code m_141.1 m_141.2.1 m_141.2.2.1 m_141.2.2.2.1 ∈ q_gd ∧ Cond.initialized m_141.1.cls ∈ q_gd ∧ (m_141.1.cls ≠ "java/lang/invoke/MethodHandle" ∧ m_141.1.cls ≠ "java/lang/invoke/VarHandle" ∧ (parseMethodDescriptor m_141.1.desc).map (fun d => d.parameters.length) = some 3) := ⟨q_wg3 (i := 165) rfl rfl, w_8, by decide +kernel⟩
theorem s_142 : Cond.code m_142.1 m_142.2.1 m_142.2.2.1 m_142.2.2.2.1 ∈ q_gd ∧ Cond.initialized m_142.1.cls ∈ q_gd ∧ (m_142.1.cls ≠ "java/lang/invoke/MethodHandle" ∧ m_142.1.cls ≠ "java/lang/invoke/VarHandle" ∧ (parseMethodDescriptor m_142.1.desc).map (fun d => d.parameters.length) = some 3) := ⟨q_wg3 (i := 177) rfl rfl, w_7, by decide +kernel⟩
theorem s_143 : Cond.code m_143.1 m_143.2.1 m_143.2.2.1 m_143.2.2.2.1 ∈ q_gd ∧ Cond.initialized m_143.1.cls ∈ q_gd ∧ (m_143.1.cls ≠ "java/lang/invoke/MethodHandle" ∧ m_143.1.cls ≠ "java/lang/invoke/VarHandle" ∧ (parseMethodDescriptor m_143.1.desc).map (fun d => d.parameters.length) = some 1) := ⟨q_wg3 (i := 190) rfl rfl, w_8, by decide +kernel⟩
theorem s_144 : Cond.code m_144.1 m_144.2.1 m_144.2.2.1 m_144.2.2.2.1 ∈ q_gd ∧ Cond.initialized m_144.1.cls ∈ q_gd ∧ (m_144.1.cls ≠ "java/lang/invoke/MethodHandle" ∧ m_144.1.cls ≠ "java/lang/invoke/VarHandle" ∧ (parseMethodDescriptor m_144.1.desc).map (fun d => d.parameters.length) = some 2) := ⟨q_wg3 (i := 198) rfl rfl, w_8, by decide +kernel⟩
theorem s_145 : Cond.code m_145.1 m_145.2.1 m_145.2.2.1 m_145.2.2.2.1 ∈ q_gd ∧ Cond.initialized m_145.1.cls ∈ q_gd ∧ (m_145.1.cls ≠ "java/lang/invoke/MethodHandle" ∧ m_145.1.cls ≠ "java/lang/invoke/VarHandle" ∧ (parseMethodDescriptor m_145.1.desc).map (fun d => d.parameters.length) = some 1) := ⟨q_wg3 (i := 201) rfl rfl, w_8, by decide +kernel⟩
theorem s_146 : Cond.code m_146.1 m_146.2.1 m_146.2.2.1 m_146.2.2.2.1 ∈ q_gd ∧ Cond.initialized m_146.1.cls ∈ q_gd ∧ (m_146.1.cls ≠ "java/lang/invoke/MethodHandle" ∧ m_146.1.cls ≠ "java/lang/invoke/VarHandle" ∧ (parseMethodDescriptor m_146.1.desc).map (fun d => d.parameters.length) = some 1) := ⟨q_wg3 (i := 204) rfl rfl, w_8, by decide +kernel⟩
theorem s_147 : Cond.code m_147.1 m_147.2.1 m_147.2.2.1 m_147.2.2.2.1 ∈ q_gd ∧ Cond.initialized m_147.1.cls ∈ q_gd ∧ (m_147.1.cls ≠ "java/lang/invoke/MethodHandle" ∧ m_147.1.cls ≠ "java/lang/invoke/VarHandle" ∧ (parseMethodDescriptor m_147.1.desc).map (fun d => d.parameters.length) = some 1) := ⟨q_wg3 (i := 211) rfl rfl, w_8, by decide +kernel⟩
theorem s_148 : Cond.code m_148.1 m_148.2.1 m_148.2.2.1 m_148.2.2.2.1 ∈ q_gd ∧ Cond.initialized m_148.1.cls ∈ q_gd ∧ (m_148.1.cls ≠ "java/lang/invoke/MethodHandle" ∧ m_148.1.cls ≠ "java/lang/invoke/VarHandle" ∧ (parseMethodDescriptor m_148.1.desc).map (fun d => d.parameters.length) = some 3) := ⟨q_wg3 (i := 217) rfl rfl, w_9, by decide +kernel⟩
theorem s_149 : Cond.code m_149.1 m_149.2.1 m_149.2.2.1 m_149.2.2.2.1 ∈ q_gd ∧ Cond.initialized m_149.1.cls ∈ q_gd ∧ (m_149.1.cls ≠ "java/lang/invoke/MethodHandle" ∧ m_149.1.cls ≠ "java/lang/invoke/VarHandle" ∧ (parseMethodDescriptor m_149.1.desc).map (fun d => d.parameters.length) = some 1) := ⟨q_wg3 (i := 222) rfl rfl, w_9, by decide +kernel⟩
theorem s_150 : Cond.code m_150.1 m_150.2.1 m_150.2.2.1 m_150.2.2.2.1 ∈ q_gd ∧ Cond.initialized m_150.1.cls ∈ q_gd ∧ (m_150.1.cls ≠ "java/lang/invoke/MethodHandle" ∧ m_150.1.cls ≠ "java/lang/invoke/VarHandle" ∧ (parseMethodDescriptor m_150.1.desc).map (fun d => d.parameters.length) = some 3) := ⟨q_wg3 (i := 231) rfl rfl, w_8, by decide +kernel⟩
theorem s_151 : Cond.code m_151.1 m_151.2.1 m_151.2.2.1 m_151.2.2.2.1 ∈ q_gd ∧ Cond.initialized m_151.1.cls ∈ q_gd ∧ (m_151.1.cls ≠ "java/lang/invoke/MethodHandle" ∧ m_151.1.cls ≠ "java/lang/invoke/VarHandle" ∧ (parseMethodDescriptor m_151.1.desc).map (fun d => d.parameters.length) = some 3) := ⟨q_wg3 (i := 234) rfl rfl, w_8, by decide +kernel⟩
theorem s_152 : Cond.code m_152.1 m_152.2.1 m_152.2.2.1 m_152.2.2.2.1 ∈ q_gd ∧ Cond.initialized m_152.1.cls ∈ q_gd ∧ (m_152.1.cls ≠ "java/lang/invoke/MethodHandle" ∧ m_152.1.cls ≠ "java/lang/invoke/VarHandle" ∧ (parseMethodDescriptor m_152.1.desc).map (fun d => d.parameters.length) = some 1) := ⟨q_wg4 (i := 4) rfl rfl, w_9, by decide +kernel⟩
theorem s_153 : Cond.code m_153.1 m_153.2.1 m_153.2.2.1 m_153.2.2.2.1 ∈ q_gd ∧ Cond.initialized m_153.1.cls ∈ q_gd ∧ (m_153.1.cls ≠ "java/lang/invoke/MethodHandle" ∧ m_153.1.cls ≠ "java/lang/invoke/VarHandle" ∧ (parseMethodDescriptor m_153.1.desc).map (fun d => d.parameters.length) = some 2) := ⟨q_wg4 (i := 8) rfl rfl, w_1, by decide +kernel⟩
theorem s_154 : Cond.code m_154.1 m_154.2.1 m_154.2.2.1 m_154.2.2.2.1 ∈ q_gd ∧ Cond.initialized m_154.1.cls ∈ q_gd ∧ (m_154.1.cls ≠ "java/lang/invoke/MethodHandle" ∧ m_154.1.cls ≠ "java/lang/invoke/VarHandle" ∧ (parseMethodDescriptor m_154.1.desc).map (fun d => d.parameters.length) = some 3) := ⟨q_wg4 (i := 12) rfl rfl, w_7, by decide +kernel⟩
theorem s_155 : Cond.code m_155.1 m_155.2.1 m_155.2.2.1 m_155.2.2.2.1 ∈ q_gd ∧ Cond.initialized m_155.1.cls ∈ q_gd ∧ (m_155.1.cls ≠ "java/lang/invoke/MethodHandle" ∧ m_155.1.cls ≠ "java/lang/invoke/VarHandle" ∧ (parseMethodDescriptor m_155.1.desc).map (fun d => d.parameters.length) = some 2) := ⟨q_wg4 (i := 18) rfl rfl, w_1, by decide +kernel⟩
theorem s_156 : Cond.code m_156.1 m_156.2.1 m_156.2.2.1 m_156.2.2.2.1 ∈ q_gd ∧ Cond.initialized m_156.1.cls ∈ q_gd ∧ (m_156.1.cls ≠ "java/lang/invoke/MethodHandle" ∧ m_156.1.cls ≠ "java/lang/invoke/VarHandle" ∧ (parseMethodDescriptor m_156.1.desc).map (fun d => d.parameters.length) = some 2) := ⟨q_wg4 (i := 27) rfl rfl, w_1, by decide +kernel⟩
theorem s_157 : Cond.code m_157.1 m_157.2.1 m_157.2.2.1 m_157.2.2.2.1 ∈ q_gd ∧ Cond.initialized m_157.1.cls ∈ q_gd ∧ (m_157.1.cls ≠ "java/lang/invoke/MethodHandle" ∧ m_157.1.cls ≠ "java/lang/invoke/VarHandle" ∧ (parseMethodDescriptor m_157.1.desc).map (fun d => d.parameters.length) = some 1) := ⟨q_wg4 (i := 31) rfl rfl, w_4, by decide +kernel⟩
theorem s_158 : Cond.code m_158.1 m_158.2.1 m_158.2.2.1 m_158.2.2.2.1 ∈ q_gd ∧ Cond.initialized m_158.1.cls ∈ q_gd ∧ (m_158.1.cls ≠ "java/lang/invoke/MethodHandle" ∧ m_158.1.cls ≠ "java/lang/invoke/VarHandle" ∧ (parseMethodDescriptor m_158.1.desc).map (fun d => d.parameters.length) = some 3) := ⟨q_wg4 (i := 44) rfl rfl, w_1, by decide +kernel⟩
theorem s_159 : Cond.code m_159.1 m_159.2.1 m_159.2.2.1 m_159.2.2.2.1 ∈ q_gd ∧ Cond.initialized m_159.1.cls ∈ q_gd ∧ (m_159.1.cls ≠ "java/lang/invoke/MethodHandle" ∧ m_159.1.cls ≠ "java/lang/invoke/VarHandle" ∧ (parseMethodDescriptor m_159.1.desc).map (fun d => d.parameters.length) = some 1) := ⟨q_wg4 (i := 52) rfl rfl, w_1, by decide +kernel⟩
theorem s_160 : Cond.code m_160.1 m_160.2.1 m_160.2.2.1 m_160.2.2.2.1 ∈ q_gd ∧ Cond.initialized m_160.1.cls ∈ q_gd ∧ (m_160.1.cls ≠ "java/lang/invoke/MethodHandle" ∧ m_160.1.cls ≠ "java/lang/invoke/VarHandle" ∧ (parseMethodDescriptor m_160.1.desc).map (fun d => d.parameters.length) = some 3) := ⟨q_wg4 (i := 121) rfl rfl, w_1, by decide +kernel⟩
theorem s_161 : Cond.code m_161.1 m_161.2.1 m_161.2.2.1 m_161.2.2.2.1 ∈ q_gd ∧ Cond.initialized m_161.1.cls ∈ q_gd ∧ (m_161.1.cls ≠ "java/lang/invoke/MethodHandle" ∧ m_161.1.cls ≠ "java/lang/invoke/VarHandle" ∧ (parseMethodDescriptor m_161.1.desc).map (fun d => d.parameters.length) = some 2) := ⟨q_wg4 (i := 126) rfl rfl, w_10, by decide +kernel⟩
theorem s_162 : Cond.code m_162.1 m_162.2.1 m_162.2.2.1 m_162.2.2.2.1 ∈ q_gd ∧ Cond.initialized m_162.1.cls ∈ q_gd ∧ (m_162.1.cls ≠ "java/lang/invoke/MethodHandle" ∧ m_162.1.cls ≠ "java/lang/invoke/VarHandle" ∧ (parseMethodDescriptor m_162.1.desc).map (fun d => d.parameters.length) = some 3) := ⟨q_wg4 (i := 130) rfl rfl, w_1, by decide +kernel⟩
theorem s_163 : Cond.code m_163.1 m_163.2.1 m_163.2.2.1 m_163.2.2.2.1 ∈ q_gd ∧ Cond.initialized m_163.1.cls ∈ q_gd ∧ (m_163.1.cls ≠ "java/lang/invoke/MethodHandle" ∧ m_163.1.cls ≠ "java/lang/invoke/VarHandle" ∧ (parseMethodDescriptor m_163.1.desc).map (fun d => d.parameters.length) = some 4) := ⟨q_wg4 (i := 134) rfl rfl, w_1, by decide +kernel⟩
theorem s_164 : Cond.code m_164.1 m_164.2.1 m_164.2.2.1 m_164.2.2.2.1 ∈ q_gd ∧ Cond.initialized m_164.1.cls ∈ q_gd ∧ (m_164.1.cls ≠ "java/lang/invoke/MethodHandle" ∧ m_164.1.cls ≠ "java/lang/invoke/VarHandle" ∧ (parseMethodDescriptor m_164.1.desc).map (fun d => d.parameters.length) = some 2) := ⟨q_wg4 (i := 138) rfl rfl, w_10, by decide +kernel⟩
theorem s_165 : Cond.code m_165.1 m_165.2.1 m_165.2.2.1 m_165.2.2.2.1 ∈ q_gd ∧ Cond.initialized m_165.1.cls ∈ q_gd ∧ (m_165.1.cls ≠ "java/lang/invoke/MethodHandle" ∧ m_165.1.cls ≠ "java/lang/invoke/VarHandle" ∧ (parseMethodDescriptor m_165.1.desc).map (fun d => d.parameters.length) = some 3) := ⟨q_wg4 (i := 142) rfl rfl, w_1, by decide +kernel⟩
theorem s_166 : Cond.code m_166.1 m_166.2.1 m_166.2.2.1 m_166.2.2.2.1 ∈ q_gd ∧ Cond.initialized m_166.1.cls ∈ q_gd ∧ (m_166.1.cls ≠ "java/lang/invoke/MethodHandle" ∧ m_166.1.cls ≠ "java/lang/invoke/VarHandle" ∧ (parseMethodDescriptor m_166.1.desc).map (fun d => d.parameters.length) = some 0) := ⟨q_wg4 (i := 146) rfl rfl, w_1, by decide +kernel⟩
theorem s_167 : Cond.code m_167.1 m_167.2.1 m_167.2.2.1 m_167.2.2.2.1 ∈ q_gd ∧ Cond.initialized m_167.1.cls ∈ q_gd ∧ (m_167.1.cls ≠ "java/lang/invoke/MethodHandle" ∧ m_167.1.cls ≠ "java/lang/invoke/VarHandle" ∧ (parseMethodDescriptor m_167.1.desc).map (fun d => d.parameters.length) = some 0) := ⟨q_wg4 (i := 150) rfl rfl, w_1, by decide +kernel⟩
theorem s_168 : Cond.code m_168.1 m_168.2.1 m_168.2.2.1 m_168.2.2.2.1 ∈ q_gd ∧ Cond.initialized m_168.1.cls ∈ q_gd ∧ (m_168.1.cls ≠ "java/lang/invoke/MethodHandle" ∧ m_168.1.cls ≠ "java/lang/invoke/VarHandle" ∧ (parseMethodDescriptor m_168.1.desc).map (fun d => d.parameters.length) = some 1) := ⟨q_wg4 (i := 154) rfl rfl, w_1, by decide +kernel⟩
theorem s_169 : Cond.code m_169.1 m_169.2.1 m_169.2.2.1 m_169.2.2.2.1 ∈ q_gd ∧ Cond.initialized m_169.1.cls ∈ q_gd ∧ (m_169.1.cls ≠ "java/lang/invoke/MethodHandle" ∧ m_169.1.cls ≠ "java/lang/invoke/VarHandle" ∧ (parseMethodDescriptor m_169.1.desc).map (fun d => d.parameters.length) = some 1) := ⟨q_wg4 (i := 158) rfl rfl, w_4, by decide +kernel⟩
theorem s_170 : Cond.code m_170.1 m_170.2.1 m_170.2.2.1 m_170.2.2.2.1 ∈ q_gd ∧ Cond.initialized m_170.1.cls ∈ q_gd ∧ (m_170.1.cls ≠ "java/lang/invoke/MethodHandle" ∧ m_170.1.cls ≠ "java/lang/invoke/VarHandle" ∧ (parseMethodDescriptor m_170.1.desc).map (fun d => d.parameters.length) = some 0) := ⟨q_wg4 (i := 163) rfl rfl, w_17, by decide +kernel⟩
theorem s_171 : Cond.code m_171.1 m_171.2.1 m_171.2.2.1 m_171.2.2.2.1 ∈ q_gd ∧ Cond.initialized m_171.1.cls ∈ q_gd ∧ (m_171.1.cls ≠ "java/lang/invoke/MethodHandle" ∧ m_171.1.cls ≠ "java/lang/invoke/VarHandle" ∧ (parseMethodDescriptor m_171.1.desc).map (fun d => d.parameters.length) = some 1) := ⟨q_wg5 (i := 47) rfl rfl, w_17, by decide +kernel⟩
theorem s_172 : Cond.code m_172.1 m_172.2.1 m_172.2.2.1 m_172.2.2.2.1 ∈ q_gd ∧ Cond.initialized m_172.1.cls ∈ q_gd ∧ (m_172.1.cls ≠ "java/lang/invoke/MethodHandle" ∧ m_172.1.cls ≠ "java/lang/invoke/VarHandle" ∧ (parseMethodDescriptor m_172.1.desc).map (fun d => d.parameters.length) = some 0) := ⟨q_wg5 (i := 56) rfl rfl, w_17, by decide +kernel⟩
theorem s_173 : Cond.code m_173.1 m_173.2.1 m_173.2.2.1 m_173.2.2.2.1 ∈ q_gd ∧ Cond.initialized m_173.1.cls ∈ q_gd ∧ (m_173.1.cls ≠ "java/lang/invoke/MethodHandle" ∧ m_173.1.cls ≠ "java/lang/invoke/VarHandle" ∧ (parseMethodDescriptor m_173.1.desc).map (fun d => d.parameters.length) = some 0) := ⟨q_wg5 (i := 60) rfl rfl, w_17, by decide +kernel⟩
theorem s_174 : Cond.code m_174.1 m_174.2.1 m_174.2.2.1 m_174.2.2.2.1 ∈ q_gd ∧ Cond.initialized m_174.1.cls ∈ q_gd ∧ (m_174.1.cls ≠ "java/lang/invoke/MethodHandle" ∧ m_174.1.cls ≠ "java/lang/invoke/VarHandle" ∧ (parseMethodDescriptor m_174.1.desc).map (fun d => d.parameters.length) = some 0) := ⟨q_wg5 (i := 68) rfl rfl, w_17, by decide +kernel⟩
theorem s_175 : Cond.code m_175.1 m_175.2.1 m_175.2.2.1 m_175.2.2.2.1 ∈ q_gd ∧ Cond.initialized m_175.1.cls ∈ q_gd ∧ (m_175.1.cls ≠ "java/lang/invoke/MethodHandle" ∧ m_175.1.cls ≠ "java/lang/invoke/VarHandle" ∧ (parseMethodDescriptor m_175.1.desc).map (fun d => d.parameters.length) = some 0) := ⟨q_wg5 (i := 76) rfl rfl, w_17, by decide +kernel⟩
theorem s_176 : Cond.code m_176.1 m_176.2.1 m_176.2.2.1 m_176.2.2.2.1 ∈ q_gd ∧ Cond.initialized m_176.1.cls ∈ q_gd ∧ (m_176.1.cls ≠ "java/lang/invoke/MethodHandle" ∧ m_176.1.cls ≠ "java/lang/invoke/VarHandle" ∧ (parseMethodDescriptor m_176.1.desc).map (fun d => d.parameters.length) = some 0) := ⟨q_wg5 (i := 87) rfl rfl, w_17, by decide +kernel⟩
theorem s_177 : Cond.code m_177.1 m_177.2.1 m_177.2.2.1 m_177.2.2.2.1 ∈ q_gd ∧ Cond.initialized m_177.1.cls ∈ q_gd ∧ (m_177.1.cls ≠ "java/lang/invoke/MethodHandle" ∧ m_177.1.cls ≠ "java/lang/invoke/VarHandle" ∧ (parseMethodDescriptor m_177.1.desc).map (fun d => d.parameters.length) = some 0) := ⟨q_wg5 (i := 91) rfl rfl, w_17, by decide +kernel⟩
theorem s_178 : Cond.code m_178.1 m_178.2.1 m_178.2.2.1 m_178.2.2.2.1 ∈ q_gd ∧ Cond.initialized m_178.1.cls ∈ q_gd ∧ (m_178.1.cls ≠ "java/lang/invoke/MethodHandle" ∧ m_178.1.cls ≠ "java/lang/invoke/VarHandle" ∧ (parseMethodDescriptor m_178.1.desc).map (fun d => d.parameters.length) = some 0) := ⟨q_wg5 (i := 95) rfl rfl, w_17, by decide +kernel⟩
theorem s_179 : Cond.code m_179.1 m_179.2.1 m_179.2.2.1 m_179.2.2.2.1 ∈ q_gd ∧ Cond.initialized m_179.1.cls ∈ q_gd ∧ (m_179.1.cls ≠ "java/lang/invoke/MethodHandle" ∧ m_179.1.cls ≠ "java/lang/invoke/VarHandle" ∧ (parseMethodDescriptor m_179.1.desc).map (fun d => d.parameters.length) = some 0) := ⟨q_wg5 (i := 103) rfl rfl, w_17, by decide +kernel⟩
theorem s_180 : Cond.code m_180.1 m_180.2.1 m_180.2.2.1 m_180.2.2.2.1 ∈ q_gd ∧ Cond.initialized m_180.1.cls ∈ q_gd ∧ (m_180.1.cls ≠ "java/lang/invoke/MethodHandle" ∧ m_180.1.cls ≠ "java/lang/invoke/VarHandle" ∧ (parseMethodDescriptor m_180.1.desc).map (fun d => d.parameters.length) = some 2) := ⟨q_wg5 (i := 107) rfl rfl, w_17, by decide +kernel⟩
theorem s_181 : Cond.code m_181.1 m_181.2.1 m_181.2.2.1 m_181.2.2.2.1 ∈ q_gd ∧ Cond.initialized m_181.1.cls ∈ q_gd ∧ (m_181.1.cls ≠ "java/lang/invoke/MethodHandle" ∧ m_181.1.cls ≠ "java/lang/invoke/VarHandle" ∧ (parseMethodDescriptor m_181.1.desc).map (fun d => d.parameters.length) = some 3) := ⟨q_wg5 (i := 115) rfl rfl, w_17, by decide +kernel⟩
theorem s_182 : Cond.code m_182.1 m_182.2.1 m_182.2.2.1 m_182.2.2.2.1 ∈ q_gd ∧ Cond.initialized m_182.1.cls ∈ q_gd ∧ (m_182.1.cls ≠ "java/lang/invoke/MethodHandle" ∧ m_182.1.cls ≠ "java/lang/invoke/VarHandle" ∧ (parseMethodDescriptor m_182.1.desc).map (fun d => d.parameters.length) = some 2) := ⟨q_wg5 (i := 139) rfl rfl, w_17, by decide +kernel⟩
theorem s_183 : Cond.code m_183.1 m_183.2.1 m_183.2.2.1 m_183.2.2.2.1 ∈ q_gd ∧ Cond.initialized m_183.1.cls ∈ q_gd ∧ (m_183.1.cls ≠ "java/lang/invoke/MethodHandle" ∧ m_183.1.cls ≠ "java/lang/invoke/VarHandle" ∧ (parseMethodDescriptor m_183.1.desc).map (fun d => d.parameters.length) = some 2) := ⟨q_wg5 (i := 151) rfl rfl, w_17, by decide +kernel⟩
theorem s_184 : Cond.code m_184.1 m_184.2.1 m_184.2.2.1 m_184.2.2.2.1 ∈ q_gd ∧ Cond.initialized m_184.1.cls ∈ q_gd ∧ (m_184.1.cls ≠ "java/lang/invoke/MethodHandle" ∧ m_184.1.cls ≠ "java/lang/invoke/VarHandle" ∧ (parseMethodDescriptor m_184.1.desc).map (fun d => d.parameters.length) = some 1) := ⟨q_wg5 (i := 155) rfl rfl, w_17, by decide +kernel⟩
theorem s_185 : Cond.code m_185.1 m_185.2.1 m_185.2.2.1 m_185.2.2.2.1 ∈ q_gd ∧ Cond.initialized m_185.1.cls ∈ q_gd ∧ (m_185.1.cls ≠ "java/lang/invoke/MethodHandle" ∧ m_185.1.cls ≠ "java/lang/invoke/VarHandle" ∧ (parseMethodDescriptor m_185.1.desc).map (fun d => d.parameters.length) = some 1) := ⟨q_wg5 (i := 167) rfl rfl, w_17, by decide +kernel⟩
theorem s_186 : Cond.code m_186.1 m_186.2.1 m_186.2.2.1 m_186.2.2.2.1 ∈ q_gd ∧ Cond.initialized m_186.1.cls ∈ q_gd ∧ (m_186.1.cls ≠ "java/lang/invoke/MethodHandle" ∧ m_186.1.cls ≠ "java/lang/invoke/VarHandle" ∧ (parseMethodDescriptor m_186.1.desc).map (fun d => d.parameters.length) = some 2) := ⟨q_wg5 (i := 175) rfl rfl, w_17, by decide +kernel⟩
theorem s_187 : Cond.code m_187.1 m_187.2.1 m_187.2.2.1 m_187.2.2.2.1 ∈ q_gd ∧ Cond.initialized m_187.1.cls ∈ q_gd ∧ (m_187.1.cls ≠ "java/lang/invoke/MethodHandle" ∧ m_187.1.cls ≠ "java/lang/invoke/VarHandle" ∧ (parseMethodDescriptor m_187.1.desc).map (fun d => d.parameters.length) = some 3) := ⟨q_wg5 (i := 179) rfl rfl, w_17, by decide +kernel⟩
theorem s_188 : Cond.code m_188.1 m_188.2.1 m_188.2.2.1 m_188.2.2.2.1 ∈ q_gd ∧ Cond.initialized m_188.1.cls ∈ q_gd ∧ (m_188.1.cls ≠ "java/lang/invoke/MethodHandle" ∧ m_188.1.cls ≠ "java/lang/invoke/VarHandle" ∧ (parseMethodDescriptor m_188.1.desc).map (fun d => d.parameters.length) = some 3) := ⟨q_wg5 (i := 183) rfl rfl, w_17, by decide +kernel⟩
theorem s_189 : Cond.code m_189.1 m_189.2.1 m_189.2.2.1 m_189.2.2.2.1 ∈ q_gd ∧ Cond.initialized m_189.1.cls ∈ q_gd ∧ (m_189.1.cls ≠ "java/lang/invoke/MethodHandle" ∧ m_189.1.cls ≠ "java/lang/invoke/VarHandle" ∧ (parseMethodDescriptor m_189.1.desc).map (fun d => d.parameters.length) = some 2) := ⟨q_wg5 (i := 188) rfl rfl, w_17, by decide +kernel⟩
theorem s_190 : Cond.code m_190.1 m_190.2.1 m_190.2.2.1 m_190.2.2.2.1 ∈ q_gd ∧ Cond.initialized m_190.1.cls ∈ q_gd ∧ (m_190.1.cls ≠ "java/lang/invoke/MethodHandle" ∧ m_190.1.cls ≠ "java/lang/invoke/VarHandle" ∧ (parseMethodDescriptor m_190.1.desc).map (fun d => d.parameters.length) = some 0) := ⟨q_wg5 (i := 193) rfl rfl, w_17, by decide +kernel⟩
theorem s_191 : Cond.code m_191.1 m_191.2.1 m_191.2.2.1 m_191.2.2.2.1 ∈ q_gd ∧ Cond.initialized m_191.1.cls ∈ q_gd ∧ (m_191.1.cls ≠ "java/lang/invoke/MethodHandle" ∧ m_191.1.cls ≠ "java/lang/invoke/VarHandle" ∧ (parseMethodDescriptor m_191.1.desc).map (fun d => d.parameters.length) = some 4) := ⟨q_wg5 (i := 197) rfl rfl, w_17, by decide +kernel⟩
theorem s_192 : Cond.code m_192.1 m_192.2.1 m_192.2.2.1 m_192.2.2.2.1 ∈ q_gd ∧ Cond.initialized m_192.1.cls ∈ q_gd ∧ (m_192.1.cls ≠ "java/lang/invoke/MethodHandle" ∧ m_192.1.cls ≠ "java/lang/invoke/VarHandle" ∧ (parseMethodDescriptor m_192.1.desc).map (fun d => d.parameters.length) = some 2) := ⟨q_wg5 (i := 221) rfl rfl, w_17, by decide +kernel⟩
theorem s_193 : Cond.code m_193.1 m_193.2.1 m_193.2.2.1 m_193.2.2.2.1 ∈ q_gd ∧ Cond.initialized m_193.1.cls ∈ q_gd ∧ (m_193.1.cls ≠ "java/lang/invoke/MethodHandle" ∧ m_193.1.cls ≠ "java/lang/invoke/VarHandle" ∧ (parseMethodDescriptor m_193.1.desc).map (fun d => d.parameters.length) = some 2) := ⟨q_wg5 (i := 225) rfl rfl, w_17, by decide +kernel⟩
theorem s_194 : Cond.code m_194.1 m_194.2.1 m_194.2.2.1 m_194.2.2.2.1 ∈ q_gd ∧ Cond.initialized m_194.1.cls ∈ q_gd ∧ (m_194.1.cls ≠ "java/lang/invoke/MethodHandle" ∧ m_194.1.cls ≠ "java/lang/invoke/VarHandle" ∧ (parseMethodDescriptor m_194.1.desc).map (fun d => d.parameters.length) = some 1) := ⟨q_wg5 (i := 237) rfl rfl, w_17, by decide +kernel⟩
theorem s_195 : Cond.code m_195.1 m_195.2.1 m_195.2.2.1 m_195.2.2.2.1 ∈ q_gd ∧ Cond.initialized m_195.1.cls ∈ q_gd ∧ (m_195.1.cls ≠ "java/lang/invoke/MethodHandle" ∧ m_195.1.cls ≠ "java/lang/invoke/VarHandle" ∧ (parseMethodDescriptor m_195.1.desc).map (fun d => d.parameters.length) = some 0) := ⟨q_wg6 (i := 1) rfl rfl, w_17, by decide +kernel⟩
theorem s_196 : Cond.code m_196.1 m_196.2.1 m_196.2.2.1 m_196.2.2.2.1 ∈ q_gd ∧ Cond.initialized m_196.1.cls ∈ q_gd ∧ (m_196.1.cls ≠ "java/lang/invoke/MethodHandle" ∧ m_196.1.cls ≠ "java/lang/invoke/VarHandle" ∧ (parseMethodDescriptor m_196.1.desc).map (fun d => d.parameters.length) = some 2) := ⟨q_wg6 (i := 5) rfl rfl, w_17, by decide +kernel⟩
theorem s_197 : Cond.code m_197.1 m_197.2.1 m_197.2.2.1 m_197.2.2.2.1 ∈ q_gd ∧ Cond.initialized m_197.1.cls ∈ q_gd ∧ (m_197.1.cls ≠ "java/lang/invoke/MethodHandle" ∧ m_197.1.cls ≠ "java/lang/invoke/VarHandle" ∧ (parseMethodDescriptor m_197.1.desc).map (fun d => d.parameters.length) = some 2) := ⟨q_wg6 (i := 9) rfl rfl, w_17, by decide +kernel⟩
theorem s_198 : Cond.code m_198.1 m_198.2.1 m_198.2.2.1 m_198.2.2.2.1 ∈ q_gd ∧ Cond.initialized m_198.1.cls ∈ q_gd ∧ (m_198.1.cls ≠ "java/lang/invoke/MethodHandle" ∧ m_198.1.cls ≠ "java/lang/invoke/VarHandle" ∧ (parseMethodDescriptor m_198.1.desc).map (fun d => d.parameters.length) = some 3) := ⟨q_wg6 (i := 13) rfl rfl, w_17, by decide +kernel⟩
theorem s_199 : Cond.code m_199.1 m_199.2.1 m_199.2.2.1 m_199.2.2.2.1 ∈ q_gd ∧ Cond.initialized m_199.1.cls ∈ q_gd ∧ (m_199.1.cls ≠ "java/lang/invoke/MethodHandle" ∧ m_199.1.cls ≠ "java/lang/invoke/VarHandle" ∧ (parseMethodDescriptor m_199.1.desc).map (fun d => d.parameters.length) = some 1) := ⟨q_wg6 (i := 17) rfl rfl, w_17, by decide +kernel⟩
theorem s_200 : Cond.code m_200.1 m_200.2.1 m_200.2.2.1 m_200.2.2.2.1 ∈ q_gd ∧ Cond.initialized m_200.1.cls ∈ q_gd ∧ (m_200.1.cls ≠ "java/lang/invoke/MethodHandle" ∧ m_200.1.cls ≠ "java/lang/invoke/VarHandle" ∧ (parseMethodDescriptor m_200.1.desc).map (fun d => d.parameters.length) = some 3) := ⟨q_wg6 (i := 40) rfl rfl, w_17, by decide +kernel⟩
theorem s_201 : Cond.code m_201.1 m_201.2.1 m_201.2.2.1 m_201.2.2.2.1 ∈ q_gd ∧ Cond.initialized m_201.1.cls ∈ q_gd ∧ (m_201.1.cls ≠ "java/lang/invoke/MethodHandle" ∧ m_201.1.cls ≠ "java/lang/invoke/VarHandle" ∧ (parseMethodDescriptor m_201.1.desc).map (fun d => d.parameters.length) = some 1) := ⟨q_wg6 (i := 45) rfl rfl, w_17, by decide +kernel⟩
theorem s_202 : Cond.code m_202.1 m_202.2.1 m_202.2.2.1 m_202.2.2.2.1 ∈ q_gd ∧ Cond.initialized m_202.1.cls ∈ q_gd ∧ (m_202.1.cls ≠ "java/lang/invoke/MethodHandle" ∧ m_202.1.cls ≠ "java/lang/invoke/VarHandle" ∧ (parseMethodDescriptor m_202.1.desc).map (fun d => d.parameters.length) = some 3) := ⟨q_wg6 (i := 49) rfl rfl, w_17, by decide +kernel⟩
theorem s_203 : Cond.code m_203.1 m_203.2.1 m_203.2.2.1 m_203.2.2.2.1 ∈ q_gd ∧ Cond.initialized m_203.1.cls ∈ q_gd ∧ (m_203.1.cls ≠ "java/lang/invoke/MethodHandle" ∧ m_203.1.cls ≠ "java/lang/invoke/VarHandle" ∧ (parseMethodDescriptor m_203.1.desc).map (fun d => d.parameters.length) = some 3) := ⟨q_wg6 (i := 53) rfl rfl, w_17, by decide +kernel⟩
theorem s_204 : Cond.code m_204.1 m_204.2.1 m_204.2.2.1 m_204.2.2.2.1 ∈ q_gd ∧ Cond.initialized m_204.1.cls ∈ q_gd ∧ (m_204.1.cls ≠ "java/lang/invoke/MethodHandle" ∧ m_204.1.cls ≠ "java/lang/invoke/VarHandle" ∧ (parseMethodDescriptor m_204.1.desc).map (fun d => d.parameters.length) = some 2) := ⟨q_wg6 (i := 57) rfl rfl, w_17, by decide +kernel⟩
theorem s_205 : Cond.code m_205.1 m_205.2.1 m_205.2.2.1 m_205.2.2.2.1 ∈ q_gd ∧ Cond.initialized m_205.1.cls ∈ q_gd ∧ (m_205.1.cls ≠ "java/lang/invoke/MethodHandle" ∧ m_205.1.cls ≠ "java/lang/invoke/VarHandle" ∧ (parseMethodDescriptor m_205.1.desc).map (fun d => d.parameters.length) = some 3) := ⟨q_wg6 (i := 61) rfl rfl, w_17, by decide +kernel⟩
theorem s_206 : Cond.code m_206.1 m_206.2.1 m_206.2.2.1 m_206.2.2.2.1 ∈ q_gd ∧ Cond.initialized m_206.1.cls ∈ q_gd ∧ (m_206.1.cls ≠ "java/lang/invoke/MethodHandle" ∧ m_206.1.cls ≠ "java/lang/invoke/VarHandle" ∧ (parseMethodDescriptor m_206.1.desc).map (fun d => d.parameters.length) = some 4) := ⟨q_wg6 (i := 65) rfl rfl, w_17, by decide +kernel⟩
theorem s_207 : Cond.code m_207.1 m_207.2.1 m_207.2.2.1 m_207.2.2.2.1 ∈ q_gd ∧ Cond.initialized m_207.1.cls ∈ q_gd ∧ (m_207.1.cls ≠ "java/lang/invoke/MethodHandle" ∧ m_207.1.cls ≠ "java/lang/invoke/VarHandle" ∧ (parseMethodDescriptor m_207.1.desc).map (fun d => d.parameters.length) = some 2) := ⟨q_wg6 (i := 69) rfl rfl, w_17, by decide +kernel⟩
theorem s_208 : Cond.code m_208.1 m_208.2.1 m_208.2.2.1 m_208.2.2.2.1 ∈ q_gd ∧ Cond.initialized m_208.1.cls ∈ q_gd ∧ (m_208.1.cls ≠ "java/lang/invoke/MethodHandle" ∧ m_208.1.cls ≠ "java/lang/invoke/VarHandle" ∧ (parseMethodDescriptor m_208.1.desc).map (fun d => d.parameters.length) = some 3) := ⟨q_wg6 (i := 73) rfl rfl, w_17, by decide +kernel⟩
theorem s_209 : Cond.code m_209.1 m_209.2.1 m_209.2.2.1 m_209.2.2.2.1 ∈ q_gd ∧ Cond.initialized m_209.1.cls ∈ q_gd ∧ (m_209.1.cls ≠ "java/lang/invoke/MethodHandle" ∧ m_209.1.cls ≠ "java/lang/invoke/VarHandle" ∧ (parseMethodDescriptor m_209.1.desc).map (fun d => d.parameters.length) = some 0) := ⟨q_wg6 (i := 77) rfl rfl, w_17, by decide +kernel⟩
theorem s_210 : Cond.code m_210.1 m_210.2.1 m_210.2.2.1 m_210.2.2.2.1 ∈ q_gd ∧ Cond.initialized m_210.1.cls ∈ q_gd ∧ (m_210.1.cls ≠ "java/lang/invoke/MethodHandle" ∧ m_210.1.cls ≠ "java/lang/invoke/VarHandle" ∧ (parseMethodDescriptor m_210.1.desc).map (fun d => d.parameters.length) = some 0) := ⟨q_wg6 (i := 81) rfl rfl, w_17, by decide +kernel⟩
theorem s_211 : Cond.code m_211.1 m_211.2.1 m_211.2.2.1 m_211.2.2.2.1 ∈ q_gd ∧ Cond.initialized m_211.1.cls ∈ q_gd ∧ (m_211.1.cls ≠ "java/lang/invoke/MethodHandle" ∧ m_211.1.cls ≠ "java/lang/invoke/VarHandle" ∧ (parseMethodDescriptor m_211.1.desc).map (fun d => d.parameters.length) = some 1) := ⟨q_wg6 (i := 85) rfl rfl, w_17, by decide +kernel⟩
theorem s_212 : Cond.code m_212.1 m_212.2.1 m_212.2.2.1 m_212.2.2.2.1 ∈ q_gd ∧ Cond.initialized m_212.1.cls ∈ q_gd ∧ (m_212.1.cls ≠ "java/lang/invoke/MethodHandle" ∧ m_212.1.cls ≠ "java/lang/invoke/VarHandle" ∧ (parseMethodDescriptor m_212.1.desc).map (fun d => d.parameters.length) = some 1) := ⟨q_wg6 (i := 89) rfl rfl, w_17, by decide +kernel⟩
theorem s_213 : Cond.code m_213.1 m_213.2.1 m_213.2.2.1 m_213.2.2.2.1 ∈ q_gd ∧ Cond.initialized m_213.1.cls ∈ q_gd ∧ (m_213.1.cls ≠ "java/lang/invoke/MethodHandle" ∧ m_213.1.cls ≠ "java/lang/invoke/VarHandle" ∧ (parseMethodDescriptor m_213.1.desc).map (fun d => d.parameters.length) = some 2) := ⟨q_wg2 (i := 7) rfl rfl, w_11, by decide +kernel⟩
theorem s_214 : Cond.code m_214.1 m_214.2.1 m_214.2.2.1 m_214.2.2.2.1 ∈ q_gd ∧ Cond.initialized m_214.1.cls ∈ q_gd ∧ (m_214.1.cls ≠ "java/lang/invoke/MethodHandle" ∧ m_214.1.cls ≠ "java/lang/invoke/VarHandle" ∧ (parseMethodDescriptor m_214.1.desc).map (fun d => d.parameters.length) = some 3) := ⟨q_wg2 (i := 12) rfl rfl, w_13, by decide +kernel⟩
theorem s_215 : Cond.code m_215.1 m_215.2.1 m_215.2.2.1 m_215.2.2.2.1 ∈ q_gd ∧ Cond.initialized m_215.1.cls ∈ q_gd ∧ (m_215.1.cls ≠ "java/lang/invoke/MethodHandle" ∧ m_215.1.cls ≠ "java/lang/invoke/VarHandle" ∧ (parseMethodDescriptor m_215.1.desc).map (fun d => d.parameters.length) = some 0) := ⟨q_wg1 (i := 227) rfl rfl, w_11, by decide +kernel⟩
theorem s_216 : Cond.code m_216.1 m_216.2.1 m_216.2.2.1 m_216.2.2.2.1 ∈ q_gd ∧ Cond.initialized m_216.1.cls ∈ q_gd ∧ (m_216.1.cls ≠ "java/lang/invoke/MethodHandle" ∧ m_216.1.cls ≠ "java/lang/invoke/VarHandle" ∧ (parseMethodDescriptor m_216.1.desc).map (fun d => d.parameters.length) = some 1) := ⟨q_wg1 (i := 237) rfl rfl, w_11, by decide +kernel⟩
theorem s_217 : Cond.code m_217.1 m_217.2.1 m_217.2.2.1 m_217.2.2.2.1 ∈ q_gd ∧ Cond.initialized m_217.1.cls ∈ q_gd ∧ (m_217.1.cls ≠ "java/lang/invoke/MethodHandle" ∧ m_217.1.cls ≠ "java/lang/invoke/VarHandle" ∧ (parseMethodDescriptor m_217.1.desc).map (fun d => d.parameters.length) = some 0) := ⟨q_wg1 (i := 231) rfl rfl, w_11, by decide +kernel⟩
theorem s_218 : Cond.code m_218.1 m_218.2.1 m_218.2.2.1 m_218.2.2.2.1 ∈ q_gd ∧ Cond.initialized m_218.1.cls ∈ q_gd ∧ (m_218.1.cls ≠ "java/lang/invoke/MethodHandle" ∧ m_218.1.cls ≠ "java/lang/invoke/VarHandle" ∧ (parseMethodDescriptor m_218.1.desc).map (fun d => d.parameters.length) = some 0) := ⟨q_wg2 (i := 1) rfl rfl, w_11, by decide +kernel⟩
theorem s_219 : Cond.code m_219.1 m_219.2.1 m_219.2.2.1 m_219.2.2.2.1 ∈ q_gd ∧ Cond.initialized m_219.1.cls ∈ q_gd ∧ (m_219.1.cls ≠ "java/lang/invoke/MethodHandle" ∧ m_219.1.cls ≠ "java/lang/invoke/VarHandle" ∧ (parseMethodDescriptor m_219.1.desc).map (fun d => d.parameters.length) = some 2) := ⟨q_wg2 (i := 4) rfl rfl, w_12, by decide +kernel⟩
theorem f_TreePassesModel_103 (M : q_M) (h : M.1.cls = "TreePassesModel") : q_fl M 103 9 8 := by
  unfold q_fl
  rw [h]
  exact ⟨(RX9, TX9, 33), rfl, by decide, Or.inl w_912⟩
theorem f_TreePassesModel_13 (M : q_M) (h : M.1.cls = "TreePassesModel") : q_fl M 13 9 2 := by
  unfold q_fl
  rw [h]
  exact ⟨(RX9, TX9, 33), rfl, by decide, Or.inl w_906⟩
theorem f_TreePassesModel_140 (M : q_M) (h : M.1.cls = "TreePassesModel") : q_fl M 140 9 5 := by
  unfold q_fl
  rw [h]
  exact ⟨(RX9, TX9, 33), rfl, by decide, Or.inl w_909⟩
theorem f_TreePassesModel_143 (M : q_M) (h : M.1.cls = "TreePassesModel") : q_fl M 143 9 7 := by
  unfold q_fl
  rw [h]
  exact ⟨(RX9, TX9, 33), rfl, by decide, Or.inl w_911⟩
theorem f_TreePassesModel_152 (M : q_M) (h : M.1.cls = "TreePassesModel") : q_fl M 152 9 10 := by
  unfold q_fl
  rw [h]
  exact ⟨(RX9, TX9, 33), rfl, by decide, Or.inl w_914⟩
theorem f_TreePassesModel_16 (M : q_M) (h : M.1.cls = "TreePassesModel") : q_fl M 16 9 3 := by
  unfold q_fl
  rw [h]
  exact ⟨(RX9, TX9, 33), rfl, by decide, Or.inl w_907⟩
theorem f_TreePassesModel_19 (M : q_M) (h : M.1.cls = "TreePassesModel") : q_fl M 19 9 4 := by
  unfold q_fl
  rw [h]
  exact ⟨(RX9, TX9, 33), rfl, by decide, Or.inl w_908⟩
theorem f_TreePassesModel_192 (M : q_M) (h : M.1.cls = "TreePassesModel") : q_fl M 192 9 18 := by
  unfold q_fl
  rw [h]
  exact ⟨(RX9, TX9, 33), rfl, by decide, Or.inl w_922⟩
theorem f_TreePassesModel_195 (M : q_M) (h : M.1.cls = "TreePassesModel") : q_fl M 195 9 14 := by
  unfold q_fl
  rw [h]
  exact ⟨(RX9, TX9, 33), rfl, by decide, Or.inl w_918⟩
theorem f_TreePassesModel_209 (M : q_M) (h : M.1.cls = "TreePassesModel") : q_fl M 209 9 21 := by
  unfold q_fl
  rw [h]
  exact ⟨(RX9, TX9, 33), rfl, by decide, Or.inl w_925⟩
theorem f_TreePassesModel_218 (M : q_M) (h : M.1.cls = "TreePassesModel") : q_fl M 218 9 24 := by
  unfold q_fl
  rw [h]
  exact ⟨(RX9, TX9, 33), rfl, by decide, Or.inl w_928⟩
theorem f_TreePassesModel_22 (M : q_M) (h : M.1.cls = "TreePassesModel") : q_fl M 22 9 6 := by
  unfold q_fl
  rw [h]
  exact ⟨(RX9, TX9, 33), rfl, by decide, Or.inl w_910⟩
theorem f_TreePassesModel_221 (M : q_M) (h : M.1.cls = "TreePassesModel") : q_fl M 221 9 25 := by
  unfold q_fl
  rw [h]
  exact ⟨(RX9, TX9, 33), rfl, by decide, Or.inl w_929⟩
theorem f_TreePassesModel_224 (M : q_M) (h : M.1.cls = "TreePassesModel") : q_fl M 224 9 26 := by
  unfold q_fl
  rw [h]
  exact ⟨(RX9, TX9, 33), rfl, by decide, Or.inl w_930⟩
theorem f_TreePassesModel_248 (M : q_M) (h : M.1.cls = "TreePassesModel") : q_fl M 248 9 27 := by
  unfold q_fl
  rw [h]
  exact ⟨(RX9, TX9, 33), rfl, by decide, Or.inl w_931⟩
theorem f_TreePassesModel_25 (M : q_M) (h : M.1.cls = "TreePassesModel") : q_fl M 25 9 9 := by
  unfold q_fl
  rw [h]
  exact ⟨(RX9, TX9, 33), rfl, by decide, Or.inl w_913⟩
theorem f_TreePassesModel_28 (M : q_M) (h : M.1.cls = "TreePassesModel") : q_fl M 28 9 11 := by
  unfold q_fl
  rw [h]
  exact ⟨(RX9, TX9, 33), rfl, by decide, Or.inl w_915⟩
theorem f_TreePassesModel_31 (M : q_M) (h : M.1.cls = "TreePassesModel") : q_fl M 31 9 12 := by
  unfold q_fl
  rw [h]
  exact ⟨(RX9, TX9, 33), rfl, by decide, Or.inl w_916⟩
theorem f_TreePassesModel_34 (M : q_M) (h : M.1.cls = "TreePassesModel") : q_fl M 34 9 13 := by
  unfold q_fl
  rw [h]
  exact ⟨(RX9, TX9, 33), rfl, by decide, Or.inl w_917⟩
theorem f_TreePassesModel_37 (M : q_M) (h : M.1.cls = "TreePassesModel") : q_fl M 37 9 15 := by
  unfold q_fl
  rw [h]
  exact ⟨(RX9, TX9, 33), rfl, by decide, Or.inl w_919⟩
theorem f_TreePassesModel_40 (M : q_M) (h : M.1.cls = "TreePassesModel") : q_fl M 40 9 16 := by
  unfold q_fl
  rw [h]
  exact ⟨(RX9, TX9, 33), rfl, by decide, Or.inl w_920⟩
theorem f_TreePassesModel_43 (M : q_M) (h : M.1.cls = "TreePassesModel") : q_fl M 43 9 17 := by
  unfold q_fl
  rw [h]
  exact ⟨(RX9, TX9, 33), rfl, by decide, Or.inl w_921⟩
theorem f_TreePassesModel_46 (M : q_M) (h : M.1.cls = "TreePassesModel") : q_fl M 46 9 19 := by
  unfold q_fl
  rw [h]
  exact ⟨(RX9, TX9, 33), rfl, by decide, Or.inl w_923⟩
theorem f_TreePassesModel_49 (M : q_M) (h : M.1.cls = "TreePassesModel") : q_fl M 49 9 20 := by
  unfold q_fl
  rw [h]
  exact ⟨(RX9, TX9, 33), rfl, by decide, Or.inl w_924⟩
theorem f_TreePassesModel_52 (M : q_M) (h : M.1.cls = "TreePassesModel") : q_fl M 52 9 22 := by
  unfold q_fl
  rw [h]
  exact ⟨(RX9, TX9, 33), rfl, by decide, Or.inl w_926⟩
theorem f_TreePassesModel_55 (M : q_M) (h : M.1.cls = "TreePassesModel") : q_fl M 55 9 23 := by
  unfold q_fl
  rw [h]
  exact ⟨(RX9, TX9, 33), rfl, by decide, Or.inl w_927⟩
theorem f_TreePassesModel_58 (M : q_M) (h : M.1.cls = "TreePassesModel") : q_fl M 58 9 28 := by
  unfold q_fl
  rw [h]
  exact ⟨(RX9, TX9, 33), rfl, by decide, Or.inl w_932⟩
theorem f_TreePassesModel_62 (M : q_M) (h : M.1.cls = "TreePassesModel") : q_fl M 62 9 29 := by
  unfold q_fl
  rw [h]
  exact ⟨(RX9, TX9, 33), rfl, by decide, Or.inl w_933⟩
theorem f_TreePassesModel_65 (M : q_M) (h : M.1.cls = "TreePassesModel") : q_fl M 65 9 30 := by
  unfold q_fl
  rw [h]
  exact ⟨(RX9, TX9, 33), rfl, by decide, Or.inl w_934⟩
theorem f_TreePassesModel_68 (M : q_M) (h : M.1.cls = "TreePassesModel") : q_fl M 68 9 31 := by
  unfold q_fl
  rw [h]
  exact ⟨(RX9, TX9, 33), rfl, by decide, Or.inl w_935⟩
theorem f_TreePassesModel_7 (M : q_M) (h : M.1.cls = "TreePassesModel") : q_fl M 7 9 1 := by
  unfold q_fl
  rw [h]
  exact ⟨(RX9, TX9, 33), rfl, by decide, Or.inl w_905⟩
theorem f_TreePassesModel_71 (M : q_M) (h : M.1.cls = "TreePassesModel") : q_fl M 71 9 32 := by
  unfold q_fl
  rw [h]
  exact ⟨(RX9, TX9, 33), rfl, by decide, Or.inl w_936⟩
theorem f_TreePassesModel_99 (M : q_M) (h : M.1.cls = "TreePassesModel") : q_fl M 99 9 0 := by
  unfold q_fl
  rw [h]
  exact ⟨(RX9, TX9, 33), rfl, by decide, Or.inl w_904⟩
theorem f_TreePasses_100 (M : q_M) (h : M.1.cls = "TreePasses") : q_fl M 100 2 6 := by
  unfold q_fl
  rw [h]
  exact ⟨(RX2, TX2, 7), rfl, by decide, Or.inr ⟨_, w_66⟩⟩
theorem f_TreePasses_12 (M : q_M) (h : M.1.cls = "TreePasses") : q_fl M 12 8 0 := by
  unfold q_fl
  rw [h]
  exact ⟨(RX8, TX8, 12), rfl, by decide, Or.inl w_399⟩
theorem f_TreePasses_19 (M : q_M) (h : M.1.cls = "TreePasses") : q_fl M 19 8 1 := by
  unfold q_fl
  rw [h]
  exact ⟨(RX8, TX8, 12), rfl, by decide, Or.inl w_400⟩
theorem f_TreePasses_195 (M : q_M) (h : M.1.cls = "TreePasses") : q_fl M 195 4 2 := by
  unfold q_fl
  rw [h]
  exact ⟨(RX4, TX4, 3), rfl, by decide, Or.inr ⟨_, w_96⟩⟩
theorem f_TreePasses_208 (M : q_M) (h : M.1.cls = "TreePasses") : q_fl M 208 7 0 := by
  unfold q_fl
  rw [h]
  exact ⟨(RX7, TX7, 7), rfl, by decide, Or.inr ⟨_, w_145⟩⟩
theorem f_TreePasses_211 (M : q_M) (h : M.1.cls = "TreePasses") : q_fl M 211 7 5 := by
  unfold q_fl
  rw [h]
  exact ⟨(RX7, TX7, 7), rfl, by decide, Or.inr ⟨_, w_151⟩⟩
theorem f_TreePasses_23 (M : q_M) (h : M.1.cls = "TreePasses") : q_fl M 23 8 2 := by
  unfold q_fl
  rw [h]
  exact ⟨(RX8, TX8, 12), rfl, by decide, Or.inl w_401⟩
theorem f_TreePasses_235 (M : q_M) (h : M.1.cls = "TreePasses") : q_fl M 235 0 13 := by
  unfold q_fl
  rw [h]
  exact ⟨(RX0, TX0, 15), rfl, by decide, Or.inr ⟨_, w_188⟩⟩
theorem f_TreePasses_31 (M : q_M) (h : M.1.cls = "TreePasses") : q_fl M 31 8 3 := by
  unfold q_fl
  rw [h]
  exact ⟨(RX8, TX8, 12), rfl, by decide, Or.inl w_402⟩
theorem f_TreePasses_35 (M : q_M) (h : M.1.cls = "TreePasses") : q_fl M 35 8 4 := by
  unfold q_fl
  rw [h]
  exact ⟨(RX8, TX8, 12), rfl, by decide, Or.inl w_403⟩
theorem f_TreePasses_41 (M : q_M) (h : M.1.cls = "TreePasses") : q_fl M 41 8 5 := by
  unfold q_fl
  rw [h]
  exact ⟨(RX8, TX8, 12), rfl, by decide, Or.inl w_404⟩
theorem f_TreePasses_45 (M : q_M) (h : M.1.cls = "TreePasses") : q_fl M 45 8 6 := by
  unfold q_fl
  rw [h]
  exact ⟨(RX8, TX8, 12), rfl, by decide, Or.inl w_405⟩
theorem f_TreePasses_51 (M : q_M) (h : M.1.cls = "TreePasses") : q_fl M 51 8 7 := by
  unfold q_fl
  rw [h]
  exact ⟨(RX8, TX8, 12), rfl, by decide, Or.inl w_406⟩
theorem f_TreePasses_58 (M : q_M) (h : M.1.cls = "TreePasses") : q_fl M 58 8 8 := by
  unfold q_fl
  rw [h]
  exact ⟨(RX8, TX8, 12), rfl, by decide, Or.inl w_407⟩
theorem f_TreePasses_65 (M : q_M) (h : M.1.cls = "TreePasses") : q_fl M 65 8 9 := by
  unfold q_fl
  rw [h]
  exact ⟨(RX8, TX8, 12), rfl, by decide, Or.inl w_408⟩
theorem f_TreePasses_69 (M : q_M) (h : M.1.cls = "TreePasses") : q_fl M 69 8 10 := by
  unfold q_fl
  rw [h]
  exact ⟨(RX8, TX8, 12), rfl, by decide, Or.inl w_409⟩
theorem f_TreePasses_72 (M : q_M) (h : M.1.cls = "TreePasses") : q_fl M 72 8 11 := by
  unfold q_fl
  rw [h]
  exact ⟨(RX8, TX8, 12), rfl, by decide, Or.inl w_410⟩
theorem f_TreePasses_Census_15 (M : q_M) (h : M.1.cls = "TreePasses$Census") : q_fl M 15 0 2 := by
  unfold q_fl
  rw [h]
  exact ⟨(RX0, TX0, 15), rfl, by decide, Or.inl w_176⟩
theorem f_TreePasses_Census_18 (M : q_M) (h : M.1.cls = "TreePasses$Census") : q_fl M 18 0 3 := by
  unfold q_fl
  rw [h]
  exact ⟨(RX0, TX0, 15), rfl, by decide, Or.inl w_177⟩
theorem f_TreePasses_Census_21 (M : q_M) (h : M.1.cls = "TreePasses$Census") : q_fl M 21 0 4 := by
  unfold q_fl
  rw [h]
  exact ⟨(RX0, TX0, 15), rfl, by decide, Or.inl w_178⟩
theorem f_TreePasses_Census_24 (M : q_M) (h : M.1.cls = "TreePasses$Census") : q_fl M 24 0 5 := by
  unfold q_fl
  rw [h]
  exact ⟨(RX0, TX0, 15), rfl, by decide, Or.inl w_179⟩
theorem f_TreePasses_Census_27 (M : q_M) (h : M.1.cls = "TreePasses$Census") : q_fl M 27 0 6 := by
  unfold q_fl
  rw [h]
  exact ⟨(RX0, TX0, 15), rfl, by decide, Or.inl w_180⟩
theorem f_TreePasses_Census_31 (M : q_M) (h : M.1.cls = "TreePasses$Census") : q_fl M 31 0 7 := by
  unfold q_fl
  rw [h]
  exact ⟨(RX0, TX0, 15), rfl, by decide, Or.inl w_181⟩
theorem f_TreePasses_Census_34 (M : q_M) (h : M.1.cls = "TreePasses$Census") : q_fl M 34 0 8 := by
  unfold q_fl
  rw [h]
  exact ⟨(RX0, TX0, 15), rfl, by decide, Or.inl w_182⟩
theorem f_TreePasses_Census_37 (M : q_M) (h : M.1.cls = "TreePasses$Census") : q_fl M 37 0 9 := by
  unfold q_fl
  rw [h]
  exact ⟨(RX0, TX0, 15), rfl, by decide, Or.inl w_183⟩
theorem f_TreePasses_Census_40 (M : q_M) (h : M.1.cls = "TreePasses$Census") : q_fl M 40 0 10 := by
  unfold q_fl
  rw [h]
  exact ⟨(RX0, TX0, 15), rfl, by decide, Or.inl w_184⟩
theorem f_TreePasses_Census_43 (M : q_M) (h : M.1.cls = "TreePasses$Census") : q_fl M 43 0 11 := by
  unfold q_fl
  rw [h]
  exact ⟨(RX0, TX0, 15), rfl, by decide, Or.inl w_185⟩
theorem f_TreePasses_Census_47 (M : q_M) (h : M.1.cls = "TreePasses$Census") : q_fl M 47 0 12 := by
  unfold q_fl
  rw [h]
  exact ⟨(RX0, TX0, 15), rfl, by decide, Or.inl w_186⟩
theorem f_TreePasses_Census_50 (M : q_M) (h : M.1.cls = "TreePasses$Census") : q_fl M 50 0 0 := by
  unfold q_fl
  rw [h]
  exact ⟨(RX0, TX0, 15), rfl, by decide, Or.inl w_174⟩
theorem f_TreePasses_Census_54 (M : q_M) (h : M.1.cls = "TreePasses$Census") : q_fl M 54 0 14 := by
  unfold q_fl
  rw [h]
  exact ⟨(RX0, TX0, 15), rfl, by decide, Or.inl w_189⟩
theorem f_TreePasses_Census_78 (M : q_M) (h : M.1.cls = "TreePasses$Census") : q_fl M 78 0 13 := by
  unfold q_fl
  rw [h]
  exact ⟨(RX0, TX0, 15), rfl, by decide, Or.inl w_187⟩
theorem f_TreePasses_Census_9 (M : q_M) (h : M.1.cls = "TreePasses$Census") : q_fl M 9 0 1 := by
  unfold q_fl
  rw [h]
  exact ⟨(RX0, TX0, 15), rfl, by decide, Or.inl w_175⟩
theorem f_TreePasses_Program_15 (M : q_M) (h : M.1.cls = "TreePasses$Program") : q_fl M 15 2 1 := by
  unfold q_fl
  rw [h]
  exact ⟨(RX2, TX2, 7), rfl, by decide, Or.inl w_60⟩
theorem f_TreePasses_Program_18 (M : q_M) (h : M.1.cls = "TreePasses$Program") : q_fl M 18 2 2 := by
  unfold q_fl
  rw [h]
  exact ⟨(RX2, TX2, 7), rfl, by decide, Or.inl w_61⟩
theorem f_TreePasses_Program_21 (M : q_M) (h : M.1.cls = "TreePasses$Program") : q_fl M 21 2 3 := by
  unfold q_fl
  rw [h]
  exact ⟨(RX2, TX2, 7), rfl, by decide, Or.inl w_62⟩
theorem f_TreePasses_Program_24 (M : q_M) (h : M.1.cls = "TreePasses$Program") : q_fl M 24 2 4 := by
  unfold q_fl
  rw [h]
  exact ⟨(RX2, TX2, 7), rfl, by decide, Or.inl w_63⟩
theorem f_TreePasses_Program_27 (M : q_M) (h : M.1.cls = "TreePasses$Program") : q_fl M 27 2 5 := by
  unfold q_fl
  rw [h]
  exact ⟨(RX2, TX2, 7), rfl, by decide, Or.inl w_64⟩
theorem f_TreePasses_Program_36 (M : q_M) (h : M.1.cls = "TreePasses$Program") : q_fl M 36 2 6 := by
  unfold q_fl
  rw [h]
  exact ⟨(RX2, TX2, 7), rfl, by decide, Or.inl w_65⟩
theorem f_TreePasses_Program_9 (M : q_M) (h : M.1.cls = "TreePasses$Program") : q_fl M 9 2 0 := by
  unfold q_fl
  rw [h]
  exact ⟨(RX2, TX2, 7), rfl, by decide, Or.inl w_59⟩
theorem f_TreePasses_Scroll_21 (M : q_M) (h : M.1.cls = "TreePasses$Scroll") : q_fl M 21 3 1 := by
  unfold q_fl
  rw [h]
  exact ⟨(RX3, TX3, 5), rfl, by decide, Or.inl w_36⟩
theorem f_TreePasses_Scroll_25 (M : q_M) (h : M.1.cls = "TreePasses$Scroll") : q_fl M 25 3 2 := by
  unfold q_fl
  rw [h]
  exact ⟨(RX3, TX3, 5), rfl, by decide, Or.inl w_37⟩
theorem f_TreePasses_Scroll_37 (M : q_M) (h : M.1.cls = "TreePasses$Scroll") : q_fl M 37 3 3 := by
  unfold q_fl
  rw [h]
  exact ⟨(RX3, TX3, 5), rfl, by decide, Or.inl w_38⟩
theorem f_TreePasses_Scroll_48 (M : q_M) (h : M.1.cls = "TreePasses$Scroll") : q_fl M 48 3 4 := by
  unfold q_fl
  rw [h]
  exact ⟨(RX3, TX3, 5), rfl, by decide, Or.inl w_39⟩
theorem f_TreePasses_Scroll_72 (M : q_M) (h : M.1.cls = "TreePasses$Scroll") : q_fl M 72 2 6 := by
  unfold q_fl
  rw [h]
  exact ⟨(RX2, TX2, 7), rfl, by decide, Or.inr ⟨_, w_67⟩⟩
theorem f_TreePasses_Scroll_9 (M : q_M) (h : M.1.cls = "TreePasses$Scroll") : q_fl M 9 3 0 := by
  unfold q_fl
  rw [h]
  exact ⟨(RX3, TX3, 5), rfl, by decide, Or.inl w_35⟩
theorem f_TreePasses_Shelf_15 (M : q_M) (h : M.1.cls = "TreePasses$Shelf") : q_fl M 15 4 0 := by
  unfold q_fl
  rw [h]
  exact ⟨(RX4, TX4, 3), rfl, by decide, Or.inl w_93⟩
theorem f_TreePasses_Shelf_22 (M : q_M) (h : M.1.cls = "TreePasses$Shelf") : q_fl M 22 4 2 := by
  unfold q_fl
  rw [h]
  exact ⟨(RX4, TX4, 3), rfl, by decide, Or.inl w_95⟩
theorem f_TreePasses_Shelf_30 (M : q_M) (h : M.1.cls = "TreePasses$Shelf") : q_fl M 30 4 1 := by
  unfold q_fl
  rw [h]
  exact ⟨(RX4, TX4, 3), rfl, by decide, Or.inl w_94⟩
theorem f_TreePasses_Standing_15 (M : q_M) (h : M.1.cls = "TreePasses$Standing") : q_fl M 15 5 1 := by
  unfold q_fl
  rw [h]
  exact ⟨(RX5, TX5, 4), rfl, by decide, Or.inl w_114⟩
theorem f_TreePasses_Standing_18 (M : q_M) (h : M.1.cls = "TreePasses$Standing") : q_fl M 18 5 2 := by
  unfold q_fl
  rw [h]
  exact ⟨(RX5, TX5, 4), rfl, by decide, Or.inl w_115⟩
theorem f_TreePasses_Standing_33 (M : q_M) (h : M.1.cls = "TreePasses$Standing") : q_fl M 33 5 3 := by
  unfold q_fl
  rw [h]
  exact ⟨(RX5, TX5, 4), rfl, by decide, Or.inl w_116⟩
theorem f_TreePasses_Standing_9 (M : q_M) (h : M.1.cls = "TreePasses$Standing") : q_fl M 9 5 0 := by
  unfold q_fl
  rw [h]
  exact ⟨(RX5, TX5, 4), rfl, by decide, Or.inl w_113⟩
theorem f_TreePasses_Unmade_12 (M : q_M) (h : M.1.cls = "TreePasses$Unmade") : q_fl M 12 6 0 := by
  unfold q_fl
  rw [h]
  exact ⟨(RX6, TX6, 1), rfl, by decide, Or.inl w_134⟩
theorem f_TreePasses_Walk_15 (M : q_M) (h : M.1.cls = "TreePasses$Walk") : q_fl M 15 7 1 := by
  unfold q_fl
  rw [h]
  exact ⟨(RX7, TX7, 7), rfl, by decide, Or.inl w_146⟩
theorem f_TreePasses_Walk_18 (M : q_M) (h : M.1.cls = "TreePasses$Walk") : q_fl M 18 7 2 := by
  unfold q_fl
  rw [h]
  exact ⟨(RX7, TX7, 7), rfl, by decide, Or.inl w_147⟩
theorem f_TreePasses_Walk_21 (M : q_M) (h : M.1.cls = "TreePasses$Walk") : q_fl M 21 7 3 := by
  unfold q_fl
  rw [h]
  exact ⟨(RX7, TX7, 7), rfl, by decide, Or.inl w_148⟩
theorem f_TreePasses_Walk_24 (M : q_M) (h : M.1.cls = "TreePasses$Walk") : q_fl M 24 7 4 := by
  unfold q_fl
  rw [h]
  exact ⟨(RX7, TX7, 7), rfl, by decide, Or.inl w_149⟩
theorem f_TreePasses_Walk_33 (M : q_M) (h : M.1.cls = "TreePasses$Walk") : q_fl M 33 7 5 := by
  unfold q_fl
  rw [h]
  exact ⟨(RX7, TX7, 7), rfl, by decide, Or.inl w_150⟩
theorem f_TreePasses_Walk_37 (M : q_M) (h : M.1.cls = "TreePasses$Walk") : q_fl M 37 7 6 := by
  unfold q_fl
  rw [h]
  exact ⟨(RX7, TX7, 7), rfl, by decide, Or.inl w_152⟩
theorem f_TreePasses_Walk_9 (M : q_M) (h : M.1.cls = "TreePasses$Walk") : q_fl M 9 7 0 := by
  unfold q_fl
  rw [h]
  exact ⟨(RX7, TX7, 7), rfl, by decide, Or.inl w_144⟩
