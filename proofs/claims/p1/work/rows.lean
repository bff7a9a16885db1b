section
-- ===== PART A: goes FIRST, ahead of the names: the tables' words, and 'selects' of the private methods out of them =====
/-- a private method of a class that the tables say can be made, by its rows of tables_1 -/
def lw_okq (q : MethodName × Nat) : Prop := (q.1.cls ≠ "java/lang/invoke/MethodHandle" ∧ q.1.cls ≠ "java/lang/invoke/VarHandle") ∧ Cond.instantiable q.1.cls q.2 ∈ tables_1 ∧ Cond.privateMethod q.1 ∈ tables_1 ∧ Cond.instanceMethod q.1 ∈ tables_1
theorem lw_p0 : lw_okq (⟨"TreePasses$Scroll", "begin", "()V"⟩, 5) := ⟨⟨by decide +kernel, by decide +kernel⟩, List.mem_of_getElem? (i := 27) (by decide +kernel), List.mem_of_getElem? (i := 288) (by decide +kernel), List.mem_of_getElem? (i := 289) (by decide +kernel)⟩
theorem lw_p1 : lw_okq (⟨"TreePasses$Scroll", "readItem", "(LTreePasses$Program;)V"⟩, 5) := ⟨⟨by decide +kernel, by decide +kernel⟩, List.mem_of_getElem? (i := 27) (by decide +kernel), List.mem_of_getElem? (i := 292) (by decide +kernel), List.mem_of_getElem? (i := 293) (by decide +kernel)⟩
theorem lw_p2 : lw_okq (⟨"TreePasses$Scroll", "next", "()I"⟩, 5) := ⟨⟨by decide +kernel, by decide +kernel⟩, List.mem_of_getElem? (i := 27) (by decide +kernel), List.mem_of_getElem? (i := 296) (by decide +kernel), List.mem_of_getElem? (i := 297) (by decide +kernel)⟩
theorem lw_p3 : lw_okq (⟨"TreePasses$Scroll", "readTree", "(LTreePasses$Program;)V"⟩, 5) := ⟨⟨by decide +kernel, by decide +kernel⟩, List.mem_of_getElem? (i := 27) (by decide +kernel), List.mem_of_getElem? (i := 300) (by decide +kernel), List.mem_of_getElem? (i := 301) (by decide +kernel)⟩
theorem lw_p4 : lw_okq (⟨"TreePasses$Scroll", "figure", "(I)I"⟩, 5) := ⟨⟨by decide +kernel, by decide +kernel⟩, List.mem_of_getElem? (i := 27) (by decide +kernel), List.mem_of_getElem? (i := 304) (by decide +kernel), List.mem_of_getElem? (i := 305) (by decide +kernel)⟩
theorem lw_p5 : lw_okq (⟨"TreePasses$Scroll", "expect", "(C)V"⟩, 5) := ⟨⟨by decide +kernel, by decide +kernel⟩, List.mem_of_getElem? (i := 27) (by decide +kernel), List.mem_of_getElem? (i := 311) (by decide +kernel), List.mem_of_getElem? (i := 312) (by decide +kernel)⟩
theorem lw_p6 : lw_okq (⟨"TreePasses$Scroll", "readRow", "([IIII)I"⟩, 5) := ⟨⟨by decide +kernel, by decide +kernel⟩, List.mem_of_getElem? (i := 27) (by decide +kernel), List.mem_of_getElem? (i := 315) (by decide +kernel), List.mem_of_getElem? (i := 316) (by decide +kernel)⟩
theorem lw_p7 : lw_okq (⟨"TreePasses$Scroll", "readPiece", "(II)I"⟩, 5) := ⟨⟨by decide +kernel, by decide +kernel⟩, List.mem_of_getElem? (i := 27) (by decide +kernel), List.mem_of_getElem? (i := 319) (by decide +kernel), List.mem_of_getElem? (i := 320) (by decide +kernel)⟩
theorem lw_p8 : lw_okq (⟨"TreePasses$Scroll", "callSign", "(I)I"⟩, 5) := ⟨⟨by decide +kernel, by decide +kernel⟩, List.mem_of_getElem? (i := 27) (by decide +kernel), List.mem_of_getElem? (i := 328) (by decide +kernel), List.mem_of_getElem? (i := 329) (by decide +kernel)⟩
theorem lw_p9 : lw_okq (⟨"TreePasses$Scroll", "readKind", "(LTreePasses$Program;)V"⟩, 5) := ⟨⟨by decide +kernel, by decide +kernel⟩, List.mem_of_getElem? (i := 27) (by decide +kernel), List.mem_of_getElem? (i := 340) (by decide +kernel), List.mem_of_getElem? (i := 341) (by decide +kernel)⟩
theorem lw_p10 : lw_okq (⟨"TreePasses$Scroll", "readEntries", "(LTreePasses$Program;)V"⟩, 5) := ⟨⟨by decide +kernel, by decide +kernel⟩, List.mem_of_getElem? (i := 27) (by decide +kernel), List.mem_of_getElem? (i := 348) (by decide +kernel), List.mem_of_getElem? (i := 349) (by decide +kernel)⟩
theorem lw_p11 : lw_okq (⟨"TreePasses$Scroll", "letter", "()I"⟩, 5) := ⟨⟨by decide +kernel, by decide +kernel⟩, List.mem_of_getElem? (i := 27) (by decide +kernel), List.mem_of_getElem? (i := 352) (by decide +kernel), List.mem_of_getElem? (i := 353) (by decide +kernel)⟩
theorem lw_p12 : lw_okq (⟨"TreePasses$Scroll", "readRule", "([I)V"⟩, 5) := ⟨⟨by decide +kernel, by decide +kernel⟩, List.mem_of_getElem? (i := 27) (by decide +kernel), List.mem_of_getElem? (i := 365) (by decide +kernel), List.mem_of_getElem? (i := 366) (by decide +kernel)⟩
theorem lw_p13 : lw_okq (⟨"TreePasses$Scroll", "sight", "()I"⟩, 5) := ⟨⟨by decide +kernel, by decide +kernel⟩, List.mem_of_getElem? (i := 27) (by decide +kernel), List.mem_of_getElem? (i := 369) (by decide +kernel), List.mem_of_getElem? (i := 370) (by decide +kernel)⟩
theorem lw_p14 : lw_okq (⟨"TreePasses$Program", "offerRule", "(II)V"⟩, 7) := ⟨⟨by decide +kernel, by decide +kernel⟩, List.mem_of_getElem? (i := 54) (by decide +kernel), List.mem_of_getElem? (i := 385) (by decide +kernel), List.mem_of_getElem? (i := 386) (by decide +kernel)⟩
theorem lw_p15 : lw_okq (⟨"TreePasses", "forgetCensus", "()V"⟩, 12) := ⟨⟨by decide +kernel, by decide +kernel⟩, List.mem_of_getElem? (i := 19) (by decide +kernel), List.mem_of_getElem? (i := 466) (by decide +kernel), List.mem_of_getElem? (i := 467) (by decide +kernel)⟩
def lw_privs_1 : List (MethodName × Nat) := [(⟨"TreePasses$Scroll", "begin", "()V"⟩, 5), (⟨"TreePasses$Scroll", "readItem", "(LTreePasses$Program;)V"⟩, 5), (⟨"TreePasses$Scroll", "next", "()I"⟩, 5), (⟨"TreePasses$Scroll", "readTree", "(LTreePasses$Program;)V"⟩, 5), (⟨"TreePasses$Scroll", "figure", "(I)I"⟩, 5), (⟨"TreePasses$Scroll", "expect", "(C)V"⟩, 5), (⟨"TreePasses$Scroll", "readRow", "([IIII)I"⟩, 5), (⟨"TreePasses$Scroll", "readPiece", "(II)I"⟩, 5), (⟨"TreePasses$Scroll", "callSign", "(I)I"⟩, 5), (⟨"TreePasses$Scroll", "readKind", "(LTreePasses$Program;)V"⟩, 5), (⟨"TreePasses$Scroll", "readEntries", "(LTreePasses$Program;)V"⟩, 5), (⟨"TreePasses$Scroll", "letter", "()I"⟩, 5), (⟨"TreePasses$Scroll", "readRule", "([I)V"⟩, 5), (⟨"TreePasses$Scroll", "sight", "()I"⟩, 5), (⟨"TreePasses$Program", "offerRule", "(II)V"⟩, 7), (⟨"TreePasses", "forgetCensus", "()V"⟩, 12)]
theorem lw_r1 : ∀ q ∈ lw_privs_1, lw_okq q := List.forall_mem_cons.mpr ⟨lw_p0, List.forall_mem_cons.mpr ⟨lw_p1, List.forall_mem_cons.mpr ⟨lw_p2, List.forall_mem_cons.mpr ⟨lw_p3, List.forall_mem_cons.mpr ⟨lw_p4, List.forall_mem_cons.mpr ⟨lw_p5, List.forall_mem_cons.mpr ⟨lw_p6, List.forall_mem_cons.mpr ⟨lw_p7, List.forall_mem_cons.mpr ⟨lw_p8, List.forall_mem_cons.mpr ⟨lw_p9, List.forall_mem_cons.mpr ⟨lw_p10, List.forall_mem_cons.mpr ⟨lw_p11, List.forall_mem_cons.mpr ⟨lw_p12, List.forall_mem_cons.mpr ⟨lw_p13, List.forall_mem_cons.mpr ⟨lw_p14, List.forall_mem_cons.mpr ⟨lw_p15, fun _ h => absurd h List.not_mem_nil⟩⟩⟩⟩⟩⟩⟩⟩⟩⟩⟩⟩⟩⟩⟩⟩
theorem lw_p16 : lw_okq (⟨"TreePasses$Standing", "weigh", "(LTreePasses$Program;I)V"⟩, 4) := ⟨⟨by decide +kernel, by decide +kernel⟩, List.mem_of_getElem? (i := 105) (by decide +kernel), List.mem_of_getElem? (i := 504) (by decide +kernel), List.mem_of_getElem? (i := 505) (by decide +kernel)⟩
theorem lw_p17 : lw_okq (⟨"TreePasses$Shelf", "placeOf", "(I)I"⟩, 3) := ⟨⟨by decide +kernel, by decide +kernel⟩, List.mem_of_getElem? (i := 84) (by decide +kernel), List.mem_of_getElem? (i := 553) (by decide +kernel), List.mem_of_getElem? (i := 554) (by decide +kernel)⟩
theorem lw_p18 : lw_okq (⟨"TreePasses", "changed", "()V"⟩, 12) := ⟨⟨by decide +kernel, by decide +kernel⟩, List.mem_of_getElem? (i := 19) (by decide +kernel), List.mem_of_getElem? (i := 560) (by decide +kernel), List.mem_of_getElem? (i := 561) (by decide +kernel)⟩
theorem lw_p19 : lw_okq (⟨"TreePasses$Unmade", "make", "(LTreePasses$Program;II)I"⟩, 1) := ⟨⟨by decide +kernel, by decide +kernel⟩, List.mem_of_getElem? (i := 127) (by decide +kernel), List.mem_of_getElem? (i := 630) (by decide +kernel), List.mem_of_getElem? (i := 631) (by decide +kernel)⟩
theorem lw_p20 : lw_okq (⟨"TreePasses$Walk", "come", "(LTreePasses$Program;LTreePasses$Ground;III)I"⟩, 7) := ⟨⟨by decide +kernel, by decide +kernel⟩, List.mem_of_getElem? (i := 139) (by decide +kernel), List.mem_of_getElem? (i := 659) (by decide +kernel), List.mem_of_getElem? (i := 660) (by decide +kernel)⟩
theorem lw_p21 : lw_okq (⟨"TreePasses$Walk", "step", "(LTreePasses$Program;LTreePasses$Ground;I)I"⟩, 7) := ⟨⟨by decide +kernel, by decide +kernel⟩, List.mem_of_getElem? (i := 139) (by decide +kernel), List.mem_of_getElem? (i := 695) (by decide +kernel), List.mem_of_getElem? (i := 696) (by decide +kernel)⟩
theorem lw_p22 : lw_okq (⟨"TreePasses$Walk", "append", "(I)I"⟩, 7) := ⟨⟨by decide +kernel, by decide +kernel⟩, List.mem_of_getElem? (i := 139) (by decide +kernel), List.mem_of_getElem? (i := 700) (by decide +kernel), List.mem_of_getElem? (i := 701) (by decide +kernel)⟩
theorem lw_p23 : lw_okq (⟨"TreePasses", "letterMade", "(II)I"⟩, 12) := ⟨⟨by decide +kernel, by decide +kernel⟩, List.mem_of_getElem? (i := 19) (by decide +kernel), List.mem_of_getElem? (i := 718) (by decide +kernel), List.mem_of_getElem? (i := 719) (by decide +kernel)⟩
theorem lw_p24 : lw_okq (⟨"TreePasses$Program", "callsFor", "(II)I"⟩, 7) := ⟨⟨by decide +kernel, by decide +kernel⟩, List.mem_of_getElem? (i := 54) (by decide +kernel), List.mem_of_getElem? (i := 753) (by decide +kernel), List.mem_of_getElem? (i := 754) (by decide +kernel)⟩
theorem lw_p25 : lw_okq (⟨"TreePasses", "censusOf", "(I)LTreePasses$Census;"⟩, 12) := ⟨⟨by decide +kernel, by decide +kernel⟩, List.mem_of_getElem? (i := 19) (by decide +kernel), List.mem_of_getElem? (i := 774) (by decide +kernel), List.mem_of_getElem? (i := 775) (by decide +kernel)⟩
theorem lw_p26 : lw_okq (⟨"TreePasses$Census", "begin", "(LTreePasses$Program;)V"⟩, 15) := ⟨⟨by decide +kernel, by decide +kernel⟩, List.mem_of_getElem? (i := 169) (by decide +kernel), List.mem_of_getElem? (i := 782) (by decide +kernel), List.mem_of_getElem? (i := 783) (by decide +kernel)⟩
theorem lw_p27 : lw_okq (⟨"TreePasses$Census", "workOut", "(LTreePasses$Program;I)V"⟩, 15) := ⟨⟨by decide +kernel, by decide +kernel⟩, List.mem_of_getElem? (i := 169) (by decide +kernel), List.mem_of_getElem? (i := 789) (by decide +kernel), List.mem_of_getElem? (i := 790) (by decide +kernel)⟩
theorem lw_p28 : lw_okq (⟨"TreePasses$Census", "typeAbove", "(LTreePasses$Program;II)J"⟩, 15) := ⟨⟨by decide +kernel, by decide +kernel⟩, List.mem_of_getElem? (i := 169) (by decide +kernel), List.mem_of_getElem? (i := 799) (by decide +kernel), List.mem_of_getElem? (i := 800) (by decide +kernel)⟩
theorem lw_p29 : lw_okq (⟨"TreePasses$Census", "offer", "(LTreePasses$Program;III)V"⟩, 15) := ⟨⟨by decide +kernel, by decide +kernel⟩, List.mem_of_getElem? (i := 169) (by decide +kernel), List.mem_of_getElem? (i := 807) (by decide +kernel), List.mem_of_getElem? (i := 808) (by decide +kernel)⟩
theorem lw_p30 : lw_okq (⟨"TreePasses$Census", "profileOf", "(LTreePasses$Program;III)I"⟩, 15) := ⟨⟨by decide +kernel, by decide +kernel⟩, List.mem_of_getElem? (i := 169) (by decide +kernel), List.mem_of_getElem? (i := 811) (by decide +kernel), List.mem_of_getElem? (i := 812) (by decide +kernel)⟩
theorem lw_p31 : lw_okq (⟨"TreePasses$Census", "isBefore", "(IIIII)Z"⟩, 15) := ⟨⟨by decide +kernel, by decide +kernel⟩, List.mem_of_getElem? (i := 169) (by decide +kernel), List.mem_of_getElem? (i := 820) (by decide +kernel), List.mem_of_getElem? (i := 821) (by decide +kernel)⟩
def lw_privs_2 : List (MethodName × Nat) := [(⟨"TreePasses$Standing", "weigh", "(LTreePasses$Program;I)V"⟩, 4), (⟨"TreePasses$Shelf", "placeOf", "(I)I"⟩, 3), (⟨"TreePasses", "changed", "()V"⟩, 12), (⟨"TreePasses$Unmade", "make", "(LTreePasses$Program;II)I"⟩, 1), (⟨"TreePasses$Walk", "come", "(LTreePasses$Program;LTreePasses$Ground;III)I"⟩, 7), (⟨"TreePasses$Walk", "step", "(LTreePasses$Program;LTreePasses$Ground;I)I"⟩, 7), (⟨"TreePasses$Walk", "append", "(I)I"⟩, 7), (⟨"TreePasses", "letterMade", "(II)I"⟩, 12), (⟨"TreePasses$Program", "callsFor", "(II)I"⟩, 7), (⟨"TreePasses", "censusOf", "(I)LTreePasses$Census;"⟩, 12), (⟨"TreePasses$Census", "begin", "(LTreePasses$Program;)V"⟩, 15), (⟨"TreePasses$Census", "workOut", "(LTreePasses$Program;I)V"⟩, 15), (⟨"TreePasses$Census", "typeAbove", "(LTreePasses$Program;II)J"⟩, 15), (⟨"TreePasses$Census", "offer", "(LTreePasses$Program;III)V"⟩, 15), (⟨"TreePasses$Census", "profileOf", "(LTreePasses$Program;III)I"⟩, 15), (⟨"TreePasses$Census", "isBefore", "(IIIII)Z"⟩, 15)]
theorem lw_r2 : ∀ q ∈ lw_privs_2, lw_okq q := List.forall_mem_cons.mpr ⟨lw_p16, List.forall_mem_cons.mpr ⟨lw_p17, List.forall_mem_cons.mpr ⟨lw_p18, List.forall_mem_cons.mpr ⟨lw_p19, List.forall_mem_cons.mpr ⟨lw_p20, List.forall_mem_cons.mpr ⟨lw_p21, List.forall_mem_cons.mpr ⟨lw_p22, List.forall_mem_cons.mpr ⟨lw_p23, List.forall_mem_cons.mpr ⟨lw_p24, List.forall_mem_cons.mpr ⟨lw_p25, List.forall_mem_cons.mpr ⟨lw_p26, List.forall_mem_cons.mpr ⟨lw_p27, List.forall_mem_cons.mpr ⟨lw_p28, List.forall_mem_cons.mpr ⟨lw_p29, List.forall_mem_cons.mpr ⟨lw_p30, List.forall_mem_cons.mpr ⟨lw_p31, fun _ h => absurd h List.not_mem_nil⟩⟩⟩⟩⟩⟩⟩⟩⟩⟩⟩⟩⟩⟩⟩⟩
theorem lw_p32 : lw_okq (⟨"TreePasses$Census", "precedes", "(II)Z"⟩, 15) := ⟨⟨by decide +kernel, by decide +kernel⟩, List.mem_of_getElem? (i := 169) (by decide +kernel), List.mem_of_getElem? (i := 824) (by decide +kernel), List.mem_of_getElem? (i := 825) (by decide +kernel)⟩
theorem lw_p33 : lw_okq (⟨"TreePasses$Census", "nearest", "()I"⟩, 15) := ⟨⟨by decide +kernel, by decide +kernel⟩, List.mem_of_getElem? (i := 169) (by decide +kernel), List.mem_of_getElem? (i := 828) (by decide +kernel), List.mem_of_getElem? (i := 829) (by decide +kernel)⟩
theorem lw_p34 : lw_okq (⟨"TreePasses$Census", "settle", "(II)V"⟩, 15) := ⟨⟨by decide +kernel, by decide +kernel⟩, List.mem_of_getElem? (i := 169) (by decide +kernel), List.mem_of_getElem? (i := 832) (by decide +kernel), List.mem_of_getElem? (i := 833) (by decide +kernel)⟩
theorem lw_p35 : lw_okq (⟨"TreePasses", "firstLeast", "(IIII)I"⟩, 12) := ⟨⟨by decide +kernel, by decide +kernel⟩, List.mem_of_getElem? (i := 19) (by decide +kernel), List.mem_of_getElem? (i := 852) (by decide +kernel), List.mem_of_getElem? (i := 853) (by decide +kernel)⟩
theorem lw_p36 : lw_okq (⟨"TreePassesModel", "readNone", "()V"⟩, 33) := ⟨⟨by decide +kernel, by decide +kernel⟩, List.mem_of_getElem? (i := 880) (by decide +kernel), List.mem_of_getElem? (i := 886) (by decide +kernel), List.mem_of_getElem? (i := 887) (by decide +kernel)⟩
theorem lw_p37 : lw_okq (⟨"TreePassesModel", "treeIs", "(IIIIIIII)V"⟩, 33) := ⟨⟨by decide +kernel, by decide +kernel⟩, List.mem_of_getElem? (i := 880) (by decide +kernel), List.mem_of_getElem? (i := 890) (by decide +kernel), List.mem_of_getElem? (i := 891) (by decide +kernel)⟩
theorem lw_p38 : lw_okq (⟨"TreePassesModel", "ruleIs", "(IIIIIIII)V"⟩, 33) := ⟨⟨by decide +kernel, by decide +kernel⟩, List.mem_of_getElem? (i := 880) (by decide +kernel), List.mem_of_getElem? (i := 897) (by decide +kernel), List.mem_of_getElem? (i := 898) (by decide +kernel)⟩
theorem lw_p39 : lw_okq (⟨"TreePassesModel", "begin", "()V"⟩, 33) := ⟨⟨by decide +kernel, by decide +kernel⟩, List.mem_of_getElem? (i := 880) (by decide +kernel), List.mem_of_getElem? (i := 901) (by decide +kernel), List.mem_of_getElem? (i := 902) (by decide +kernel)⟩
theorem lw_p40 : lw_okq (⟨"TreePassesModel", "readAll", "()I"⟩, 33) := ⟨⟨by decide +kernel, by decide +kernel⟩, List.mem_of_getElem? (i := 880) (by decide +kernel), List.mem_of_getElem? (i := 1022) (by decide +kernel), List.mem_of_getElem? (i := 1023) (by decide +kernel)⟩
theorem lw_p41 : lw_okq (⟨"TreePassesModel", "item", "()Z"⟩, 33) := ⟨⟨by decide +kernel, by decide +kernel⟩, List.mem_of_getElem? (i := 880) (by decide +kernel), List.mem_of_getElem? (i := 1026) (by decide +kernel), List.mem_of_getElem? (i := 1027) (by decide +kernel)⟩
theorem lw_p42 : lw_okq (⟨"TreePassesModel", "letterAt", "(I)I"⟩, 33) := ⟨⟨by decide +kernel, by decide +kernel⟩, List.mem_of_getElem? (i := 880) (by decide +kernel), List.mem_of_getElem? (i := 1030) (by decide +kernel), List.mem_of_getElem? (i := 1031) (by decide +kernel)⟩
theorem lw_p43 : lw_okq (⟨"TreePassesModel", "treeItem", "()Z"⟩, 33) := ⟨⟨by decide +kernel, by decide +kernel⟩, List.mem_of_getElem? (i := 880) (by decide +kernel), List.mem_of_getElem? (i := 1034) (by decide +kernel), List.mem_of_getElem? (i := 1035) (by decide +kernel)⟩
theorem lw_p44 : lw_okq (⟨"TreePassesModel", "take", "(II)I"⟩, 33) := ⟨⟨by decide +kernel, by decide +kernel⟩, List.mem_of_getElem? (i := 880) (by decide +kernel), List.mem_of_getElem? (i := 1038) (by decide +kernel), List.mem_of_getElem? (i := 1039) (by decide +kernel)⟩
theorem lw_p45 : lw_okq (⟨"TreePassesModel", "kindItem", "()Z"⟩, 33) := ⟨⟨by decide +kernel, by decide +kernel⟩, List.mem_of_getElem? (i := 880) (by decide +kernel), List.mem_of_getElem? (i := 1045) (by decide +kernel), List.mem_of_getElem? (i := 1046) (by decide +kernel)⟩
theorem lw_p46 : lw_okq (⟨"TreePassesModel", "tableItem", "()Z"⟩, 33) := ⟨⟨by decide +kernel, by decide +kernel⟩, List.mem_of_getElem? (i := 880) (by decide +kernel), List.mem_of_getElem? (i := 1049) (by decide +kernel), List.mem_of_getElem? (i := 1050) (by decide +kernel)⟩
theorem lw_p47 : lw_okq (⟨"TreePassesModel", "ruleItem", "()Z"⟩, 33) := ⟨⟨by decide +kernel, by decide +kernel⟩, List.mem_of_getElem? (i := 880) (by decide +kernel), List.mem_of_getElem? (i := 1053) (by decide +kernel), List.mem_of_getElem? (i := 1054) (by decide +kernel)⟩
def lw_privs_3 : List (MethodName × Nat) := [(⟨"TreePasses$Census", "precedes", "(II)Z"⟩, 15), (⟨"TreePasses$Census", "nearest", "()I"⟩, 15), (⟨"TreePasses$Census", "settle", "(II)V"⟩, 15), (⟨"TreePasses", "firstLeast", "(IIII)I"⟩, 12), (⟨"TreePassesModel", "readNone", "()V"⟩, 33), (⟨"TreePassesModel", "treeIs", "(IIIIIIII)V"⟩, 33), (⟨"TreePassesModel", "ruleIs", "(IIIIIIII)V"⟩, 33), (⟨"TreePassesModel", "begin", "()V"⟩, 33), (⟨"TreePassesModel", "readAll", "()I"⟩, 33), (⟨"TreePassesModel", "item", "()Z"⟩, 33), (⟨"TreePassesModel", "letterAt", "(I)I"⟩, 33), (⟨"TreePassesModel", "treeItem", "()Z"⟩, 33), (⟨"TreePassesModel", "take", "(II)I"⟩, 33), (⟨"TreePassesModel", "kindItem", "()Z"⟩, 33), (⟨"TreePassesModel", "tableItem", "()Z"⟩, 33), (⟨"TreePassesModel", "ruleItem", "()Z"⟩, 33)]
theorem lw_r3 : ∀ q ∈ lw_privs_3, lw_okq q := List.forall_mem_cons.mpr ⟨lw_p32, List.forall_mem_cons.mpr ⟨lw_p33, List.forall_mem_cons.mpr ⟨lw_p34, List.forall_mem_cons.mpr ⟨lw_p35, List.forall_mem_cons.mpr ⟨lw_p36, List.forall_mem_cons.mpr ⟨lw_p37, List.forall_mem_cons.mpr ⟨lw_p38, List.forall_mem_cons.mpr ⟨lw_p39, List.forall_mem_cons.mpr ⟨lw_p40, List.forall_mem_cons.mpr ⟨lw_p41, List.forall_mem_cons.mpr ⟨lw_p42, List.forall_mem_cons.mpr ⟨lw_p43, List.forall_mem_cons.mpr ⟨lw_p44, List.forall_mem_cons.mpr ⟨lw_p45, List.forall_mem_cons.mpr ⟨lw_p46, List.forall_mem_cons.mpr ⟨lw_p47, fun _ h => absurd h List.not_mem_nil⟩⟩⟩⟩⟩⟩⟩⟩⟩⟩⟩⟩⟩⟩⟩⟩
theorem lw_p48 : lw_okq (⟨"TreePassesModel", "isRuleTold", "()Z"⟩, 33) := ⟨⟨by decide +kernel, by decide +kernel⟩, List.mem_of_getElem? (i := 880) (by decide +kernel), List.mem_of_getElem? (i := 1057) (by decide +kernel), List.mem_of_getElem? (i := 1058) (by decide +kernel)⟩
theorem lw_p49 : lw_okq (⟨"TreePassesModel", "isNode", "(II)Z"⟩, 33) := ⟨⟨by decide +kernel, by decide +kernel⟩, List.mem_of_getElem? (i := 880) (by decide +kernel), List.mem_of_getElem? (i := 1080) (by decide +kernel), List.mem_of_getElem? (i := 1081) (by decide +kernel)⟩
theorem lw_p50 : lw_okq (⟨"TreePassesModel", "groundIs", "(II)V"⟩, 33) := ⟨⟨by decide +kernel, by decide +kernel⟩, List.mem_of_getElem? (i := 880) (by decide +kernel), List.mem_of_getElem? (i := 1084) (by decide +kernel), List.mem_of_getElem? (i := 1085) (by decide +kernel)⟩
theorem lw_p51 : lw_okq (⟨"TreePassesModel", "measure", "(I)V"⟩, 33) := ⟨⟨by decide +kernel, by decide +kernel⟩, List.mem_of_getElem? (i := 880) (by decide +kernel), List.mem_of_getElem? (i := 1088) (by decide +kernel), List.mem_of_getElem? (i := 1089) (by decide +kernel)⟩
theorem lw_p52 : lw_okq (⟨"TreePassesModel", "isRule", "(I)Z"⟩, 33) := ⟨⟨by decide +kernel, by decide +kernel⟩, List.mem_of_getElem? (i := 880) (by decide +kernel), List.mem_of_getElem? (i := 1101) (by decide +kernel), List.mem_of_getElem? (i := 1102) (by decide +kernel)⟩
theorem lw_p53 : lw_okq (⟨"TreePassesModel", "ruleAt", "(II)I"⟩, 33) := ⟨⟨by decide +kernel, by decide +kernel⟩, List.mem_of_getElem? (i := 880) (by decide +kernel), List.mem_of_getElem? (i := 1105) (by decide +kernel), List.mem_of_getElem? (i := 1106) (by decide +kernel)⟩
theorem lw_p54 : lw_okq (⟨"TreePassesModel", "note", "()V"⟩, 33) := ⟨⟨by decide +kernel, by decide +kernel⟩, List.mem_of_getElem? (i := 880) (by decide +kernel), List.mem_of_getElem? (i := 1117) (by decide +kernel), List.mem_of_getElem? (i := 1118) (by decide +kernel)⟩
theorem lw_p55 : lw_okq (⟨"TreePassesModel", "putRule", "(I)V"⟩, 33) := ⟨⟨by decide +kernel, by decide +kernel⟩, List.mem_of_getElem? (i := 880) (by decide +kernel), List.mem_of_getElem? (i := 1121) (by decide +kernel), List.mem_of_getElem? (i := 1122) (by decide +kernel)⟩
theorem lw_p56 : lw_okq (⟨"TreePassesModel", "moveRules", "(II)V"⟩, 33) := ⟨⟨by decide +kernel, by decide +kernel⟩, List.mem_of_getElem? (i := 880) (by decide +kernel), List.mem_of_getElem? (i := 1129) (by decide +kernel), List.mem_of_getElem? (i := 1130) (by decide +kernel)⟩
theorem lw_p57 : lw_okq (⟨"TreePassesModel", "go", "(II)I"⟩, 33) := ⟨⟨by decide +kernel, by decide +kernel⟩, List.mem_of_getElem? (i := 880) (by decide +kernel), List.mem_of_getElem? (i := 1159) (by decide +kernel), List.mem_of_getElem? (i := 1160) (by decide +kernel)⟩
theorem lw_p58 : lw_okq (⟨"TreePassesModel", "isCome", "(III)Z"⟩, 33) := ⟨⟨by decide +kernel, by decide +kernel⟩, List.mem_of_getElem? (i := 880) (by decide +kernel), List.mem_of_getElem? (i := 1163) (by decide +kernel), List.mem_of_getElem? (i := 1164) (by decide +kernel)⟩
theorem lw_p59 : lw_okq (⟨"TreePassesModel", "ruleFor", "(IIII)I"⟩, 33) := ⟨⟨by decide +kernel, by decide +kernel⟩, List.mem_of_getElem? (i := 880) (by decide +kernel), List.mem_of_getElem? (i := 1167) (by decide +kernel), List.mem_of_getElem? (i := 1168) (by decide +kernel)⟩
theorem lw_p60 : lw_okq (⟨"TreePassesModel", "isSecond", "(III)Z"⟩, 33) := ⟨⟨by decide +kernel, by decide +kernel⟩, List.mem_of_getElem? (i := 880) (by decide +kernel), List.mem_of_getElem? (i := 1171) (by decide +kernel), List.mem_of_getElem? (i := 1172) (by decide +kernel)⟩
theorem lw_p61 : lw_okq (⟨"TreePassesModel", "answer", "(III)I"⟩, 33) := ⟨⟨by decide +kernel, by decide +kernel⟩, List.mem_of_getElem? (i := 880) (by decide +kernel), List.mem_of_getElem? (i := 1175) (by decide +kernel), List.mem_of_getElem? (i := 1176) (by decide +kernel)⟩
theorem lw_p62 : lw_okq (⟨"TreePassesModel", "goAsOne", "()I"⟩, 33) := ⟨⟨by decide +kernel, by decide +kernel⟩, List.mem_of_getElem? (i := 880) (by decide +kernel), List.mem_of_getElem? (i := 1187) (by decide +kernel), List.mem_of_getElem? (i := 1188) (by decide +kernel)⟩
theorem lw_p63 : lw_okq (⟨"TreePassesModel", "isBegun", "(II)Z"⟩, 33) := ⟨⟨by decide +kernel, by decide +kernel⟩, List.mem_of_getElem? (i := 880) (by decide +kernel), List.mem_of_getElem? (i := 1191) (by decide +kernel), List.mem_of_getElem? (i := 1192) (by decide +kernel)⟩
def lw_privs_4 : List (MethodName × Nat) := [(⟨"TreePassesModel", "isRuleTold", "()Z"⟩, 33), (⟨"TreePassesModel", "isNode", "(II)Z"⟩, 33), (⟨"TreePassesModel", "groundIs", "(II)V"⟩, 33), (⟨"TreePassesModel", "measure", "(I)V"⟩, 33), (⟨"TreePassesModel", "isRule", "(I)Z"⟩, 33), (⟨"TreePassesModel", "ruleAt", "(II)I"⟩, 33), (⟨"TreePassesModel", "note", "()V"⟩, 33), (⟨"TreePassesModel", "putRule", "(I)V"⟩, 33), (⟨"TreePassesModel", "moveRules", "(II)V"⟩, 33), (⟨"TreePassesModel", "go", "(II)I"⟩, 33), (⟨"TreePassesModel", "isCome", "(III)Z"⟩, 33), (⟨"TreePassesModel", "ruleFor", "(IIII)I"⟩, 33), (⟨"TreePassesModel", "isSecond", "(III)Z"⟩, 33), (⟨"TreePassesModel", "answer", "(III)I"⟩, 33), (⟨"TreePassesModel", "goAsOne", "()I"⟩, 33), (⟨"TreePassesModel", "isBegun", "(II)Z"⟩, 33)]
theorem lw_r4 : ∀ q ∈ lw_privs_4, lw_okq q := List.forall_mem_cons.mpr ⟨lw_p48, List.forall_mem_cons.mpr ⟨lw_p49, List.forall_mem_cons.mpr ⟨lw_p50, List.forall_mem_cons.mpr ⟨lw_p51, List.forall_mem_cons.mpr ⟨lw_p52, List.forall_mem_cons.mpr ⟨lw_p53, List.forall_mem_cons.mpr ⟨lw_p54, List.forall_mem_cons.mpr ⟨lw_p55, List.forall_mem_cons.mpr ⟨lw_p56, List.forall_mem_cons.mpr ⟨lw_p57, List.forall_mem_cons.mpr ⟨lw_p58, List.forall_mem_cons.mpr ⟨lw_p59, List.forall_mem_cons.mpr ⟨lw_p60, List.forall_mem_cons.mpr ⟨lw_p61, List.forall_mem_cons.mpr ⟨lw_p62, List.forall_mem_cons.mpr ⟨lw_p63, fun _ h => absurd h List.not_mem_nil⟩⟩⟩⟩⟩⟩⟩⟩⟩⟩⟩⟩⟩⟩⟩⟩
theorem lw_p64 : lw_okq (⟨"TreePassesModel", "comesUpon", "(I)Z"⟩, 33) := ⟨⟨by decide +kernel, by decide +kernel⟩, List.mem_of_getElem? (i := 880) (by decide +kernel), List.mem_of_getElem? (i := 1195) (by decide +kernel), List.mem_of_getElem? (i := 1196) (by decide +kernel)⟩
theorem lw_p65 : lw_okq (⟨"TreePassesModel", "isMade", "()Z"⟩, 33) := ⟨⟨by decide +kernel, by decide +kernel⟩, List.mem_of_getElem? (i := 880) (by decide +kernel), List.mem_of_getElem? (i := 1199) (by decide +kernel), List.mem_of_getElem? (i := 1200) (by decide +kernel)⟩
theorem lw_p66 : lw_okq (⟨"TreePassesModel", "behindPart", "(II)I"⟩, 33) := ⟨⟨by decide +kernel, by decide +kernel⟩, List.mem_of_getElem? (i := 880) (by decide +kernel), List.mem_of_getElem? (i := 1203) (by decide +kernel), List.mem_of_getElem? (i := 1204) (by decide +kernel)⟩
theorem lw_p67 : lw_okq (⟨"TreePassesModel", "findComing", "(I)V"⟩, 33) := ⟨⟨by decide +kernel, by decide +kernel⟩, List.mem_of_getElem? (i := 880) (by decide +kernel), List.mem_of_getElem? (i := 1219) (by decide +kernel), List.mem_of_getElem? (i := 1220) (by decide +kernel)⟩
theorem lw_p68 : lw_okq (⟨"TreePassesModel", "mayBe", "(III)Z"⟩, 33) := ⟨⟨by decide +kernel, by decide +kernel⟩, List.mem_of_getElem? (i := 880) (by decide +kernel), List.mem_of_getElem? (i := 1223) (by decide +kernel), List.mem_of_getElem? (i := 1224) (by decide +kernel)⟩
theorem lw_p69 : lw_okq (⟨"TreePassesModel", "profileOf", "(IIII)I"⟩, 33) := ⟨⟨by decide +kernel, by decide +kernel⟩, List.mem_of_getElem? (i := 880) (by decide +kernel), List.mem_of_getElem? (i := 1227) (by decide +kernel), List.mem_of_getElem? (i := 1228) (by decide +kernel)⟩
theorem lw_p70 : lw_okq (⟨"TreePassesModel", "typeOf", "(IIII)I"⟩, 33) := ⟨⟨by decide +kernel, by decide +kernel⟩, List.mem_of_getElem? (i := 880) (by decide +kernel), List.mem_of_getElem? (i := 1231) (by decide +kernel), List.mem_of_getElem? (i := 1232) (by decide +kernel)⟩
theorem lw_p71 : lw_okq (⟨"TreePassesModel", "findLeast", "(I)V"⟩, 33) := ⟨⟨by decide +kernel, by decide +kernel⟩, List.mem_of_getElem? (i := 880) (by decide +kernel), List.mem_of_getElem? (i := 1243) (by decide +kernel), List.mem_of_getElem? (i := 1244) (by decide +kernel)⟩
theorem lw_p72 : lw_okq (⟨"TreePassesModel", "sizeOf", "(III)I"⟩, 33) := ⟨⟨by decide +kernel, by decide +kernel⟩, List.mem_of_getElem? (i := 880) (by decide +kernel), List.mem_of_getElem? (i := 1247) (by decide +kernel), List.mem_of_getElem? (i := 1248) (by decide +kernel)⟩
theorem lw_p73 : lw_okq (⟨"TreePassesModel", "build", "(III)I"⟩, 33) := ⟨⟨by decide +kernel, by decide +kernel⟩, List.mem_of_getElem? (i := 880) (by decide +kernel), List.mem_of_getElem? (i := 1251) (by decide +kernel), List.mem_of_getElem? (i := 1252) (by decide +kernel)⟩
theorem lw_p74 : lw_okq (⟨"TreePassesModel", "isFirst", "(II)Z"⟩, 33) := ⟨⟨by decide +kernel, by decide +kernel⟩, List.mem_of_getElem? (i := 880) (by decide +kernel), List.mem_of_getElem? (i := 1255) (by decide +kernel), List.mem_of_getElem? (i := 1256) (by decide +kernel)⟩
theorem lw_p75 : lw_okq (⟨"TreePassesModel", "firstWith", "(IIII)I"⟩, 33) := ⟨⟨by decide +kernel, by decide +kernel⟩, List.mem_of_getElem? (i := 880) (by decide +kernel), List.mem_of_getElem? (i := 1263) (by decide +kernel), List.mem_of_getElem? (i := 1264) (by decide +kernel)⟩
theorem lw_p76 : lw_okq (⟨"TreePassesModel", "isLess", "(II)Z"⟩, 33) := ⟨⟨by decide +kernel, by decide +kernel⟩, List.mem_of_getElem? (i := 880) (by decide +kernel), List.mem_of_getElem? (i := 1267) (by decide +kernel), List.mem_of_getElem? (i := 1268) (by decide +kernel)⟩
theorem lw_p77 : lw_okq (⟨"TreePassesModel", "rulesOf", "(I)I"⟩, 33) := ⟨⟨by decide +kernel, by decide +kernel⟩, List.mem_of_getElem? (i := 880) (by decide +kernel), List.mem_of_getElem? (i := 1287) (by decide +kernel), List.mem_of_getElem? (i := 1288) (by decide +kernel)⟩
def lw_privs_5 : List (MethodName × Nat) := [(⟨"TreePassesModel", "comesUpon", "(I)Z"⟩, 33), (⟨"TreePassesModel", "isMade", "()Z"⟩, 33), (⟨"TreePassesModel", "behindPart", "(II)I"⟩, 33), (⟨"TreePassesModel", "findComing", "(I)V"⟩, 33), (⟨"TreePassesModel", "mayBe", "(III)Z"⟩, 33), (⟨"TreePassesModel", "profileOf", "(IIII)I"⟩, 33), (⟨"TreePassesModel", "typeOf", "(IIII)I"⟩, 33), (⟨"TreePassesModel", "findLeast", "(I)V"⟩, 33), (⟨"TreePassesModel", "sizeOf", "(III)I"⟩, 33), (⟨"TreePassesModel", "build", "(III)I"⟩, 33), (⟨"TreePassesModel", "isFirst", "(II)Z"⟩, 33), (⟨"TreePassesModel", "firstWith", "(IIII)I"⟩, 33), (⟨"TreePassesModel", "isLess", "(II)Z"⟩, 33), (⟨"TreePassesModel", "rulesOf", "(I)I"⟩, 33)]
theorem lw_r5 : ∀ q ∈ lw_privs_5, lw_okq q := List.forall_mem_cons.mpr ⟨lw_p64, List.forall_mem_cons.mpr ⟨lw_p65, List.forall_mem_cons.mpr ⟨lw_p66, List.forall_mem_cons.mpr ⟨lw_p67, List.forall_mem_cons.mpr ⟨lw_p68, List.forall_mem_cons.mpr ⟨lw_p69, List.forall_mem_cons.mpr ⟨lw_p70, List.forall_mem_cons.mpr ⟨lw_p71, List.forall_mem_cons.mpr ⟨lw_p72, List.forall_mem_cons.mpr ⟨lw_p73, List.forall_mem_cons.mpr ⟨lw_p74, List.forall_mem_cons.mpr ⟨lw_p75, List.forall_mem_cons.mpr ⟨lw_p76, List.forall_mem_cons.mpr ⟨lw_p77, fun _ h => absurd h List.not_mem_nil⟩⟩⟩⟩⟩⟩⟩⟩⟩⟩⟩⟩⟩⟩
def lw_privs : List (MethodName × Nat) := lw_privs_1 ++ (lw_privs_2 ++ (lw_privs_3 ++ (lw_privs_4 ++ (lw_privs_5))))
def lw_tbl : List Cond := k2_sels lw_privs ++ tables_1
theorem lw_privs_ok : ∀ q ∈ lw_privs, lw_okq q := by
  show ∀ q ∈ lw_privs_1 ++ (lw_privs_2 ++ (lw_privs_3 ++ (lw_privs_4 ++ (lw_privs_5)))), lw_okq q
  exact List.forall_mem_append.mpr ⟨lw_r1, List.forall_mem_append.mpr ⟨lw_r2, List.forall_mem_append.mpr ⟨lw_r3, List.forall_mem_append.mpr ⟨lw_r4, lw_r5⟩⟩⟩⟩

def RX0 : String := "TreePasses$Census"
def TX0 : u_T := fun k => match k with
  | 0 => ("TreePasses$Census", "pass", "I", true)
  | 1 => ("TreePasses$Census", "heads", "[I", true)
  | 2 => ("TreePasses$Census", "lefts", "[I", true)
  | 3 => ("TreePasses$Census", "rights", "[I", true)
  | 4 => ("TreePasses$Census", "sizes", "[I", true)
  | 5 => ("TreePasses$Census", "order", "[I", true)
  | 6 => ("TreePasses$Census", "settled", "[Z", true)
  | 7 => ("TreePasses$Census", "ones", "[I", true)
  | 8 => ("TreePasses$Census", "lacks", "[I", true)
  | 9 => ("TreePasses$Census", "taken", "[I", true)
  | 10 => ("TreePasses$Census", "calls", "[I", true)
  | 11 => ("TreePasses$Census", "types", "[J", true)
  | 12 => ("TreePasses$Census", "stack", "[J", true)
  | 13 => ("TreePasses$Census", "met", "I", false)
  | _ => ("TreePasses$Census", "fresh", "Z", false)
def tyX0 : Nat → FieldType := fun k => match k with
  | 0 => .int
  | 1 => .array .int
  | 2 => .array .int
  | 3 => .array .int
  | 4 => .array .int
  | 5 => .array .int
  | 6 => .array .boolean
  | 7 => .array .int
  | 8 => .array .int
  | 9 => .array .int
  | 10 => .array .int
  | 11 => .array .long
  | 12 => .array .long
  | 13 => .int
  | _ => .boolean
abbrev wsX00 : List Cond := u_ws RX0 TX0 15
theorem nmX0 : ∀ a, a < 15 → ∀ b, b < 15 → a ≠ b → (TX0 a).2.1 ≠ (TX0 b).2.1 := by decide +kernel
theorem tyX0_ok : ∀ k, k < 15 → parseFieldDescriptor (TX0 k).2.2.1 = some (tyX0 k) := by decide +kernel
def RX1 : String := "TreePasses$Ground"
def TX1 : u_T := fun k => match k with
  | _ => ("", "", "", false)
def tyX1 : Nat → FieldType := fun k => match k with
  | _ => .int
abbrev wsX10 : List Cond := u_ws RX1 TX1 0
theorem nmX1 : ∀ a, a < 0 → ∀ b, b < 0 → a ≠ b → (TX1 a).2.1 ≠ (TX1 b).2.1 := by decide +kernel
theorem tyX1_ok : ∀ k, k < 0 → parseFieldDescriptor (TX1 k).2.2.1 = some (tyX1 k) := by decide +kernel
def RX2 : String := "TreePasses$Program"
def TX2 : u_T := fun k => match k with
  | 0 => ("TreePasses$Program", "letters", "[I", true)
  | 1 => ("TreePasses$Program", "sizes", "[I", true)
  | 2 => ("TreePasses$Program", "kinds", "[I", true)
  | 3 => ("TreePasses$Program", "entries", "[I", true)
  | 4 => ("TreePasses$Program", "rules", "[I", true)
  | 5 => ("TreePasses$Program", "chosen", "[I", true)
  | _ => ("TreePasses$Program", "ruled", "I", false)
def tyX2 : Nat → FieldType := fun k => match k with
  | 0 => .array .int
  | 1 => .array .int
  | 2 => .array .int
  | 3 => .array .int
  | 4 => .array .int
  | 5 => .array .int
  | _ => .int
abbrev wsX20 : List Cond := u_ws RX2 TX2 7
theorem nmX2 : ∀ a, a < 7 → ∀ b, b < 7 → a ≠ b → (TX2 a).2.1 ≠ (TX2 b).2.1 := by decide +kernel
theorem tyX2_ok : ∀ k, k < 7 → parseFieldDescriptor (TX2 k).2.2.1 = some (tyX2 k) := by decide +kernel
def RX3 : String := "TreePasses$Scroll"
def TX3 : u_T := fun k => match k with
  | 0 => ("TreePasses$Scroll", "text", "[C", true)
  | 1 => ("TreePasses$Scroll", "row", "[I", true)
  | 2 => ("TreePasses$Scroll", "size", "I", false)
  | 3 => ("TreePasses$Scroll", "at", "I", false)
  | _ => ("TreePasses$Scroll", "stopped", "Z", false)
def tyX3 : Nat → FieldType := fun k => match k with
  | 0 => .array .char
  | 1 => .array .int
  | 2 => .int
  | 3 => .int
  | _ => .boolean
abbrev wsX30 : List Cond := u_ws RX3 TX3 5
theorem nmX3 : ∀ a, a < 5 → ∀ b, b < 5 → a ≠ b → (TX3 a).2.1 ≠ (TX3 b).2.1 := by decide +kernel
theorem tyX3_ok : ∀ k, k < 5 → parseFieldDescriptor (TX3 k).2.2.1 = some (tyX3 k) := by decide +kernel
def RX4 : String := "TreePasses$Shelf"
def TX4 : u_T := fun k => match k with
  | 0 => ("TreePasses$Shelf", "programs", "[LTreePasses$Program;", true)
  | 1 => ("TreePasses$Shelf", "first", "I", false)
  | _ => ("TreePasses$Shelf", "held", "I", false)
def tyX4 : Nat → FieldType := fun k => match k with
  | 0 => .array (.object "TreePasses$Program")
  | 1 => .int
  | _ => .int
abbrev wsX40 : List Cond := u_ws RX4 TX4 3
theorem nmX4 : ∀ a, a < 3 → ∀ b, b < 3 → a ≠ b → (TX4 a).2.1 ≠ (TX4 b).2.1 := by decide +kernel
theorem tyX4_ok : ∀ k, k < 3 → parseFieldDescriptor (TX4 k).2.2.1 = some (tyX4 k) := by decide +kernel
def RX5 : String := "TreePasses$Standing"
def TX5 : u_T := fun k => match k with
  | 0 => ("TreePasses$Standing", "letters", "[I", true)
  | 1 => ("TreePasses$Standing", "spans", "[I", true)
  | 2 => ("TreePasses$Standing", "values", "[I", true)
  | _ => ("TreePasses$Standing", "nodes", "I", false)
def tyX5 : Nat → FieldType := fun k => match k with
  | 0 => .array .int
  | 1 => .array .int
  | 2 => .array .int
  | _ => .int
abbrev wsX50 : List Cond := u_ws RX5 TX5 4
theorem nmX5 : ∀ a, a < 4 → ∀ b, b < 4 → a ≠ b → (TX5 a).2.1 ≠ (TX5 b).2.1 := by decide +kernel
theorem tyX5_ok : ∀ k, k < 4 → parseFieldDescriptor (TX5 k).2.2.1 = some (tyX5 k) := by decide +kernel
def RX6 : String := "TreePasses$Unmade"
def TX6 : u_T := fun k => match k with
  | _ => ("TreePasses$Unmade", "tree", "LTreePasses$Standing;", true)
def tyX6 : Nat → FieldType := fun k => match k with
  | _ => .object "TreePasses$Standing"
abbrev wsX60 : List Cond := u_ws RX6 TX6 1
theorem nmX6 : ∀ a, a < 1 → ∀ b, b < 1 → a ≠ b → (TX6 a).2.1 ≠ (TX6 b).2.1 := by decide +kernel
theorem tyX6_ok : ∀ k, k < 1 → parseFieldDescriptor (TX6 k).2.2.1 = some (tyX6 k) := by decide +kernel
def RX7 : String := "TreePasses$Walk"
def TX7 : u_T := fun k => match k with
  | 0 => ("TreePasses$Walk", "output", "[I", true)
  | 1 => ("TreePasses$Walk", "comings", "[I", true)
  | 2 => ("TreePasses$Walk", "places", "[I", true)
  | 3 => ("TreePasses$Walk", "rules", "[I", true)
  | 4 => ("TreePasses$Walk", "nexts", "[I", true)
  | 5 => ("TreePasses$Walk", "made", "I", false)
  | _ => ("TreePasses$Walk", "depth", "I", false)
def tyX7 : Nat → FieldType := fun k => match k with
  | 0 => .array .int
  | 1 => .array .int
  | 2 => .array .int
  | 3 => .array .int
  | 4 => .array .int
  | 5 => .int
  | _ => .int
abbrev wsX70 : List Cond := u_ws RX7 TX7 7
theorem nmX7 : ∀ a, a < 7 → ∀ b, b < 7 → a ≠ b → (TX7 a).2.1 ≠ (TX7 b).2.1 := by decide +kernel
theorem tyX7_ok : ∀ k, k < 7 → parseFieldDescriptor (TX7 k).2.2.1 = some (tyX7 k) := by decide +kernel
def RX8 : String := "TreePasses"
def TX8 : u_T := fun k => match k with
  | 0 => ("TreePasses", "scroll", "LTreePasses$Scroll;", true)
  | 1 => ("TreePasses", "now", "LTreePasses$Program;", true)
  | 2 => ("TreePasses", "draft", "LTreePasses$Program;", true)
  | 3 => ("TreePasses", "past", "LTreePasses$Shelf;", true)
  | 4 => ("TreePasses", "kept", "LTreePasses$Shelf;", true)
  | 5 => ("TreePasses", "ground", "LTreePasses$Standing;", true)
  | 6 => ("TreePasses", "between", "LTreePasses$Standing;", true)
  | 7 => ("TreePasses", "unmade", "LTreePasses$Unmade;", true)
  | 8 => ("TreePasses", "walk", "LTreePasses$Walk;", true)
  | 9 => ("TreePasses", "firstCensus", "LTreePasses$Census;", true)
  | 10 => ("TreePasses", "secondCensus", "LTreePasses$Census;", true)
  | _ => ("TreePasses", "row", "[I", true)
def tyX8 : Nat → FieldType := fun k => match k with
  | 0 => .object "TreePasses$Scroll"
  | 1 => .object "TreePasses$Program"
  | 2 => .object "TreePasses$Program"
  | 3 => .object "TreePasses$Shelf"
  | 4 => .object "TreePasses$Shelf"
  | 5 => .object "TreePasses$Standing"
  | 6 => .object "TreePasses$Standing"
  | 7 => .object "TreePasses$Unmade"
  | 8 => .object "TreePasses$Walk"
  | 9 => .object "TreePasses$Census"
  | 10 => .object "TreePasses$Census"
  | _ => .array .int
abbrev wsX80 : List Cond := u_ws RX8 TX8 12
theorem nmX8 : ∀ a, a < 12 → ∀ b, b < 12 → a ≠ b → (TX8 a).2.1 ≠ (TX8 b).2.1 := by decide +kernel
theorem tyX8_ok : ∀ k, k < 12 → parseFieldDescriptor (TX8 k).2.2.1 = some (tyX8 k) := by decide +kernel
def RX9 : String := "TreePassesModel"
def TX9 : u_T := fun k => match k with
  | 0 => ("TreePassesModel", "length", "I", false)
  | 1 => ("TreePassesModel", "text", "[I", true)
  | 2 => ("TreePassesModel", "now", "[I", true)
  | 3 => ("TreePassesModel", "read", "[I", true)
  | 4 => ("TreePassesModel", "before", "[I", true)
  | 5 => ("TreePassesModel", "undoMany", "I", false)
  | 6 => ("TreePassesModel", "kept", "[I", true)
  | 7 => ("TreePassesModel", "keptMany", "I", false)
  | 8 => ("TreePassesModel", "spot", "I", false)
  | 9 => ("TreePassesModel", "told", "[I", true)
  | 10 => ("TreePassesModel", "ground", "I", false)
  | 11 => ("TreePassesModel", "letters", "[I", true)
  | 12 => ("TreePassesModel", "past", "[I", true)
  | 13 => ("TreePassesModel", "values", "[I", true)
  | 14 => ("TreePassesModel", "high", "I", false)
  | 15 => ("TreePassesModel", "pileRule", "[I", true)
  | 16 => ("TreePassesModel", "pilePiece", "[I", true)
  | 17 => ("TreePassesModel", "pileNode", "[I", true)
  | 18 => ("TreePassesModel", "outs", "I", false)
  | 19 => ("TreePassesModel", "output", "[I", true)
  | 20 => ("TreePassesModel", "visited", "[I", true)
  | 21 => ("TreePassesModel", "stuckAt", "I", false)
  | 22 => ("TreePassesModel", "pileAt", "[I", true)
  | 23 => ("TreePassesModel", "pileBelow", "[I", true)
  | 24 => ("TreePassesModel", "underRule", "I", false)
  | 25 => ("TreePassesModel", "underPiece", "I", false)
  | 26 => ("TreePassesModel", "underNode", "I", false)
  | 27 => ("TreePassesModel", "come", "I", false)
  | 28 => ("TreePassesModel", "comes", "[Z", true)
  | 29 => ("TreePassesModel", "sizes", "[I", true)
  | 30 => ("TreePassesModel", "least", "[I", true)
  | 31 => ("TreePassesModel", "typePile", "[I", true)
  | _ => ("TreePassesModel", "candidate", "[I", true)
def tyX9 : Nat → FieldType := fun k => match k with
  | 0 => .int
  | 1 => .array .int
  | 2 => .array .int
  | 3 => .array .int
  | 4 => .array .int
  | 5 => .int
  | 6 => .array .int
  | 7 => .int
  | 8 => .int
  | 9 => .array .int
  | 10 => .int
  | 11 => .array .int
  | 12 => .array .int
  | 13 => .array .int
  | 14 => .int
  | 15 => .array .int
  | 16 => .array .int
  | 17 => .array .int
  | 18 => .int
  | 19 => .array .int
  | 20 => .array .int
  | 21 => .int
  | 22 => .array .int
  | 23 => .array .int
  | 24 => .int
  | 25 => .int
  | 26 => .int
  | 27 => .int
  | 28 => .array .boolean
  | 29 => .array .int
  | 30 => .array .int
  | 31 => .array .int
  | _ => .array .int
abbrev wsX90 : List Cond := u_ws RX9 TX9 33
theorem nmX9 : ∀ a, a < 33 → ∀ b, b < 33 → a ≠ b → (TX9 a).2.1 ≠ (TX9 b).2.1 := by decide +kernel
theorem tyX9_ok : ∀ k, k < 33 → parseFieldDescriptor (TX9 k).2.2.1 = some (tyX9 k) := by decide +kernel
end
section
/-! numbers: an int is a Nat code n, read as nI n; a long a Nat code n, read as lN n -/
theorem q_bI (a : Nat) : (nI a).toBitVec = BitVec.ofNat 32 a := rfl
theorem q_bL (a : Nat) : (lN a).toBitVec = BitVec.ofNat 64 a := rfl
theorem q_nmod (a : Nat) : nI (a % 4294967296) = nI a := by
  apply Int32.toBitVec_inj.mp
  rw [q_bI, q_bI]
  apply BitVec.eq_of_toNat_eq
  simp
theorem q_lmod (a : Nat) : lN (a % 18446744073709551616) = lN a := by
  apply Int64.toBitVec_inj.mp
  rw [q_bL, q_bL]
  apply BitVec.eq_of_toNat_eq
  simp
theorem q_nI_eq {a b : Nat} : nI a = nI b ↔ a % 4294967296 = b % 4294967296 := by
  constructor
  · intro h
    have h1 := congrArg (fun x => x.toBitVec.toNat) h
    simpa [q_bI] using h1
  · intro h
    rw [← q_nmod a, ← q_nmod b, h]
theorem q_lN_eq {a b : Nat} : lN a = lN b ↔ a % 18446744073709551616 = b % 18446744073709551616 := by
  constructor
  · intro h
    have h1 := congrArg (fun x => x.toBitVec.toNat) h
    simpa [q_bL] using h1
  · intro h
    rw [← q_lmod a, ← q_lmod b, h]
/-- every int has a code -/
theorem q_code (x : Int32) : ∃ n : Nat, n < 4294967296 ∧ x = nI n := ⟨x.toBitVec.toNat, x.toBitVec.isLt, by
  apply Int32.toBitVec_inj.mp
  rw [q_bI]
  simp⟩
/-- the signed order, moved up by half: a Nat order -/
def q_bi (a : Nat) : Nat := (a + 2147483648) % 4294967296
def q_bl (a : Nat) : Nat := (a + 9223372036854775808) % 18446744073709551616
theorem q_toInt (a : Nat) : (nI a).toInt = (q_bi a : Int) - 2147483648 := by
  show (nI a).toBitVec.toInt = _
  rw [q_bI, BitVec.toInt_eq_toNat_cond, BitVec.toNat_ofNat]
  unfold q_bi
  split <;> omega
theorem q_toIntL (a : Nat) : (lN a).toInt = (q_bl a : Int) - 9223372036854775808 := by
  show (lN a).toBitVec.toInt = _
  rw [q_bL, BitVec.toInt_eq_toNat_cond, BitVec.toNat_ofNat]
  unfold q_bl
  split <;> omega
theorem q_lt {a b : Nat} : nI a < nI b ↔ q_bi a < q_bi b := by
  rw [Int32.lt_iff_toInt_lt, q_toInt, q_toInt]; omega
theorem q_le {a b : Nat} : nI a ≤ nI b ↔ q_bi a ≤ q_bi b := by
  rw [Int32.le_iff_toInt_le, q_toInt, q_toInt]; omega
theorem q_eq {a b : Nat} : nI a = nI b ↔ q_bi a = q_bi b := by
  rw [← Int32.toInt_inj, q_toInt, q_toInt]; omega
theorem q_ltL {a b : Nat} : lN a < lN b ↔ q_bl a < q_bl b := by
  rw [Int64.lt_iff_toInt_lt, q_toIntL, q_toIntL]; omega
theorem q_eqL {a b : Nat} : lN a = lN b ↔ q_bl a = q_bl b := by
  rw [← Int64.toInt_inj, q_toIntL, q_toIntL]; omega
theorem q_add (a b : Nat) : nI a + nI b = nI ((a + b) % 4294967296) := by rw [q_nmod, nI_add]
theorem q_sub (a b : Nat) : nI a - nI b = nI ((a + (4294967296 - b % 4294967296)) % 4294967296) := by
  rw [q_nmod]
  apply Int32.toBitVec_inj.mp
  rw [Int32.toBitVec_sub, q_bI, q_bI, q_bI]
  apply BitVec.eq_of_toNat_eq
  simp only [BitVec.toNat_sub, BitVec.toNat_ofNat]
  omega
theorem q_mul (a b : Nat) : nI a * nI b = nI ((a * b) % 4294967296) := by rw [q_nmod]; exact (Int32.ofNat_mul a b).symm
theorem q_and (a b : Nat) : nI a &&& nI b = nI (a &&& b) := by
  apply Int32.toBitVec_inj.mp
  rw [Int32.toBitVec_and, q_bI, q_bI, q_bI]
  apply BitVec.eq_of_toNat_eq
  simp only [BitVec.toNat_and, BitVec.toNat_ofNat]
  rw [Nat.and_mod_two_pow]
theorem q_or (a b : Nat) : nI a ||| nI b = nI (a ||| b) := by
  apply Int32.toBitVec_inj.mp
  rw [Int32.toBitVec_or, q_bI, q_bI, q_bI]
  apply BitVec.eq_of_toNat_eq
  simp only [BitVec.toNat_or, BitVec.toNat_ofNat]
  rw [Nat.or_mod_two_pow]
theorem q_andL (a b : Nat) : lN a &&& lN b = lN (a &&& b) := by
  apply Int64.toBitVec_inj.mp
  rw [Int64.toBitVec_and, q_bL, q_bL, q_bL]
  apply BitVec.eq_of_toNat_eq
  simp only [BitVec.toNat_and, BitVec.toNat_ofNat]
  rw [Nat.and_mod_two_pow]
theorem q_orL (a b : Nat) : lN a ||| lN b = lN (a ||| b) := by
  apply Int64.toBitVec_inj.mp
  rw [Int64.toBitVec_or, q_bL, q_bL, q_bL]
  apply BitVec.eq_of_toNat_eq
  simp only [BitVec.toNat_or, BitVec.toNat_ofNat]
  rw [Nat.or_mod_two_pow]
theorem q_xorL (a b : Nat) : lN a ^^^ lN b = lN (a ^^^ b) := by
  apply Int64.toBitVec_inj.mp
  rw [Int64.toBitVec_xor, q_bL, q_bL, q_bL]
  apply BitVec.eq_of_toNat_eq
  simp only [BitVec.toNat_xor, BitVec.toNat_ofNat]
  rw [Nat.xor_mod_two_pow]
theorem q_i2l (a : Nat) : (nI a).toInt64 = lN ((q_bi a + 18446744071562067968) % 18446744073709551616) := by
  rw [q_lmod]
  apply Int64.toInt_inj.mp
  rw [Int32.toInt_toInt64, q_toInt, q_toIntL]
  unfold q_bl q_bi
  omega
theorem q_l2i (a : Nat) : (lN a).toInt32 = nI (a % 4294967296) := by rw [q_nmod]; exact lN_i a
theorem q_i2c (a : Nat) : ((nI a).toUInt32 % 65536).toInt32 = nI (a % 65536) := by
  apply Int32.toBitVec_inj.mp
  rw [q_bI]
  show ((nI a).toUInt32 % 65536).toBitVec = _
  rw [UInt32.toBitVec_mod]
  show (nI a).toBitVec % _ = _
  rw [q_bI]
  apply BitVec.eq_of_toNat_eq
  simp only [BitVec.toNat_umod, BitVec.toNat_ofNat]
  show a % 4294967296 % 65536 = _
  omega
theorem q_div {a b : Nat} (ha : a < 2147483648) (hb : b < 2147483648) : nI a / nI b = nI (a / b) := by
  apply Int32.toInt_inj.mp
  rw [Int32.toInt_div, nI_toInt ha, nI_toInt hb, nI_toInt (Nat.lt_of_le_of_lt (Nat.div_le_self a b) ha)]
  rw [show ((a : Int).tdiv (b : Int)) = ((a / b : Nat) : Int) from rfl]
  apply Int.bmod_eq_of_le
  · have : (0 : Int) ≤ ((a / b : Nat) : Int) := Int.natCast_nonneg _
    omega
  · have := Nat.lt_of_le_of_lt (Nat.div_le_self a b) ha
    omega
theorem q_rem {a b : Nat} (ha : a < 2147483648) (hb : b < 2147483648) : nI a - nI a / nI b * nI b = nI (a % b) := by
  rw [q_div ha hb, q_mul, q_nmod, q_sub, q_nmod]
  apply q_nI_eq.mpr
  have h := Nat.div_add_mod a b
  have h2 : a / b * b ≤ a := Nat.div_mul_le_self a b
  have h3 : a / b * b + a % b = a := by rw [Nat.mul_comm]; exact h
  generalize a / b * b = z at h2 h3
  generalize a % b = w at h3
  omega
end
section
theorem q_shl {a b : Nat} (hb : b < 32) : nI a <<< (nI b &&& 31) = nI ((a * 2 ^ b) % 4294967296) := by
  rw [q_nmod]
  have h31 : nI b &&& 31 = nI b := by
    show nI b &&& nI 31 = nI b
    rw [q_and]
    congr 1
    rw [show (31 : Nat) = 2 ^ 5 - 1 from rfl, Nat.and_two_pow_sub_one_eq_mod]
    exact Nat.mod_eq_of_lt hb
  rw [h31]
  apply Int32.toBitVec_inj.mp
  rw [Int32.toBitVec_shiftLeft, q_bI, q_bI, q_bI]
  have hs : ((BitVec.ofNat 32 b).smod 32#32) = BitVec.ofNat 32 b := by
    have : b = 0 ∨ b = 1 ∨ b = 2 ∨ b = 3 ∨ b = 4 ∨ b = 5 ∨ b = 6 ∨ b = 7 ∨ b = 8 ∨ b = 9 ∨ b = 10 ∨ b = 11 ∨ b = 12 ∨ b = 13 ∨ b = 14 ∨ b = 15 ∨ b = 16 ∨ b = 17 ∨ b = 18 ∨ b = 19 ∨ b = 20 ∨ b = 21 ∨ b = 22 ∨ b = 23 ∨ b = 24 ∨ b = 25 ∨ b = 26 ∨ b = 27 ∨ b = 28 ∨ b = 29 ∨ b = 30 ∨ b = 31 := by omega
    rcases this with rfl | rfl | rfl | rfl | rfl | rfl | rfl | rfl | rfl | rfl | rfl | rfl | rfl | rfl | rfl | rfl | rfl | rfl | rfl | rfl | rfl | rfl | rfl | rfl | rfl | rfl | rfl | rfl | rfl | rfl | rfl | rfl <;> decide +kernel
  rw [show ((32#32 : BitVec 32)) = 32 from rfl] at hs
  rw [hs]
  apply BitVec.eq_of_toNat_eq
  rw [BitVec.shiftLeft_eq', BitVec.toNat_shiftLeft, BitVec.toNat_ofNat, BitVec.toNat_ofNat, BitVec.toNat_ofNat, Nat.shiftLeft_eq]
  rw [Nat.mod_eq_of_lt (show b < 2 ^ 32 by omega)]
  rw [Nat.mod_mul_mod]
theorem q_shr {a b : Nat} (ha : a < 2147483648) (hb : b < 32) : nI a >>> (nI b &&& 31) = nI (a / 2 ^ b) := by
  have h31 : nI b &&& 31 = nI b := by
    show nI b &&& nI 31 = nI b
    rw [q_and]
    congr 1
    rw [show (31 : Nat) = 2 ^ 5 - 1 from rfl, Nat.and_two_pow_sub_one_eq_mod]
    exact Nat.mod_eq_of_lt hb
  rw [h31]
  apply Int32.toBitVec_inj.mp
  rw [Int32.toBitVec_shiftRight, q_bI, q_bI, q_bI]
  have hs : ((BitVec.ofNat 32 b).smod 32#32) = BitVec.ofNat 32 b := by
    have : b = 0 ∨ b = 1 ∨ b = 2 ∨ b = 3 ∨ b = 4 ∨ b = 5 ∨ b = 6 ∨ b = 7 ∨ b = 8 ∨ b = 9 ∨ b = 10 ∨ b = 11 ∨ b = 12 ∨ b = 13 ∨ b = 14 ∨ b = 15 ∨ b = 16 ∨ b = 17 ∨ b = 18 ∨ b = 19 ∨ b = 20 ∨ b = 21 ∨ b = 22 ∨ b = 23 ∨ b = 24 ∨ b = 25 ∨ b = 26 ∨ b = 27 ∨ b = 28 ∨ b = 29 ∨ b = 30 ∨ b = 31 := by omega
    rcases this with rfl | rfl | rfl | rfl | rfl | rfl | rfl | rfl | rfl | rfl | rfl | rfl | rfl | rfl | rfl | rfl | rfl | rfl | rfl | rfl | rfl | rfl | rfl | rfl | rfl | rfl | rfl | rfl | rfl | rfl | rfl | rfl <;> decide +kernel
  rw [show ((32#32 : BitVec 32)) = 32 from rfl] at hs
  rw [hs]
  apply BitVec.eq_of_toNat_eq
  have hm : (BitVec.ofNat 32 a).msb = false := by
    rw [BitVec.msb_eq_decide]
    simp only [BitVec.toNat_ofNat]
    rw [Nat.mod_eq_of_lt (show a < 2 ^ 32 by omega)]
    simp
    omega
  rw [BitVec.sshiftRight_eq', BitVec.sshiftRight_eq_of_msb_false hm, BitVec.toNat_ushiftRight, BitVec.toNat_ofNat, BitVec.toNat_ofNat, BitVec.toNat_ofNat, Nat.shiftRight_eq_div_pow]
  rw [Nat.mod_eq_of_lt (show b < 2 ^ 32 by omega), Nat.mod_eq_of_lt (show a < 2 ^ 32 by omega)]
  exact (Nat.mod_eq_of_lt (Nat.lt_of_le_of_lt (Nat.div_le_self _ _) (by omega))).symm
theorem q_ushrL {a b : Nat} (hb : b < 64) : ((lN a).toUInt64 >>> ((nI b).toInt64.toUInt64 &&& Int64.toUInt64 63)).toInt64 = lN ((a % 18446744073709551616) / 2 ^ b) := by
  rw [nI_l (show b < 2 ^ 31 by omega)]
  have h63 : (lN b).toUInt64 &&& Int64.toUInt64 63 = (lN b).toUInt64 := by
    show (lN b).toUInt64 &&& (lN 63).toUInt64 = _
    have h := q_andL b 63
    have h2 : b &&& 63 = b := by
      rw [show (63 : Nat) = 2 ^ 6 - 1 from rfl, Nat.and_two_pow_sub_one_eq_mod]
      exact Nat.mod_eq_of_lt hb
    rw [h2] at h
    exact congrArg Int64.toUInt64 h
  rw [h63]
  apply Int64.toBitVec_inj.mp
  show ((lN a).toUInt64 >>> (lN b).toUInt64).toBitVec = _
  rw [UInt64.toBitVec_shiftRight]
  show (lN a).toBitVec >>> ((lN b).toBitVec % 64) = _
  rw [q_bL, q_bL, q_bL]
  apply BitVec.eq_of_toNat_eq
  have h64 : ((BitVec.ofNat 64 b) % 64).toNat = b := by
    rw [BitVec.toNat_umod, BitVec.toNat_ofNat]
    show b % 2 ^ 64 % 64 = b
    omega
  rw [BitVec.ushiftRight_eq', BitVec.toNat_ushiftRight, h64, BitVec.toNat_ofNat, BitVec.toNat_ofNat, Nat.shiftRight_eq_div_pow]
  symm
  apply Nat.mod_eq_of_lt
  exact Nat.lt_of_le_of_lt (Nat.div_le_self _ _) (Nat.mod_lt _ (by decide))
/-- the i-th word of a row of words of 64 bits -/
def q_rd (d i : Nat) : Nat := (d >>> (64 * i)) % 18446744073709551616
def q_wr (d i v : Nat) : Nat := d ^^^ ((q_rd d i ^^^ v) <<< (64 * i))
theorem q_rd_bit (d i b : Nat) : (q_rd d i).testBit b = (decide (b < 64) && d.testBit (64 * i + b)) := by
  unfold q_rd
  rw [show (18446744073709551616 : Nat) = 2 ^ 64 from rfl, Nat.testBit_mod_two_pow, Nat.testBit_shiftRight]
theorem q_rd_wr {d i j v : Nat} (hv : v < 18446744073709551616) : q_rd (q_wr d i v) j = if j = i then v else q_rd d j := by
  apply Nat.eq_of_testBit_eq
  intro b
  rw [q_rd_bit]
  unfold q_wr
  rw [Nat.testBit_xor, Nat.testBit_shiftLeft, Nat.testBit_xor, q_rd_bit]
  by_cases hb : b < 64
  · by_cases h : j = i
    · subst h
      rw [if_pos rfl]
      have h1 : 64 * j + b - 64 * j = b := by omega
      have h2 : 64 * j + b ≥ 64 * j := by omega
      simp [hb, h1, h2]
    · rw [if_neg h, q_rd_bit]
      by_cases h2 : 64 * j + b ≥ 64 * i
      · have h3 : ¬ (64 * j + b - 64 * i < 64) := by omega
        have h4 : v.testBit (64 * j + b - 64 * i) = false := Nat.testBit_lt_two_pow (Nat.lt_of_lt_of_le hv (Nat.le_trans (show 18446744073709551616 ≤ 2 ^ 64 by decide) (Nat.pow_le_pow_right (by decide) (by omega))))
        simp [hb, h3, h4]
      · simp [hb, h2]
  · have h4 : ∀ w, w < 18446744073709551616 → w.testBit b = false := fun w hw => Nat.testBit_lt_two_pow (Nat.lt_of_lt_of_le hw (Nat.le_trans (show 18446744073709551616 ≤ 2 ^ 64 by decide) (Nat.pow_le_pow_right (by decide) (by omega))))
    split
    · simp [hb, h4 v hv]
    · rw [q_rd_bit]
      simp [hb]
theorem q_rd_zero (i : Nat) : q_rd 0 i = 0 := by simp [q_rd]
theorem q_rd_lt (d i : Nat) : q_rd d i < 18446744073709551616 := Nat.mod_lt _ (by decide)
end
section
/-- a block of words copied from one row into another -/
def q_cp (d s sp dp n : Nat) : Nat := d ^^^ ((((d >>> (64 * dp)) % 2 ^ (64 * n)) ^^^ ((s >>> (64 * sp)) % 2 ^ (64 * n))) <<< (64 * dp))
theorem q_rd_cp (d s sp dp n j : Nat) : q_rd (q_cp d s sp dp n) j = if dp ≤ j ∧ j < dp + n then q_rd s (sp + (j - dp)) else q_rd d j := by
  apply Nat.eq_of_testBit_eq
  intro b
  rw [q_rd_bit]
  unfold q_cp
  rw [Nat.testBit_xor, Nat.testBit_shiftLeft, Nat.testBit_xor, Nat.testBit_mod_two_pow, Nat.testBit_mod_two_pow, Nat.testBit_shiftRight, Nat.testBit_shiftRight]
  by_cases hb : b < 64
  · by_cases h : dp ≤ j ∧ j < dp + n
    · rw [if_pos h, q_rd_bit]
      have h1 : 64 * j + b ≥ 64 * dp := by omega
      have h2 : 64 * j + b - 64 * dp < 64 * n := by omega
      have h3 : 64 * dp + (64 * j + b - 64 * dp) = 64 * j + b := by omega
      have h4 : 64 * sp + (64 * j + b - 64 * dp) = 64 * (sp + (j - dp)) + b := by omega
      simp [hb, h1, h2, h3, h4]
    · rw [if_neg h, q_rd_bit]
      by_cases h1 : 64 * j + b ≥ 64 * dp
      · have h2 : ¬ (64 * j + b - 64 * dp < 64 * n) := by omega
        simp [hb, h2]
      · simp [hb, h1]
  · split
    · rw [q_rd_bit]; simp [hb]
    · rw [q_rd_bit]; simp [hb]
/-- a value: int, ref to a cell, long, an int of the script, the same as a long, a static cell, some reference or null -/
abbrev q_V : Type := Nat ⊕ (Nat ⊕ (Nat ⊕ (Nat ⊕ (Nat ⊕ (Nat ⊕ Unit)))))
abbrev q_Lo : Type := List (Nat × q_V)
/-- a cell: what it is, how many words, the words -/
abbrev q_C : Type := Nat × Nat × Nat
abbrev q_H : Type := List (List q_C)
/-- launch; classes' numbers and slots; where the static cells lie; the script's codes; its length -/
abbrev q_E : Type := Launch × va_G × (Nat → Nat) × (Nat → Nat) × Nat
/-- a method: its name, bytes, locals, what it returns, its room -/
abbrev q_M : Type := MethodName × ByteArray × Nat × Option FieldType × Room
abbrev q_cl : List vw_C := [(RX0, TX0, 15), (RX1, TX1, 0), (RX2, TX2, 7), (RX3, TX3, 5), (RX4, TX4, 3), (RX5, TX5, 4), (RX6, TX6, 1), (RX7, TX7, 7), (RX8, TX8, 12), (RX9, TX9, 33)]
def q_ty (ci : Nat) : Nat → FieldType := match ci with
  | 0 => tyX0 | 1 => tyX1 | 2 => tyX2 | 3 => tyX3 | 4 => tyX4 | 5 => tyX5 | 6 => tyX6 | 7 => tyX7 | 8 => tyX8 | _ => tyX9
def q_isr (t : FieldType) : Bool := match t with
  | .int => false | .boolean => false | _ => true
def q_vr (E : q_E) (ad : List Nat) : q_V → Value → Prop
  | .inl n, v => v = .int (nI n)
  | .inr (.inl r), v => ∃ a, ad[r]? = some a ∧ v = .ref a
  | .inr (.inr (.inl n)), v => v = .long (lN n)
  | .inr (.inr (.inr (.inl k))), v => v = .int (nI (E.2.2.2.1 k))
  | .inr (.inr (.inr (.inr (.inl k)))), v => v = .long (nI (E.2.2.2.1 k)).toInt64
  | .inr (.inr (.inr (.inr (.inr (.inl k))))), v => v = .ref (E.2.2.1 k)
  | .inr (.inr (.inr (.inr (.inr (.inr _))))), v => v = .null ∨ ∃ a, v = .ref a
def q_cat : q_V → Nat
  | .inr (.inr (.inl _)) => 2
  | .inr (.inr (.inr (.inr (.inl _)))) => 2
  | _ => 1
theorem q_vr_cat {E : q_E} {ad : List Nat} {x : q_V} {v : Value} (h : q_vr E ad x v) : v.category = q_cat x := by
  match x, h with
  | .inl n, h => cases h; rfl
  | .inr (.inl r), ⟨a, h1, h2⟩ => cases h2; rfl
  | .inr (.inr (.inl n)), h => cases h; rfl
  | .inr (.inr (.inr (.inl k))), h => cases h; rfl
  | .inr (.inr (.inr (.inr (.inl k)))), h => cases h; rfl
  | .inr (.inr (.inr (.inr (.inr (.inl k))))), h => cases h; rfl
  | .inr (.inr (.inr (.inr (.inr (.inr _))))), h => rcases h with h | ⟨a, h⟩ <;> (cases h; rfl)
theorem q_vr_mono {E : q_E} {ad z : List Nat} {x : q_V} {v : Value} (h : q_vr E ad x v) : q_vr E (ad ++ z) x v := by
  match x, h with
  | .inl n, h => exact h
  | .inr (.inl r), ⟨a, h1, h2⟩ => exact ⟨a, by rw [List.getElem?_append_left (List.getElem?_eq_some_iff.mp h1).1]; exact h1, h2⟩
  | .inr (.inr (.inl n)), h => exact h
  | .inr (.inr (.inr (.inl k))), h => exact h
  | .inr (.inr (.inr (.inr (.inl k)))), h => exact h
  | .inr (.inr (.inr (.inr (.inr (.inl k))))), h => exact h
  | .inr (.inr (.inr (.inr (.inr (.inr _))))), h => exact h
def q_sr (E : q_E) (ad : List Nat) : List q_V → List Value → Prop
  | [], [] => True
  | x :: st, v :: stv => q_vr E ad x v ∧ q_sr E ad st stv
  | _, _ => False
def q_lr (E : q_E) (ad : List Nat) : q_Lo → List (Nat × Value) → Prop
  | [], [] => True
  | x :: lo, v :: lv => (x.1 = v.1 ∧ q_vr E ad x.2 v.2) ∧ q_lr E ad lo lv
  | _, _ => False
theorem q_sr_mono {E : q_E} {ad z : List Nat} : ∀ {st : List q_V} {stv : List Value}, q_sr E ad st stv → q_sr E (ad ++ z) st stv
  | [], [], _ => trivial
  | _ :: _, _ :: _, h => ⟨q_vr_mono h.1, q_sr_mono h.2⟩
theorem q_lr_mono {E : q_E} {ad z : List Nat} : ∀ {lo : q_Lo} {lv : List (Nat × Value)}, q_lr E ad lo lv → q_lr E (ad ++ z) lo lv
  | [], [], _ => trivial
  | _ :: _, _ :: _, h => ⟨⟨h.1.1, q_vr_mono h.1.2⟩, q_lr_mono h.2⟩
theorem q_lr_filter {E : q_E} {ad : List Nat} {f : Nat → Nat → Bool} : ∀ {lo : q_Lo} {lv : List (Nat × Value)}, q_lr E ad lo lv → q_lr E ad (lo.filter (fun q => f q.1 (q_cat q.2))) (lv.filter (fun q => f q.1 q.2.category))
  | [], [], _ => trivial
  | x :: lo, v :: lv, h => by
    have e1 : f v.1 v.2.category = f x.1 (q_cat x.2) := by rw [h.1.1, q_vr_cat h.1.2]
    rw [List.filter_cons, List.filter_cons, e1]
    cases f x.1 (q_cat x.2)
    · exact q_lr_filter h.2
    · exact ⟨h.1, q_lr_filter h.2⟩
theorem q_lr_get {E : q_E} {ad : List Nat} : ∀ {lo : q_Lo} {lv : List (Nat × Value)} {k i : Nat} {x : q_V}, q_lr E ad lo lv → lo[k]? = some (i, x) → ∃ v, lv[k]? = some (i, v) ∧ q_vr E ad x v
  | x :: lo, v :: lv, 0, i, y, h, e => by
    cases e
    exact ⟨v.2, by rw [List.getElem?_cons_zero, show v = (v.1, v.2) from rfl, ← h.1.1], h.1.2⟩
  | x :: lo, v :: lv, k + 1, i, y, h, e => by
    rw [List.getElem?_cons_succ] at e
    obtain ⟨w, h1, h2⟩ := q_lr_get h.2 e
    exact ⟨w, by rw [List.getElem?_cons_succ]; exact h1, h2⟩
/-- the first local of a number -/
def q_lg : q_Lo → Nat → Option q_V
  | [], _ => none
  | x :: lo, i => if x.1 = i then some x.2 else q_lg lo i
theorem q_lg_get {i : Nat} {x : q_V} : ∀ {lo : q_Lo}, q_lg lo i = some x → ∃ k : Nat, lo[k]? = some (i, x)
  | [], h => by cases h
  | y :: lo, h => by
    unfold q_lg at h
    by_cases c : y.1 = i
    · rw [if_pos c] at h
      cases h
      exact ⟨0, by rw [List.getElem?_cons_zero, ← c]⟩
    · rw [if_neg c] at h
      obtain ⟨k, hk⟩ := q_lg_get h
      exact ⟨k + 1, by rw [List.getElem?_cons_succ]; exact hk⟩
def q_ls1 (lo : q_Lo) (i : Nat) (x : q_V) : q_Lo := (i, x) :: lo.filter (fun q => !(q.1 == i) && !(q.1 + 1 == i && q_cat q.2 == 2))
def q_ls2 (lo : q_Lo) (i : Nat) (x : q_V) : q_Lo := (i, x) :: lo.filter (fun q => !(q.1 == i) && (!(q.1 == i + 1) && !(q.1 + 1 == i && q_cat q.2 == 2)))
/-- the cell of a number -/
def q_get (h : q_H) (r : Nat) : Option q_C := (h[r / 16]?).bind (fun row => row[r % 16]?)
def q_put (h : q_H) (r : Nat) (c : q_C) : q_H := h.modify (r / 16) (fun row => row.set (r % 16) c)
theorem q_get_put {h : q_H} {r r' : Nat} {c c0 : q_C} (h0 : q_get h r = some c0) : q_get (q_put h r c) r' = if r' = r then some c else q_get h r' := by
  unfold q_get q_put at *
  cases hr : h[r / 16]? with
  | none => rw [hr] at h0; cases h0
  | some row =>
    rw [hr] at h0
    have h0 : row[r % 16]? = some c0 := h0
    rw [List.getElem?_modify]
    by_cases e : r / 16 = r' / 16
    · have he : (fun a : List q_C => if r / 16 = r' / 16 then a.set (r % 16) c else a) = fun a => a.set (r % 16) c := by
        funext a; rw [if_pos e]
      rw [he, ← e, hr]
      show (row.set (r % 16) c)[r' % 16]? = _
      rw [List.getElem?_set]
      by_cases e2 : r % 16 = r' % 16
      · have : r' = r := by omega
        rw [if_pos e2, if_pos this, if_pos (List.getElem?_eq_some_iff.mp h0).1]
      · have : ¬ r' = r := by omega
        rw [if_neg e2, if_neg this]
        rfl
    · have : ¬ r' = r := by intro q; subst q; exact e rfl
      have he : (fun a : List q_C => if r / 16 = r' / 16 then a.set (r % 16) c else a) = fun a => a := by
        funext a; rw [if_neg e]
      rw [he, if_neg this]
      simp
/-- how many cells there are; a new one goes to the end -/
def q_cnt : q_H → Nat
  | [] => 0
  | [row] => row.length
  | _ :: h => 16 + q_cnt h
def q_push : q_H → q_C → q_H
  | [], c => [[c]]
  | [row], c => if row.length < 16 then [row ++ [c]] else [row, [c]]
  | row :: r2 :: h, c => row :: q_push (r2 :: h) c
def q_full : q_H → Prop
  | [] => True
  | [row] => row.length ≤ 16
  | row :: h => row.length = 16 ∧ q_full h
def q_opt (ad : List Nat) (x : Nat) (o : Option Nat) : Prop := (x = 0 ∧ o = none) ∨ ∃ r a, x = r + 1 ∧ ad[r]? = some a ∧ o = some a
def q_fr (isr : Bool) (ad : List Nat) (x : Nat) (v : Value) : Prop := match isr with
  | false => v = .int (nI x)
  | true => (x = 0 ∧ v = .null) ∨ ∃ r a, x = r + 1 ∧ ad[r]? = some a ∧ v = .ref a
theorem q_opt_mono {ad z : List Nat} {x : Nat} {o : Option Nat} (h : q_opt ad x o) : q_opt (ad ++ z) x o := by
  rcases h with h | ⟨r, a, h1, h2, h3⟩
  · exact Or.inl h
  · exact Or.inr ⟨r, a, h1, by rw [List.getElem?_append_left (List.getElem?_eq_some_iff.mp h2).1]; exact h2, h3⟩
theorem q_fr_mono {b : Bool} {ad z : List Nat} {x : Nat} {v : Value} (h : q_fr b ad x v) : q_fr b (ad ++ z) x v := by
  cases b
  · exact h
  · rcases h with h | ⟨r, a, h1, h2, h3⟩
    · exact Or.inl h
    · exact Or.inr ⟨r, a, h1, by rw [List.getElem?_append_left (List.getElem?_eq_some_iff.mp h2).1]; exact h2, h3⟩
/-- what an array's kind is: 0 int, 1 long, 2 char, 3 boolean, 4 Program; objects from 5 on -/
def q_cr (tys : List (ClassId × FieldType)) (ad : List Nat) (c : q_C) (e : va_E) : Prop :=
  (c.1 = 0 ∧ ∃ (cA : ClassId) (t0 : Nat), tys[t0]? = some (cA, FieldType.int) ∧ e = .inl (cA, c.2.1, .inl (fun i => nI (q_rd c.2.2 i)))) ∨
  (c.1 = 1 ∧ ∃ (cA : ClassId) (t0 : Nat), tys[t0]? = some (cA, FieldType.long) ∧ e = .inl (cA, c.2.1, .inr (.inl (fun i => lN (q_rd c.2.2 i))))) ∨
  (c.1 = 2 ∧ ∃ (cA : ClassId) (t0 : Nat), tys[t0]? = some (cA, FieldType.char) ∧ e = .inl (cA, c.2.1, .inl (fun i => nI (q_rd c.2.2 i)))) ∨
  (c.1 = 3 ∧ ∃ (cA : ClassId) (t0 : Nat), tys[t0]? = some (cA, FieldType.boolean) ∧ e = .inl (cA, c.2.1, .inl (fun i => nI (q_rd c.2.2 i)))) ∨
  (c.1 = 4 ∧ ∃ (cA : ClassId) (t0 : Nat) (f : Nat → Option Nat), tys[t0]? = some (cA, FieldType.object RX2) ∧ e = .inl (cA, c.2.1, .inr (.inr (.inr (.inr f)))) ∧ ∀ i, q_opt ad (q_rd c.2.2 i) (f i)) ∨
  (∃ (ci : Nat) (fs : List Value) (q : vw_C), c.1 = ci + 5 ∧ q_cl[ci]? = some q ∧ c.2.1 = q.2.2 ∧ e = .inr (ci, fs) ∧ fs.length = c.2.1 ∧ ∀ k, k < c.2.1 → ∃ v, fs[k]? = some v ∧ q_fr (q_isr (q_ty ci k)) ad (q_rd c.2.2 k) v)
theorem q_cr_mono {t1 t2 : List (ClassId × FieldType)} {ad z : List Nat} {c : q_C} {e : va_E} (h : q_cr t1 ad c e) : q_cr (t1 ++ t2) (ad ++ z) c e := by
  have hg : ∀ {t0 : Nat} {q : ClassId × FieldType}, t1[t0]? = some q → (t1 ++ t2)[t0]? = some q := fun h => by
    rw [List.getElem?_append_left (List.getElem?_eq_some_iff.mp h).1]; exact h
  rcases h with ⟨h1, cA, t0, h2, h3⟩ | ⟨h1, cA, t0, h2, h3⟩ | ⟨h1, cA, t0, h2, h3⟩ | ⟨h1, cA, t0, h2, h3⟩ | ⟨h1, cA, t0, f, h2, h3, h4⟩ | ⟨ci, fs, q, h1, h2, h3, h4, h5, h6⟩
  · exact Or.inl ⟨h1, cA, t0, hg h2, h3⟩
  · exact Or.inr (Or.inl ⟨h1, cA, t0, hg h2, h3⟩)
  · exact Or.inr (Or.inr (Or.inl ⟨h1, cA, t0, hg h2, h3⟩))
  · exact Or.inr (Or.inr (Or.inr (Or.inl ⟨h1, cA, t0, hg h2, h3⟩)))
  · exact Or.inr (Or.inr (Or.inr (Or.inr (Or.inl ⟨h1, cA, t0, f, hg h2, h3, fun i => q_opt_mono (h4 i)⟩))))
  · exact Or.inr (Or.inr (Or.inr (Or.inr (Or.inr ⟨ci, fs, q, h1, h2, h3, h4, h5, fun k hk => by
      obtain ⟨v, g1, g2⟩ := h6 k hk
      exact ⟨v, g1, q_fr_mono g2⟩⟩))))
def q_hr (tys : List (ClassId × FieldType)) (ad : List Nat) (h : q_H) (ws : va_W) : Prop := ws.map (fun q => q.1) = ad ∧ q_cnt h = ad.length ∧ q_full h ∧ ∀ r c, q_get h r = some c → ∃ a e, ad[r]? = some a ∧ ws[r]? = some (a, e) ∧ q_cr tys ad c e
end
section
theorem q_get_cons (row : List q_C) (h : q_H) (r : Nat) : q_get (row :: h) r = if r < 16 then row[r]? else q_get h (r - 16) := by
  unfold q_get
  by_cases c : r < 16
  · rw [if_pos c, Nat.div_eq_of_lt c, Nat.mod_eq_of_lt c]
    rfl
  · rw [if_neg c]
    have e1 : r / 16 = (r - 16) / 16 + 1 := by omega
    have e2 : r % 16 = (r - 16) % 16 := by omega
    rw [e1, e2, List.getElem?_cons_succ]
theorem q_get_push {c : q_C} : ∀ {h : q_H} {r : Nat}, q_full h → q_get (q_push h c) r = if r = q_cnt h then some c else q_get h r
  | [], r, _ => by
    show q_get [[c]] r = if r = 0 then some c else q_get [] r
    rw [q_get_cons]
    by_cases e : r = 0
    · subst e; rfl
    · rw [if_neg e]
      have h0 : q_get [] r = none := by simp [q_get]
      have h1 : q_get [] (r - 16) = none := by simp [q_get]
      rw [h0, h1]
      split
      · cases r with
        | zero => exact absurd rfl e
        | succ r => rfl
      · rfl
  | [row], r, hf => by
    have hf : row.length ≤ 16 := hf
    show q_get (if row.length < 16 then [row ++ [c]] else [row, [c]]) r = if r = row.length then some c else q_get [row] r
    have h1 : q_get [] (r - 16) = none := by simp [q_get]
    by_cases hl : row.length < 16
    · rw [if_pos hl, q_get_cons, q_get_cons, h1, List.getElem?_append]
      by_cases e : r = row.length
      · subst e
        rw [if_pos hl, if_pos rfl, if_neg (Nat.lt_irrefl _)]
        simp
      · rw [if_neg e]
        by_cases hr : r < 16
        · rw [if_pos hr, if_pos hr]
          by_cases h2 : r < row.length
          · rw [if_pos h2]
          · rw [if_neg h2, List.getElem?_eq_none (by simp; omega), List.getElem?_eq_none (by omega)]
        · rw [if_neg hr, if_neg hr]
    · rw [if_neg hl, q_get_cons, q_get_cons, q_get_cons]
      have hl : row.length = 16 := by omega
      rw [hl]
      by_cases hr : r < 16
      · rw [if_pos hr, if_pos hr, if_neg (by omega)]
      · rw [if_neg hr, if_neg hr, h1]
        by_cases e : r = 16
        · subst e; rfl
        · rw [if_neg e]
          have h2 : q_get [] (r - 16 - 16) = none := by simp [q_get]
          rw [h2]
          split
          · have : r - 16 = (r - 17) + 1 := by omega
            rw [this]
            rfl
          · rfl
  | row :: r2 :: h, r, hf => by
    have hf : row.length = 16 ∧ q_full (r2 :: h) := hf
    show q_get (row :: q_push (r2 :: h) c) r = if r = 16 + q_cnt (r2 :: h) then some c else q_get (row :: r2 :: h) r
    rw [q_get_cons, q_get_cons row]
    by_cases hr : r < 16
    · rw [if_pos hr, if_pos hr, if_neg (by omega)]
    · rw [if_neg hr, if_neg hr, q_get_push hf.2]
      by_cases e : r - 16 = q_cnt (r2 :: h)
      · rw [if_pos e, if_pos (by omega)]
      · rw [if_neg e, if_neg (by omega)]
theorem q_push_ne {c : q_C} : ∀ {h : q_H}, ∃ row t, q_push h c = row :: t
  | [] => ⟨_, _, rfl⟩
  | [row] => by
    show ∃ r t, (if row.length < 16 then [row ++ [c]] else [row, [c]]) = r :: t
    split <;> exact ⟨_, _, rfl⟩
  | row :: r2 :: h => ⟨_, _, rfl⟩
theorem q_cnt_push {c : q_C} : ∀ {h : q_H}, q_full h → q_cnt (q_push h c) = q_cnt h + 1 ∧ q_full (q_push h c)
  | [], _ => ⟨rfl, (by simp : ([c] : List q_C).length ≤ 16)⟩
  | [row], hf => by
    have hf : row.length ≤ 16 := hf
    show q_cnt (if row.length < 16 then [row ++ [c]] else [row, [c]]) = row.length + 1 ∧ q_full (if row.length < 16 then [row ++ [c]] else [row, [c]])
    by_cases hl : row.length < 16
    · rw [if_pos hl]
      refine ⟨?_, ?_⟩
      · show (row ++ [c]).length = _
        simp
      · show (row ++ [c]).length ≤ 16
        simp
        omega
    · rw [if_neg hl]
      refine ⟨?_, ?_, ?_⟩
      · show 16 + 1 = _
        omega
      · show row.length = 16
        omega
      · show ([c] : List q_C).length ≤ 16
        simp
  | row :: r2 :: h, hf => by
    have hf : row.length = 16 ∧ q_full (r2 :: h) := hf
    obtain ⟨h1, h2⟩ := q_cnt_push (c := c) hf.2
    obtain ⟨r3, t, e⟩ := q_push_ne (c := c) (h := r2 :: h)
    show q_cnt (row :: q_push (r2 :: h) c) = 16 + q_cnt (r2 :: h) + 1 ∧ q_full (row :: q_push (r2 :: h) c)
    rw [e] at h1 h2 ⊢
    exact ⟨by show 16 + q_cnt (r3 :: t) = _; omega, hf.1, h2⟩
theorem q_cnt_put {r : Nat} {c : q_C} : ∀ {h : q_H}, q_cnt (q_put h r c) = q_cnt h ∧ (q_full h → q_full (q_put h r c)) := by
  have key : ∀ (h : q_H) (k j : Nat), q_cnt (h.modify k (fun row => row.set j c)) = q_cnt h ∧ (q_full h → q_full (h.modify k (fun row => row.set j c))) := by
    intro h
    induction h with
    | nil => intro k j; cases k <;> exact ⟨rfl, id⟩
    | cons row h ih =>
      intro k j
      cases k with
      | zero =>
        rw [List.modify_zero_cons]
        cases h with
        | nil => exact ⟨List.length_set, fun q => by show (row.set j c).length ≤ 16; rw [List.length_set]; exact q⟩
        | cons r2 h => exact ⟨rfl, fun q => ⟨by rw [List.length_set]; exact q.1, q.2⟩⟩
      | succ k =>
        rw [List.modify_succ_cons]
        cases h with
        | nil => cases k <;> exact ⟨rfl, id⟩
        | cons r2 h =>
          have := ih k j
          cases k with
          | zero =>
            rw [List.modify_zero_cons] at this ⊢
            exact ⟨by show 16 + _ = 16 + _; rw [this.1], fun q => ⟨q.1, this.2 q.2⟩⟩
          | succ k =>
            rw [List.modify_succ_cons] at this ⊢
            exact ⟨by show 16 + _ = 16 + _; rw [this.1], fun q => ⟨q.1, this.2 q.2⟩⟩
  exact fun {h} => key h _ _
/-- what the start gives of the static cells: the script (0), the row of children (1), the row of longs (2), the text (3) with its bytes (4) -/
def q_chi (i : Nat) : Nat := [0, 0, 1, 2, 2].getD i 0
def q_whe (i : Nat) : Nat := [0xAAAAAAAAAAAAAAAA, 0xCCCCCCCCCCCCCCCC, 0xF0F0F0F0F0F0F0F0, 0xFF00FF00FF00FF00, 0xFFFF0000FFFF0000, 0xFFFFFFFF00000000].getD i 0
def q_txt : String := "t0=dcab;t1=ccb;t2=edabca;m0b=1;m0c=01;m0d=0110;m1a=1;m1d=0001;r00a*=b;r00b*=ca;r00c*=d0x1x;r00d0=e1y0x;r00d1=c0x;r01a*=a;r01c*=1x;r10a*=a;r10b*=cb;r10c*=0x;r10d*=d1x0y;r11a*=b;r11b*=a;"
def q_let : List Nat := [116, 48, 61, 100, 99, 97, 98, 59, 116, 49, 61, 99, 99, 98, 59, 116, 50, 61, 101, 100, 97, 98, 99, 97, 59, 109, 48, 98, 61, 49, 59, 109, 48, 99, 61, 48, 49, 59, 109, 48, 100, 61, 48, 49, 49, 48, 59, 109, 49, 97, 61, 49, 59, 109, 49, 100, 61, 48, 48, 48, 49, 59, 114, 48, 48, 97, 42, 61, 98, 59, 114, 48, 48, 98, 42, 61, 99, 97, 59, 114, 48, 48, 99, 42, 61, 100, 48, 120, 49, 120, 59, 114, 48, 48, 100, 48, 61, 101, 49, 121, 48, 120, 59, 114, 48, 48, 100, 49, 61, 99, 48, 120, 59, 114, 48, 49, 97, 42, 61, 97, 59, 114, 48, 49, 99, 42, 61, 49, 120, 59, 114, 49, 48, 97, 42, 61, 97, 59, 114, 49, 48, 98, 42, 61, 99, 98, 59, 114, 49, 48, 99, 42, 61, 48, 120, 59, 114, 49, 48, 100, 42, 61, 100, 49, 120, 48, 121, 59, 114, 49, 49, 97, 42, 61, 98, 59, 114, 49, 49, 98, 42, 61, 97, 59]
/-- words of nest mates: they are kept beside the others -/
def q_isN : Cond → Bool
  | .fieldLinkNest _ _ _ _ _ _ => true
  | .methodLinkNest _ _ _ _ => true
  | .declares _ => true
  | _ => false
def q_nst : List Cond := lw_tbl.filter q_isN
theorem q_nst_w {s U : State} (hW : s.WarmedH U.vm) {w : Cond} (hw : w ∈ q_nst) (h : va_Nw w s) : va_Nw w U := by
  have h1 : q_isN w = true := (List.mem_filter.mp hw).2
  cases w with
  | fieldLinkNest a b c d e f => exact h.warmF hW
  | methodLinkNest a b c d => exact h.warmM hW
  | declares a => exact h.warmD hW
  | _ => cases h1
theorem q_nst_on {w : Cond} (hw : w ∈ q_nst) : w.onTables = true := by
  have h1 : q_isN w = true := (List.mem_filter.mp hw).2
  cases w with
  | fieldLinkNest a b c d e f => rfl
  | methodLinkNest a b c d => rfl
  | declares a => rfl
  | _ => cases h1
def q_St (E : q_E) (A : Nat → Prop) (U : State) (H : Heap) : Prop :=
  (va_X (E.2.2.1 0) E.2.2.2.2 (fun k => nI (E.2.2.2.1 k)) U H ∧ E.2.2.1 0 < H.size ∧ ¬ A (E.2.2.1 0)) ∧
  (va_Z "TreePasses" "CHILDREN" "[I" (.ref (E.2.2.1 1)) A U H ∧ va_T .int (E.2.2.1 1) 5 (fun i => .int (nI (q_chi i))) A U H) ∧
  (va_Z "TreePasses" "WHERE" "[J" (.ref (E.2.2.1 2)) A U H ∧ va_T .long (E.2.2.1 2) 6 (fun i => .long (lN (q_whe i))) A U H) ∧
  (vk_R "TreePasses" 76 q_txt (E.2.2.1 3) U ∧ vk_S 1 [q_let.length] [q_let.map nI] (fun _ => E.2.2.1 3) (fun _ => E.2.2.1 4) A U H ∧ va_Z "java/lang/String" "COMPACT_STRINGS" "Z" (.int 1) A U H ∧ va_Zq "jdk/internal/util/Preconditions" "SIOOBE_FORMATTER" "Ljava/util/function/BiFunction;" A U H) ∧
  (∀ w ∈ q_nst, va_Nw w U) ∧ va_AO RX2 U
theorem q_St_to {E : q_E} {A B : Nat → Prop} {s U : State} {H : Heap} {locs : List Loc} (h : q_St E A s s.heap) (hW : s.WarmedH U.vm) (hS : va_S A s.heap H locs) (hAB : ∀ q, B q → A q) : q_St E B U H := by
  obtain ⟨⟨a1, a2, a3⟩, ⟨b1, b2⟩, ⟨c1, c2⟩, ⟨d1, d2, d3, d4⟩, n1, n2⟩ := h
  have hq := hS.2.1
  have ha := hW.alike
  refine ⟨⟨(a1.kept (hq _ a2 a3)).moved ha, Nat.lt_of_lt_of_le a2 hS.1, fun z => a3 (hAB _ z)⟩, ⟨((b1.kept hq).moved ha).narrow hAB, ((b2.kept hq).moved ha).narrow hAB⟩, ⟨((c1.kept hq).moved ha).narrow hAB, ((c2.kept hq).moved ha).narrow hAB⟩, ⟨d1.warm hW, ((d2.kept hq).moved ha).narrow hAB, ((d3.kept hq).moved ha).narrow hAB, d4.elim (fun z => Or.inl (((z.kept hq).moved ha).narrow hAB)) (fun z => z.elim (fun t z => Or.inr ⟨t, ((z.kept hq).moved ha).narrow hAB⟩))⟩, fun w hw => q_nst_w hW hw (n1 w hw), n2.moved ha⟩
def q_gd : List Cond := lw_tbl.filter goodWord
def q_Cx (E : q_E) (M : q_M) (p : Program) (R : Room) (s : State) (m : MethodId) (args : Array Value) (meth : Method) (c : Code) (A : Nat → Prop) : Prop :=
  (p.tables.exec = Jvm.exec ∧ c.code = M.2.1) ∧ c.maxLocals = M.2.2.1 ∧ meth.sig.returnType = M.2.2.2.1 ∧ meth.locks = false ∧ s.vm.findClass M.1.cls = some m.cls ∧ (∀ w ∈ q_gd, w.before args s = true) ∧ meth.name = M.1.name ∧ R = M.2.2.2.2 ∧ q_St E A s s.heap ∧ (∀ q, s.heap.size ≤ q → A q)
def q_At (E : q_E) (nL : Nat) (s : State) (A : Nat → Prop) (ad0 : List Nat) (lo : q_Lo) (st : List q_V) (h : q_H) (H : Heap) (locs : List Loc) (ls : Array Slot) (stv : List Value) : Prop :=
  ∃ (ad : List Nat) (tys : List (ClassId × FieldType)) (ws : va_W) (lv : List (Nat × Value)), (∃ z, ad = ad0 ++ z) ∧ va_K E.2.1 q_cl tys s ∧ (lv_has ls nL lv ∧ q_lr E ad lo lv) ∧ q_sr E ad st stv ∧ q_hr tys ad h ws ∧ va_P E.2.1 q_cl ws H ∧ va_D A ws ∧ va_S A s.heap H locs
/-- the instruction that returns this value -/
def q_ri (cc : ByteArray) (rt : Option FieldType) (pc : Nat) : Option q_V → Prop
  | none => decode cc pc = .ok (.return_, 1) ∧ rt = none
  | some (.inl n) => decode cc pc = .ok (.ireturn, 1) ∧ (rt = some .int ∨ ∃ ty, rt = some ty ∧ narrow ty (.int (nI n)) = .int (nI n))
  | some (.inr (.inl _)) => decode cc pc = .ok (.areturn, 1) ∧ ∃ n, rt = some (.object n)
  | some (.inr (.inr (.inl _))) => decode cc pc = .ok (.lreturn, 1) ∧ rt = some .long
  | some (.inr (.inr (.inr (.inl _)))) => decode cc pc = .ok (.ireturn, 1) ∧ rt = some .int
  | _ => False
def q_Rt (E : q_E) (M : q_M) (Q : Option q_V → q_H → Prop) (p : Program) (e : Env) (R : Room) (s : State) (m : MethodId) (args : Array Value) (below : List Frame) (meth : Method) (c : Code) (A : Nat → Prop) (ad0 : List Nat) (Z : State → Prop) : Prop :=
  ∀ (pc : Nat) (ls : Array Slot) (r : Option q_V) (stv : List Value) (h : q_H) (H : Heap) (locs : List Loc) (ce sl : Nat), q_ri M.2.1 M.2.2.2.1 pc r → q_At E M.2.2.1 s A ad0 [] r.toList h H locs ls stv → Q r h → ce ≤ R.cells → sl ≤ R.slots → W p E.1 e R s m args below meth c H locs ce sl Z (F0 m pc ls stv)
def q_W (E : q_E) (M : q_M) (Q : Option q_V → q_H → Prop) (pc : Nat) (lo : q_Lo) (st : List q_V) (ce sl : Nat) (h : q_H) : Prop :=
  ∀ (p : Program) (e : Env) (R : Room) (s : State) (m : MethodId) (args : Array Value) (below : List Frame) (meth : Method) (c : Code) (A : Nat → Prop) (ad0 : List Nat) (Z : State → Prop) (H : Heap) (locs : List Loc) (ls : Array Slot) (stv : List Value),
    q_Cx E M p R s m args meth c A → q_At E M.2.2.1 s A ad0 lo st h H locs ls stv → q_Rt E M Q p e R s m args below meth c A ad0 Z → W p E.1 e R s m args below meth c H locs ce sl Z (F0 m pc ls stv)
theorem q_W.go {E : q_E} {M : q_M} {Q : Option q_V → q_H → Prop} {pc : Nat} {lo : q_Lo} {st : List q_V} {ce sl : Nat} {h : q_H} (k : q_W E M Q pc lo st ce sl h) {p : Program} {e : Env} {R : Room} {s : State} {m : MethodId} {args : Array Value} {below : List Frame} {meth : Method} {c : Code} {A : Nat → Prop} {ad0 : List Nat} {Z : State → Prop} {H : Heap} {locs : List Loc} {ls : Array Slot} {stv : List Value} (C : q_Cx E M p R s m args meth c A) (T : q_At E M.2.2.1 s A ad0 lo st h H locs ls stv) (Rt : q_Rt E M Q p e R s m args below meth c A ad0 Z) : W p E.1 e R s m args below meth c H locs ce sl Z (F0 m pc ls stv) :=
  k p e R s m args below meth c A ad0 Z H locs ls stv C T Rt
/-- a word of a nest mate, at the frame's start -/
theorem q_Cx_nst {E : q_E} {M : q_M} {p : Program} {R : Room} {s : State} {m : MethodId} {args : Array Value} {meth : Method} {c : Code} {A : Nat → Prop} (C : q_Cx E M p R s m args meth c A) {w : Cond} (hw : w ∈ q_nst) : w.before args s = true :=
  (C.2.2.2.2.2.2.2.2.1.2.2.2.2.1 w hw).use (q_nst_on hw)
end
section
theorem q_bi0 : q_bi 0 = 2147483648 := by decide
theorem q_eq0 {a : Nat} : nI a = 0 ↔ q_bi a = 2147483648 := by rw [← q_bi0]; exact q_eq (b := 0)
theorem q_lt0 {a : Nat} : nI a < 0 ↔ q_bi a < 2147483648 := by rw [← q_bi0]; exact q_lt (b := 0)
theorem q_le0 {a : Nat} : nI a ≤ 0 ↔ q_bi a ≤ 2147483648 := by rw [← q_bi0]; exact q_le (b := 0)
theorem q_gt0 {a : Nat} : 0 < nI a ↔ 2147483648 < q_bi a := by rw [← q_bi0]; exact q_lt (a := 0)
theorem q_ge0 {a : Nat} : 0 ≤ nI a ↔ 2147483648 ≤ q_bi a := by rw [← q_bi0]; exact q_le (a := 0)
section
variable {E : q_E} {M : q_M} {Q : Option q_V → q_H → Prop} {pc : Nat} {lo : q_Lo} {st : List q_V} {ce sl : Nat} {h : q_H}

theorem q_iadd {a b : Nat} (hd : decode M.2.1 pc = .ok (.iadd, 1))
    (k : q_W E M Q (pc + 1) lo ((.inl ((a + b) % 4294967296)) :: st) ce sl h) : q_W E M Q pc lo ((.inl b) :: (.inl a) :: st) ce sl h := by
  intro p e R s m args below meth c A ad0 Z H locs ls stv C T Rt
  obtain ⟨ad, tys, ws, lv, h1, h2, h3, h4, h5⟩ := T
  match stv, h4 with
  | v0 :: v1 :: stv, ⟨e0, e1, h4⟩ =>
    cases e0
    cases e1
    refine lv_iadd C.1.1 C.1.2 hd ?_
    rw [q_add]
    exact k.go C ⟨ad, tys, ws, lv, h1, h2, h3, ⟨rfl, h4⟩, h5⟩ Rt

theorem q_isub {a b : Nat} (hd : decode M.2.1 pc = .ok (.isub, 1))
    (k : q_W E M Q (pc + 1) lo ((.inl ((a + (4294967296 - b % 4294967296)) % 4294967296)) :: st) ce sl h) : q_W E M Q pc lo ((.inl b) :: (.inl a) :: st) ce sl h := by
  intro p e R s m args below meth c A ad0 Z H locs ls stv C T Rt
  obtain ⟨ad, tys, ws, lv, h1, h2, h3, h4, h5⟩ := T
  match stv, h4 with
  | v0 :: v1 :: stv, ⟨e0, e1, h4⟩ =>
    cases e0
    cases e1
    refine lv_isub C.1.1 C.1.2 hd ?_
    rw [q_sub]
    exact k.go C ⟨ad, tys, ws, lv, h1, h2, h3, ⟨rfl, h4⟩, h5⟩ Rt

theorem q_imul {a b : Nat} (hd : decode M.2.1 pc = .ok (.imul, 1))
    (k : q_W E M Q (pc + 1) lo ((.inl ((a * b) % 4294967296)) :: st) ce sl h) : q_W E M Q pc lo ((.inl b) :: (.inl a) :: st) ce sl h := by
  intro p e R s m args below meth c A ad0 Z H locs ls stv C T Rt
  obtain ⟨ad, tys, ws, lv, h1, h2, h3, h4, h5⟩ := T
  match stv, h4 with
  | v0 :: v1 :: stv, ⟨e0, e1, h4⟩ =>
    cases e0
    cases e1
    refine lv_imul C.1.1 C.1.2 hd ?_
    rw [q_mul]
    exact k.go C ⟨ad, tys, ws, lv, h1, h2, h3, ⟨rfl, h4⟩, h5⟩ Rt

theorem q_iand {a b : Nat} (hd : decode M.2.1 pc = .ok (.iand, 1))
    (k : q_W E M Q (pc + 1) lo ((.inl (a &&& b)) :: st) ce sl h) : q_W E M Q pc lo ((.inl b) :: (.inl a) :: st) ce sl h := by
  intro p e R s m args below meth c A ad0 Z H locs ls stv C T Rt
  obtain ⟨ad, tys, ws, lv, h1, h2, h3, h4, h5⟩ := T
  match stv, h4 with
  | v0 :: v1 :: stv, ⟨e0, e1, h4⟩ =>
    cases e0
    cases e1
    refine lv_iand C.1.1 C.1.2 hd ?_
    rw [q_and]
    exact k.go C ⟨ad, tys, ws, lv, h1, h2, h3, ⟨rfl, h4⟩, h5⟩ Rt

theorem q_ior {a b : Nat} (hd : decode M.2.1 pc = .ok (.ior, 1))
    (k : q_W E M Q (pc + 1) lo ((.inl (a ||| b)) :: st) ce sl h) : q_W E M Q pc lo ((.inl b) :: (.inl a) :: st) ce sl h := by
  intro p e R s m args below meth c A ad0 Z H locs ls stv C T Rt
  obtain ⟨ad, tys, ws, lv, h1, h2, h3, h4, h5⟩ := T
  match stv, h4 with
  | v0 :: v1 :: stv, ⟨e0, e1, h4⟩ =>
    cases e0
    cases e1
    refine lv_ior C.1.1 C.1.2 hd ?_
    rw [q_or]
    exact k.go C ⟨ad, tys, ws, lv, h1, h2, h3, ⟨rfl, h4⟩, h5⟩ Rt

theorem q_ishl {a b : Nat} (hd : decode M.2.1 pc = .ok (.ishl, 1)) (hb : b < 32)
    (k : q_W E M Q (pc + 1) lo ((.inl ((a * 2 ^ b) % 4294967296)) :: st) ce sl h) : q_W E M Q pc lo ((.inl b) :: (.inl a) :: st) ce sl h := by
  intro p e R s m args below meth c A ad0 Z H locs ls stv C T Rt
  obtain ⟨ad, tys, ws, lv, h1, h2, h3, h4, h5⟩ := T
  match stv, h4 with
  | v0 :: v1 :: stv, ⟨e0, e1, h4⟩ =>
    cases e0
    cases e1
    refine lv_ishl C.1.1 C.1.2 hd ?_
    rw [q_shl hb]
    exact k.go C ⟨ad, tys, ws, lv, h1, h2, h3, ⟨rfl, h4⟩, h5⟩ Rt

theorem q_ishr {a b : Nat} (hd : decode M.2.1 pc = .ok (.ishr, 1)) (ha : a < 2147483648) (hb : b < 32)
    (k : q_W E M Q (pc + 1) lo ((.inl (a / 2 ^ b)) :: st) ce sl h) : q_W E M Q pc lo ((.inl b) :: (.inl a) :: st) ce sl h := by
  intro p e R s m args below meth c A ad0 Z H locs ls stv C T Rt
  obtain ⟨ad, tys, ws, lv, h1, h2, h3, h4, h5⟩ := T
  match stv, h4 with
  | v0 :: v1 :: stv, ⟨e0, e1, h4⟩ =>
    cases e0
    cases e1
    refine lv_ishr C.1.1 C.1.2 hd ?_
    rw [q_shr ha hb]
    exact k.go C ⟨ad, tys, ws, lv, h1, h2, h3, ⟨rfl, h4⟩, h5⟩ Rt

theorem q_idiv {a b : Nat} (hd : decode M.2.1 pc = .ok (.idiv, 1)) (ha : a < 2147483648) (hb : b < 2147483648) (h0 : 0 < b)
    (k : q_W E M Q (pc + 1) lo ((.inl (a / b)) :: st) ce sl h) : q_W E M Q pc lo ((.inl b) :: (.inl a) :: st) ce sl h := by
  intro p e R s m args below meth c A ad0 Z H locs ls stv C T Rt
  obtain ⟨ad, tys, ws, lv, h1, h2, h3, h4, h5⟩ := T
  match stv, h4 with
  | v0 :: v1 :: stv, ⟨e0, e1, h4⟩ =>
    cases e0
    cases e1
    refine lv_idiv C.1.1 C.1.2 hd (nI_ne0 h0 hb) ?_
    rw [q_div ha hb]
    exact k.go C ⟨ad, tys, ws, lv, h1, h2, h3, ⟨rfl, h4⟩, h5⟩ Rt

theorem q_irem {a b : Nat} (hd : decode M.2.1 pc = .ok (.irem, 1)) (ha : a < 2147483648) (hb : b < 2147483648) (h0 : 0 < b)
    (k : q_W E M Q (pc + 1) lo ((.inl (a % b)) :: st) ce sl h) : q_W E M Q pc lo ((.inl b) :: (.inl a) :: st) ce sl h := by
  intro p e R s m args below meth c A ad0 Z H locs ls stv C T Rt
  obtain ⟨ad, tys, ws, lv, h1, h2, h3, h4, h5⟩ := T
  match stv, h4 with
  | v0 :: v1 :: stv, ⟨e0, e1, h4⟩ =>
    cases e0
    cases e1
    refine lv_irem C.1.1 C.1.2 hd (nI_ne0 h0 hb) ?_
    rw [q_rem ha hb]
    exact k.go C ⟨ad, tys, ws, lv, h1, h2, h3, ⟨rfl, h4⟩, h5⟩ Rt

theorem q_land {a b : Nat} (hd : decode M.2.1 pc = .ok (.land, 1))
    (k : q_W E M Q (pc + 1) lo ((.inr (.inr (.inl (a &&& b)))) :: st) ce sl h) : q_W E M Q pc lo ((.inr (.inr (.inl b))) :: (.inr (.inr (.inl a))) :: st) ce sl h := by
  intro p e R s m args below meth c A ad0 Z H locs ls stv C T Rt
  obtain ⟨ad, tys, ws, lv, h1, h2, h3, h4, h5⟩ := T
  match stv, h4 with
  | v0 :: v1 :: stv, ⟨e0, e1, h4⟩ =>
    cases e0
    cases e1
    refine lv_land C.1.1 C.1.2 hd ?_
    rw [q_andL]
    exact k.go C ⟨ad, tys, ws, lv, h1, h2, h3, ⟨rfl, h4⟩, h5⟩ Rt

theorem q_lor {a b : Nat} (hd : decode M.2.1 pc = .ok (.lor, 1))
    (k : q_W E M Q (pc + 1) lo ((.inr (.inr (.inl (a ||| b)))) :: st) ce sl h) : q_W E M Q pc lo ((.inr (.inr (.inl b))) :: (.inr (.inr (.inl a))) :: st) ce sl h := by
  intro p e R s m args below meth c A ad0 Z H locs ls stv C T Rt
  obtain ⟨ad, tys, ws, lv, h1, h2, h3, h4, h5⟩ := T
  match stv, h4 with
  | v0 :: v1 :: stv, ⟨e0, e1, h4⟩ =>
    cases e0
    cases e1
    refine lv_lor C.1.1 C.1.2 hd ?_
    rw [q_orL]
    exact k.go C ⟨ad, tys, ws, lv, h1, h2, h3, ⟨rfl, h4⟩, h5⟩ Rt

theorem q_lxor {a b : Nat} (hd : decode M.2.1 pc = .ok (.lxor, 1))
    (k : q_W E M Q (pc + 1) lo ((.inr (.inr (.inl (a ^^^ b)))) :: st) ce sl h) : q_W E M Q pc lo ((.inr (.inr (.inl b))) :: (.inr (.inr (.inl a))) :: st) ce sl h := by
  intro p e R s m args below meth c A ad0 Z H locs ls stv C T Rt
  obtain ⟨ad, tys, ws, lv, h1, h2, h3, h4, h5⟩ := T
  match stv, h4 with
  | v0 :: v1 :: stv, ⟨e0, e1, h4⟩ =>
    cases e0
    cases e1
    refine lv_lxor C.1.1 C.1.2 hd ?_
    rw [q_xorL]
    exact k.go C ⟨ad, tys, ws, lv, h1, h2, h3, ⟨rfl, h4⟩, h5⟩ Rt

theorem q_lushr {a b : Nat} (hd : decode M.2.1 pc = .ok (.lushr, 1)) (hb : b < 64)
    (k : q_W E M Q (pc + 1) lo ((.inr (.inr (.inl ((a % 18446744073709551616) / 2 ^ b)))) :: st) ce sl h) : q_W E M Q pc lo ((.inl b) :: (.inr (.inr (.inl a))) :: st) ce sl h := by
  intro p e R s m args below meth c A ad0 Z H locs ls stv C T Rt
  obtain ⟨ad, tys, ws, lv, h1, h2, h3, h4, h5⟩ := T
  match stv, h4 with
  | v0 :: v1 :: stv, ⟨e0, e1, h4⟩ =>
    cases e0
    cases e1
    refine lv_lushr C.1.1 C.1.2 hd (q_ushrL hb) ?_
    exact k.go C ⟨ad, tys, ws, lv, h1, h2, h3, ⟨rfl, h4⟩, h5⟩ Rt

theorem q_i2l_ {a : Nat} (hd : decode M.2.1 pc = .ok (.i2l, 1))
    (k : q_W E M Q (pc + 1) lo ((.inr (.inr (.inl ((q_bi a + 18446744071562067968) % 18446744073709551616)))) :: st) ce sl h) : q_W E M Q pc lo ((.inl a) :: st) ce sl h := by
  intro p e R s m args below meth c A ad0 Z H locs ls stv C T Rt
  obtain ⟨ad, tys, ws, lv, h1, h2, h3, h4, h5⟩ := T
  match stv, h4 with
  | v0 :: stv, ⟨e0, h4⟩ =>
    cases e0
    refine lv_i2l C.1.1 C.1.2 hd (q_i2l a) ?_
    exact k.go C ⟨ad, tys, ws, lv, h1, h2, h3, ⟨rfl, h4⟩, h5⟩ Rt

theorem q_i2lS {a : Nat} (hd : decode M.2.1 pc = .ok (.i2l, 1))
    (k : q_W E M Q (pc + 1) lo ((.inr (.inr (.inr (.inr (.inl a))))) :: st) ce sl h) : q_W E M Q pc lo ((.inr (.inr (.inr (.inl a)))) :: st) ce sl h := by
  intro p e R s m args below meth c A ad0 Z H locs ls stv C T Rt
  obtain ⟨ad, tys, ws, lv, h1, h2, h3, h4, h5⟩ := T
  match stv, h4 with
  | v0 :: stv, ⟨e0, h4⟩ =>
    cases e0
    refine lv_i2l C.1.1 C.1.2 hd rfl ?_
    exact k.go C ⟨ad, tys, ws, lv, h1, h2, h3, ⟨rfl, h4⟩, h5⟩ Rt

theorem q_l2i_ {a : Nat} (hd : decode M.2.1 pc = .ok (.l2i, 1))
    (k : q_W E M Q (pc + 1) lo ((.inl (a % 4294967296)) :: st) ce sl h) : q_W E M Q pc lo ((.inr (.inr (.inl a))) :: st) ce sl h := by
  intro p e R s m args below meth c A ad0 Z H locs ls stv C T Rt
  obtain ⟨ad, tys, ws, lv, h1, h2, h3, h4, h5⟩ := T
  match stv, h4 with
  | v0 :: stv, ⟨e0, h4⟩ =>
    cases e0
    refine lv_l2i C.1.1 C.1.2 hd (q_l2i a) ?_
    exact k.go C ⟨ad, tys, ws, lv, h1, h2, h3, ⟨rfl, h4⟩, h5⟩ Rt

theorem q_i2c_ {a : Nat} (hd : decode M.2.1 pc = .ok (.i2c, 1))
    (k : q_W E M Q (pc + 1) lo ((.inl (a % 65536)) :: st) ce sl h) : q_W E M Q pc lo ((.inl a) :: st) ce sl h := by
  intro p e R s m args below meth c A ad0 Z H locs ls stv C T Rt
  obtain ⟨ad, tys, ws, lv, h1, h2, h3, h4, h5⟩ := T
  match stv, h4 with
  | v0 :: stv, ⟨e0, h4⟩ =>
    cases e0
    refine lv_i2c C.1.1 C.1.2 hd (q_i2c a) ?_
    exact k.go C ⟨ad, tys, ws, lv, h1, h2, h3, ⟨rfl, h4⟩, h5⟩ Rt

theorem q_iconst {n : Int} {a : Nat} (hd : decode M.2.1 pc = .ok (.iconst n, 1)) (hv : Int32.ofInt n = nI a)
    (k : q_W E M Q (pc + 1) lo ((.inl a) :: st) ce sl h) : q_W E M Q pc lo (st) ce sl h := by
  intro p e R s m args below meth c A ad0 Z H locs ls stv C T Rt
  obtain ⟨ad, tys, ws, lv, h1, h2, h3, h4, h5⟩ := T
  refine lv_iconst C.1.1 C.1.2 hd hv ?_
  exact k.go C ⟨ad, tys, ws, lv, h1, h2, h3, ⟨rfl, h4⟩, h5⟩ Rt

theorem q_bipush {n : Int} {a : Nat} (hd : decode M.2.1 pc = .ok (.bipush n, 2)) (hv : (Int8.ofInt n).toInt32 = nI a)
    (k : q_W E M Q (pc + 2) lo ((.inl a) :: st) ce sl h) : q_W E M Q pc lo (st) ce sl h := by
  intro p e R s m args below meth c A ad0 Z H locs ls stv C T Rt
  obtain ⟨ad, tys, ws, lv, h1, h2, h3, h4, h5⟩ := T
  refine lv_bipush C.1.1 C.1.2 hd hv ?_
  exact k.go C ⟨ad, tys, ws, lv, h1, h2, h3, ⟨rfl, h4⟩, h5⟩ Rt

theorem q_sipush {n : Int} {a : Nat} (hd : decode M.2.1 pc = .ok (.sipush n, 3)) (hv : (Int16.ofInt n).toInt32 = nI a)
    (k : q_W E M Q (pc + 3) lo ((.inl a) :: st) ce sl h) : q_W E M Q pc lo (st) ce sl h := by
  intro p e R s m args below meth c A ad0 Z H locs ls stv C T Rt
  obtain ⟨ad, tys, ws, lv, h1, h2, h3, h4, h5⟩ := T
  refine lv_sipush C.1.1 C.1.2 hd hv ?_
  exact k.go C ⟨ad, tys, ws, lv, h1, h2, h3, ⟨rfl, h4⟩, h5⟩ Rt

theorem q_lconst {n : Fin 2} {a : Nat} (hd : decode M.2.1 pc = .ok (.lconst n, 1)) (hv : Int64.ofNat (n : Nat) = lN a)
    (k : q_W E M Q (pc + 1) lo ((.inr (.inr (.inl a))) :: st) ce sl h) : q_W E M Q pc lo (st) ce sl h := by
  intro p e R s m args below meth c A ad0 Z H locs ls stv C T Rt
  obtain ⟨ad, tys, ws, lv, h1, h2, h3, h4, h5⟩ := T
  refine lv_lconst C.1.1 C.1.2 hd hv ?_
  exact k.go C ⟨ad, tys, ws, lv, h1, h2, h3, ⟨rfl, h4⟩, h5⟩ Rt

theorem q_ldc {i : Nat} {a : Nat} (hd : decode M.2.1 pc = .ok (.ldc i, 2)) (hw : Cond.constant M.1.cls i (nI a) ∈ q_gd)
    (k : q_W E M Q (pc + 2) lo ((.inl a) :: st) ce sl h) : q_W E M Q pc lo (st) ce sl h := by
  intro p e R s m args below meth c A ad0 Z H locs ls stv C T Rt
  obtain ⟨ad, tys, ws, lv, h1, h2, h3, h4, h5⟩ := T
  refine lv_ldc C.1.1 C.1.2 C.2.2.2.2.1 (C.2.2.2.2.2.1 _ hw) hd ?_
  exact k.go C ⟨ad, tys, ws, lv, h1, h2, h3, ⟨rfl, h4⟩, h5⟩ Rt

theorem q_ldc2 {i : Nat} {a : Nat} (hd : decode M.2.1 pc = .ok (.ldc2_w i, 3)) (hw : Cond.constantLong M.1.cls i (lN a) ∈ q_gd)
    (k : q_W E M Q (pc + 3) lo ((.inr (.inr (.inl a))) :: st) ce sl h) : q_W E M Q pc lo (st) ce sl h := by
  intro p e R s m args below meth c A ad0 Z H locs ls stv C T Rt
  obtain ⟨ad, tys, ws, lv, h1, h2, h3, h4, h5⟩ := T
  refine lv_ldc2 C.1.1 C.1.2 C.2.2.2.2.1 (C.2.2.2.2.2.1 _ hw) hd ?_
  exact k.go C ⟨ad, tys, ws, lv, h1, h2, h3, ⟨rfl, h4⟩, h5⟩ Rt

theorem q_dup {x : q_V} (hd : decode M.2.1 pc = .ok (.dup, 1)) (hx : q_cat x = 1)
    (k : q_W E M Q (pc + 1) lo (x :: x :: st) ce sl h) : q_W E M Q pc lo (x :: st) ce sl h := by
  intro p e R s m args below meth c A ad0 Z H locs ls stv C T Rt
  obtain ⟨ad, tys, ws, lv, h1, h2, h3, h4, h5⟩ := T
  match stv, h4 with
  | v0 :: stv, ⟨e0, h4⟩ =>
    refine lv_dup C.1.1 C.1.2 hd (by rw [q_vr_cat e0, hx]) ?_
    exact k.go C ⟨ad, tys, ws, lv, h1, h2, h3, ⟨e0, e0, h4⟩, h5⟩ Rt
theorem q_dup2 {x y : q_V} (hd : decode M.2.1 pc = .ok (.dup2, 1)) (hx : q_cat x = 1) (hy : q_cat y = 1)
    (k : q_W E M Q (pc + 1) lo (x :: y :: x :: y :: st) ce sl h) : q_W E M Q pc lo (x :: y :: st) ce sl h := by
  intro p e R s m args below meth c A ad0 Z H locs ls stv C T Rt
  obtain ⟨ad, tys, ws, lv, h1, h2, h3, h4, h5⟩ := T
  match stv, h4 with
  | v0 :: v1 :: stv, ⟨e0, e1, h4⟩ =>
    refine lv_dup2_11 C.1.1 C.1.2 hd (by rw [q_vr_cat e0, hx]) (by rw [q_vr_cat e1, hy]) ?_
    exact k.go C ⟨ad, tys, ws, lv, h1, h2, h3, ⟨e0, e1, e0, e1, h4⟩, h5⟩ Rt
theorem q_pop {x : q_V} (hd : decode M.2.1 pc = .ok (.pop, 1)) (hx : q_cat x = 1)
    (k : q_W E M Q (pc + 1) lo st ce sl h) : q_W E M Q pc lo (x :: st) ce sl h := by
  intro p e R s m args below meth c A ad0 Z H locs ls stv C T Rt
  obtain ⟨ad, tys, ws, lv, h1, h2, h3, h4, h5⟩ := T
  match stv, h4 with
  | v0 :: stv, ⟨e0, h4⟩ =>
    refine lv_pop C.1.1 C.1.2 hd (by rw [q_vr_cat e0, hx]) ?_
    exact k.go C ⟨ad, tys, ws, lv, h1, h2, h3, h4, h5⟩ Rt
theorem q_goto {off : Int} {tgt : Nat} (hd : decode M.2.1 pc = .ok (.goto off, 3)) (ht : (pc : Int) + off = (tgt : Int))
    (k : q_W E M Q tgt lo st ce sl h) : q_W E M Q pc lo st ce sl h := by
  intro p e R s m args below meth c A ad0 Z H locs ls stv C T Rt
  exact lv_goto C.1.1 C.1.2 hd ht (k.go C T Rt)

theorem q_iload_ni {k0 : Fin 4} {i a : Nat} (hd : decode M.2.1 pc = .ok (.iload_n k0, 1)) (hi : (k0 : Nat) = i) (hl : q_lg lo i = some (.inl a))
    (k : q_W E M Q (pc + 1) lo ((.inl a) :: st) ce sl h) : q_W E M Q pc lo st ce sl h := by
  intro p e R s m args below meth c A ad0 Z H locs ls stv C T Rt
  obtain ⟨ad, tys, ws, lv, h1, h2, h3, h4, h5⟩ := T
  obtain ⟨j, hj⟩ := q_lg_get hl
  obtain ⟨v, g1, g2⟩ := q_lr_get h3.2 hj
  have g3 := id g2
  cases g2
  refine lv_iload_n C.1.1 C.1.2 hd hi (lv_at h3.1 j g1) ?_
  exact k.go C ⟨ad, tys, ws, lv, h1, h2, h3, ⟨g3, h4⟩, h5⟩ Rt

theorem q_iload_ns {k0 : Fin 4} {i a : Nat} (hd : decode M.2.1 pc = .ok (.iload_n k0, 1)) (hi : (k0 : Nat) = i) (hl : q_lg lo i = some (.inr (.inr (.inr (.inl a)))))
    (k : q_W E M Q (pc + 1) lo ((.inr (.inr (.inr (.inl a)))) :: st) ce sl h) : q_W E M Q pc lo st ce sl h := by
  intro p e R s m args below meth c A ad0 Z H locs ls stv C T Rt
  obtain ⟨ad, tys, ws, lv, h1, h2, h3, h4, h5⟩ := T
  obtain ⟨j, hj⟩ := q_lg_get hl
  obtain ⟨v, g1, g2⟩ := q_lr_get h3.2 hj
  have g3 := id g2
  cases g2
  refine lv_iload_n C.1.1 C.1.2 hd hi (lv_at h3.1 j g1) ?_
  exact k.go C ⟨ad, tys, ws, lv, h1, h2, h3, ⟨g3, h4⟩, h5⟩ Rt

theorem q_iloadi {i a : Nat} (hd : decode M.2.1 pc = .ok (.iload i, 2)) (hl : q_lg lo i = some (.inl a))
    (k : q_W E M Q (pc + 2) lo ((.inl a) :: st) ce sl h) : q_W E M Q pc lo st ce sl h := by
  intro p e R s m args below meth c A ad0 Z H locs ls stv C T Rt
  obtain ⟨ad, tys, ws, lv, h1, h2, h3, h4, h5⟩ := T
  obtain ⟨j, hj⟩ := q_lg_get hl
  obtain ⟨v, g1, g2⟩ := q_lr_get h3.2 hj
  have g3 := id g2
  cases g2
  refine lv_iload C.1.1 C.1.2 hd (lv_at h3.1 j g1) ?_
  exact k.go C ⟨ad, tys, ws, lv, h1, h2, h3, ⟨g3, h4⟩, h5⟩ Rt

theorem q_iloads {i a : Nat} (hd : decode M.2.1 pc = .ok (.iload i, 2)) (hl : q_lg lo i = some (.inr (.inr (.inr (.inl a)))))
    (k : q_W E M Q (pc + 2) lo ((.inr (.inr (.inr (.inl a)))) :: st) ce sl h) : q_W E M Q pc lo st ce sl h := by
  intro p e R s m args below meth c A ad0 Z H locs ls stv C T Rt
  obtain ⟨ad, tys, ws, lv, h1, h2, h3, h4, h5⟩ := T
  obtain ⟨j, hj⟩ := q_lg_get hl
  obtain ⟨v, g1, g2⟩ := q_lr_get h3.2 hj
  have g3 := id g2
  cases g2
  refine lv_iload C.1.1 C.1.2 hd (lv_at h3.1 j g1) ?_
  exact k.go C ⟨ad, tys, ws, lv, h1, h2, h3, ⟨g3, h4⟩, h5⟩ Rt

theorem q_lload_nl {k0 : Fin 4} {i a : Nat} (hd : decode M.2.1 pc = .ok (.lload_n k0, 1)) (hi : (k0 : Nat) = i) (hl : q_lg lo i = some (.inr (.inr (.inl a))))
    (k : q_W E M Q (pc + 1) lo ((.inr (.inr (.inl a))) :: st) ce sl h) : q_W E M Q pc lo st ce sl h := by
  intro p e R s m args below meth c A ad0 Z H locs ls stv C T Rt
  obtain ⟨ad, tys, ws, lv, h1, h2, h3, h4, h5⟩ := T
  obtain ⟨j, hj⟩ := q_lg_get hl
  obtain ⟨v, g1, g2⟩ := q_lr_get h3.2 hj
  have g3 := id g2
  cases g2
  refine lv_lload_n C.1.1 C.1.2 hd hi (lv_at h3.1 j g1) ?_
  exact k.go C ⟨ad, tys, ws, lv, h1, h2, h3, ⟨g3, h4⟩, h5⟩ Rt

theorem q_lload_nt {k0 : Fin 4} {i a : Nat} (hd : decode M.2.1 pc = .ok (.lload_n k0, 1)) (hi : (k0 : Nat) = i) (hl : q_lg lo i = some (.inr (.inr (.inr (.inr (.inl a))))))
    (k : q_W E M Q (pc + 1) lo ((.inr (.inr (.inr (.inr (.inl a))))) :: st) ce sl h) : q_W E M Q pc lo st ce sl h := by
  intro p e R s m args below meth c A ad0 Z H locs ls stv C T Rt
  obtain ⟨ad, tys, ws, lv, h1, h2, h3, h4, h5⟩ := T
  obtain ⟨j, hj⟩ := q_lg_get hl
  obtain ⟨v, g1, g2⟩ := q_lr_get h3.2 hj
  have g3 := id g2
  cases g2
  refine lv_lload_n C.1.1 C.1.2 hd hi (lv_at h3.1 j g1) ?_
  exact k.go C ⟨ad, tys, ws, lv, h1, h2, h3, ⟨g3, h4⟩, h5⟩ Rt

theorem q_lloadl {i a : Nat} (hd : decode M.2.1 pc = .ok (.lload i, 2)) (hl : q_lg lo i = some (.inr (.inr (.inl a))))
    (k : q_W E M Q (pc + 2) lo ((.inr (.inr (.inl a))) :: st) ce sl h) : q_W E M Q pc lo st ce sl h := by
  intro p e R s m args below meth c A ad0 Z H locs ls stv C T Rt
  obtain ⟨ad, tys, ws, lv, h1, h2, h3, h4, h5⟩ := T
  obtain ⟨j, hj⟩ := q_lg_get hl
  obtain ⟨v, g1, g2⟩ := q_lr_get h3.2 hj
  have g3 := id g2
  cases g2
  refine lv_lload C.1.1 C.1.2 hd (lv_at h3.1 j g1) ?_
  exact k.go C ⟨ad, tys, ws, lv, h1, h2, h3, ⟨g3, h4⟩, h5⟩ Rt

theorem q_lloadt {i a : Nat} (hd : decode M.2.1 pc = .ok (.lload i, 2)) (hl : q_lg lo i = some (.inr (.inr (.inr (.inr (.inl a))))))
    (k : q_W E M Q (pc + 2) lo ((.inr (.inr (.inr (.inr (.inl a))))) :: st) ce sl h) : q_W E M Q pc lo st ce sl h := by
  intro p e R s m args below meth c A ad0 Z H locs ls stv C T Rt
  obtain ⟨ad, tys, ws, lv, h1, h2, h3, h4, h5⟩ := T
  obtain ⟨j, hj⟩ := q_lg_get hl
  obtain ⟨v, g1, g2⟩ := q_lr_get h3.2 hj
  have g3 := id g2
  cases g2
  refine lv_lload C.1.1 C.1.2 hd (lv_at h3.1 j g1) ?_
  exact k.go C ⟨ad, tys, ws, lv, h1, h2, h3, ⟨g3, h4⟩, h5⟩ Rt

theorem q_aload_nr {k0 : Fin 4} {i a : Nat} (hd : decode M.2.1 pc = .ok (.aload_n k0, 1)) (hi : (k0 : Nat) = i) (hl : q_lg lo i = some (.inr (.inl a)))
    (k : q_W E M Q (pc + 1) lo ((.inr (.inl a)) :: st) ce sl h) : q_W E M Q pc lo st ce sl h := by
  intro p e R s m args below meth c A ad0 Z H locs ls stv C T Rt
  obtain ⟨ad, tys, ws, lv, h1, h2, h3, h4, h5⟩ := T
  obtain ⟨j, hj⟩ := q_lg_get hl
  obtain ⟨v, g1, g2⟩ := q_lr_get h3.2 hj
  obtain ⟨b0, g3, g4⟩ := id g2
  cases g4
  refine lv_aload_n C.1.1 C.1.2 hd hi (lv_at h3.1 j g1) ?_
  exact k.go C ⟨ad, tys, ws, lv, h1, h2, h3, ⟨g2, h4⟩, h5⟩ Rt

theorem q_aload_nq {k0 : Fin 4} {i a : Nat} (hd : decode M.2.1 pc = .ok (.aload_n k0, 1)) (hi : (k0 : Nat) = i) (hl : q_lg lo i = some (.inr (.inr (.inr (.inr (.inr (.inl a)))))))
    (k : q_W E M Q (pc + 1) lo ((.inr (.inr (.inr (.inr (.inr (.inl a)))))) :: st) ce sl h) : q_W E M Q pc lo st ce sl h := by
  intro p e R s m args below meth c A ad0 Z H locs ls stv C T Rt
  obtain ⟨ad, tys, ws, lv, h1, h2, h3, h4, h5⟩ := T
  obtain ⟨j, hj⟩ := q_lg_get hl
  obtain ⟨v, g1, g2⟩ := q_lr_get h3.2 hj
  have g3 := id g2
  cases g2
  refine lv_aload_n C.1.1 C.1.2 hd hi (lv_at h3.1 j g1) ?_
  exact k.go C ⟨ad, tys, ws, lv, h1, h2, h3, ⟨g3, h4⟩, h5⟩ Rt

theorem q_aloadr {i a : Nat} (hd : decode M.2.1 pc = .ok (.aload i, 2)) (hl : q_lg lo i = some (.inr (.inl a)))
    (k : q_W E M Q (pc + 2) lo ((.inr (.inl a)) :: st) ce sl h) : q_W E M Q pc lo st ce sl h := by
  intro p e R s m args below meth c A ad0 Z H locs ls stv C T Rt
  obtain ⟨ad, tys, ws, lv, h1, h2, h3, h4, h5⟩ := T
  obtain ⟨j, hj⟩ := q_lg_get hl
  obtain ⟨v, g1, g2⟩ := q_lr_get h3.2 hj
  obtain ⟨b0, g3, g4⟩ := id g2
  cases g4
  refine lv_aload C.1.1 C.1.2 hd (lv_at h3.1 j g1) ?_
  exact k.go C ⟨ad, tys, ws, lv, h1, h2, h3, ⟨g2, h4⟩, h5⟩ Rt

theorem q_aloadq {i a : Nat} (hd : decode M.2.1 pc = .ok (.aload i, 2)) (hl : q_lg lo i = some (.inr (.inr (.inr (.inr (.inr (.inl a)))))))
    (k : q_W E M Q (pc + 2) lo ((.inr (.inr (.inr (.inr (.inr (.inl a)))))) :: st) ce sl h) : q_W E M Q pc lo st ce sl h := by
  intro p e R s m args below meth c A ad0 Z H locs ls stv C T Rt
  obtain ⟨ad, tys, ws, lv, h1, h2, h3, h4, h5⟩ := T
  obtain ⟨j, hj⟩ := q_lg_get hl
  obtain ⟨v, g1, g2⟩ := q_lr_get h3.2 hj
  have g3 := id g2
  cases g2
  refine lv_aload C.1.1 C.1.2 hd (lv_at h3.1 j g1) ?_
  exact k.go C ⟨ad, tys, ws, lv, h1, h2, h3, ⟨g3, h4⟩, h5⟩ Rt

theorem q_istore_ni {k0 : Fin 4} {i a : Nat} (hd : decode M.2.1 pc = .ok (.istore_n k0, 1)) (hi : (k0 : Nat) = i) (hn : i < M.2.2.1)
    (k : q_W E M Q (pc + 1) (q_ls1 lo i (.inl a)) st ce sl h) : q_W E M Q pc lo ((.inl a) :: st) ce sl h := by
  intro p e R s m args below meth c A ad0 Z H locs ls stv C T Rt
  obtain ⟨ad, tys, ws, lv, h1, h2, h3, h4, h5⟩ := T
  match stv, h4 with
  | v0 :: stv, ⟨e0, h4⟩ =>
    have g := id e0
    cases e0
    refine lv_istore_n C.1.1 C.1.2 hd hi h3.1 hn rfl (fun ls hl => ?_)
    exact k.go C ⟨ad, tys, ws, _, h1, h2, ⟨hl, ⟨⟨rfl, g⟩, q_lr_filter (f := fun u v => !(u == i) && !(u + 1 == i && v == 2)) h3.2⟩⟩, h4, h5⟩ Rt

theorem q_istore_ns {k0 : Fin 4} {i a : Nat} (hd : decode M.2.1 pc = .ok (.istore_n k0, 1)) (hi : (k0 : Nat) = i) (hn : i < M.2.2.1)
    (k : q_W E M Q (pc + 1) (q_ls1 lo i (.inr (.inr (.inr (.inl a))))) st ce sl h) : q_W E M Q pc lo ((.inr (.inr (.inr (.inl a)))) :: st) ce sl h := by
  intro p e R s m args below meth c A ad0 Z H locs ls stv C T Rt
  obtain ⟨ad, tys, ws, lv, h1, h2, h3, h4, h5⟩ := T
  match stv, h4 with
  | v0 :: stv, ⟨e0, h4⟩ =>
    have g := id e0
    cases e0
    refine lv_istore_n C.1.1 C.1.2 hd hi h3.1 hn rfl (fun ls hl => ?_)
    exact k.go C ⟨ad, tys, ws, _, h1, h2, ⟨hl, ⟨⟨rfl, g⟩, q_lr_filter (f := fun u v => !(u == i) && !(u + 1 == i && v == 2)) h3.2⟩⟩, h4, h5⟩ Rt

theorem q_istorei {i a : Nat} (hd : decode M.2.1 pc = .ok (.istore i, 2)) (hn : i < M.2.2.1)
    (k : q_W E M Q (pc + 2) (q_ls1 lo i (.inl a)) st ce sl h) : q_W E M Q pc lo ((.inl a) :: st) ce sl h := by
  intro p e R s m args below meth c A ad0 Z H locs ls stv C T Rt
  obtain ⟨ad, tys, ws, lv, h1, h2, h3, h4, h5⟩ := T
  match stv, h4 with
  | v0 :: stv, ⟨e0, h4⟩ =>
    have g := id e0
    cases e0
    refine lv_istore C.1.1 C.1.2 hd h3.1 hn rfl (fun ls hl => ?_)
    exact k.go C ⟨ad, tys, ws, _, h1, h2, ⟨hl, ⟨⟨rfl, g⟩, q_lr_filter (f := fun u v => !(u == i) && !(u + 1 == i && v == 2)) h3.2⟩⟩, h4, h5⟩ Rt

theorem q_istores {i a : Nat} (hd : decode M.2.1 pc = .ok (.istore i, 2)) (hn : i < M.2.2.1)
    (k : q_W E M Q (pc + 2) (q_ls1 lo i (.inr (.inr (.inr (.inl a))))) st ce sl h) : q_W E M Q pc lo ((.inr (.inr (.inr (.inl a)))) :: st) ce sl h := by
  intro p e R s m args below meth c A ad0 Z H locs ls stv C T Rt
  obtain ⟨ad, tys, ws, lv, h1, h2, h3, h4, h5⟩ := T
  match stv, h4 with
  | v0 :: stv, ⟨e0, h4⟩ =>
    have g := id e0
    cases e0
    refine lv_istore C.1.1 C.1.2 hd h3.1 hn rfl (fun ls hl => ?_)
    exact k.go C ⟨ad, tys, ws, _, h1, h2, ⟨hl, ⟨⟨rfl, g⟩, q_lr_filter (f := fun u v => !(u == i) && !(u + 1 == i && v == 2)) h3.2⟩⟩, h4, h5⟩ Rt

theorem q_lstore_nl {k0 : Fin 4} {i a : Nat} (hd : decode M.2.1 pc = .ok (.lstore_n k0, 1)) (hi : (k0 : Nat) = i) (hn : i + 1 < M.2.2.1)
    (k : q_W E M Q (pc + 1) (q_ls2 lo i (.inr (.inr (.inl a)))) st ce sl h) : q_W E M Q pc lo ((.inr (.inr (.inl a))) :: st) ce sl h := by
  intro p e R s m args below meth c A ad0 Z H locs ls stv C T Rt
  obtain ⟨ad, tys, ws, lv, h1, h2, h3, h4, h5⟩ := T
  match stv, h4 with
  | v0 :: stv, ⟨e0, h4⟩ =>
    have g := id e0
    cases e0
    refine lv_lstore_n C.1.1 C.1.2 hd hi h3.1 hn rfl (fun ls hl => ?_)
    exact k.go C ⟨ad, tys, ws, _, h1, h2, ⟨hl, ⟨⟨rfl, g⟩, q_lr_filter (f := fun u v => !(u == i) && (!(u == i + 1) && !(u + 1 == i && v == 2))) h3.2⟩⟩, h4, h5⟩ Rt

theorem q_lstore_nt {k0 : Fin 4} {i a : Nat} (hd : decode M.2.1 pc = .ok (.lstore_n k0, 1)) (hi : (k0 : Nat) = i) (hn : i + 1 < M.2.2.1)
    (k : q_W E M Q (pc + 1) (q_ls2 lo i (.inr (.inr (.inr (.inr (.inl a)))))) st ce sl h) : q_W E M Q pc lo ((.inr (.inr (.inr (.inr (.inl a))))) :: st) ce sl h := by
  intro p e R s m args below meth c A ad0 Z H locs ls stv C T Rt
  obtain ⟨ad, tys, ws, lv, h1, h2, h3, h4, h5⟩ := T
  match stv, h4 with
  | v0 :: stv, ⟨e0, h4⟩ =>
    have g := id e0
    cases e0
    refine lv_lstore_n C.1.1 C.1.2 hd hi h3.1 hn rfl (fun ls hl => ?_)
    exact k.go C ⟨ad, tys, ws, _, h1, h2, ⟨hl, ⟨⟨rfl, g⟩, q_lr_filter (f := fun u v => !(u == i) && (!(u == i + 1) && !(u + 1 == i && v == 2))) h3.2⟩⟩, h4, h5⟩ Rt

theorem q_lstorel {i a : Nat} (hd : decode M.2.1 pc = .ok (.lstore i, 2)) (hn : i + 1 < M.2.2.1)
    (k : q_W E M Q (pc + 2) (q_ls2 lo i (.inr (.inr (.inl a)))) st ce sl h) : q_W E M Q pc lo ((.inr (.inr (.inl a))) :: st) ce sl h := by
  intro p e R s m args below meth c A ad0 Z H locs ls stv C T Rt
  obtain ⟨ad, tys, ws, lv, h1, h2, h3, h4, h5⟩ := T
  match stv, h4 with
  | v0 :: stv, ⟨e0, h4⟩ =>
    have g := id e0
    cases e0
    refine lv_lstore C.1.1 C.1.2 hd h3.1 hn rfl (fun ls hl => ?_)
    exact k.go C ⟨ad, tys, ws, _, h1, h2, ⟨hl, ⟨⟨rfl, g⟩, q_lr_filter (f := fun u v => !(u == i) && (!(u == i + 1) && !(u + 1 == i && v == 2))) h3.2⟩⟩, h4, h5⟩ Rt

theorem q_lstoret {i a : Nat} (hd : decode M.2.1 pc = .ok (.lstore i, 2)) (hn : i + 1 < M.2.2.1)
    (k : q_W E M Q (pc + 2) (q_ls2 lo i (.inr (.inr (.inr (.inr (.inl a)))))) st ce sl h) : q_W E M Q pc lo ((.inr (.inr (.inr (.inr (.inl a))))) :: st) ce sl h := by
  intro p e R s m args below meth c A ad0 Z H locs ls stv C T Rt
  obtain ⟨ad, tys, ws, lv, h1, h2, h3, h4, h5⟩ := T
  match stv, h4 with
  | v0 :: stv, ⟨e0, h4⟩ =>
    have g := id e0
    cases e0
    refine lv_lstore C.1.1 C.1.2 hd h3.1 hn rfl (fun ls hl => ?_)
    exact k.go C ⟨ad, tys, ws, _, h1, h2, ⟨hl, ⟨⟨rfl, g⟩, q_lr_filter (f := fun u v => !(u == i) && (!(u == i + 1) && !(u + 1 == i && v == 2))) h3.2⟩⟩, h4, h5⟩ Rt

theorem q_astore_nr {k0 : Fin 4} {i a : Nat} (hd : decode M.2.1 pc = .ok (.astore_n k0, 1)) (hi : (k0 : Nat) = i) (hn : i < M.2.2.1)
    (k : q_W E M Q (pc + 1) (q_ls1 lo i (.inr (.inl a))) st ce sl h) : q_W E M Q pc lo ((.inr (.inl a)) :: st) ce sl h := by
  intro p e R s m args below meth c A ad0 Z H locs ls stv C T Rt
  obtain ⟨ad, tys, ws, lv, h1, h2, h3, h4, h5⟩ := T
  match stv, h4 with
  | v0 :: stv, ⟨e0, h4⟩ =>
    obtain ⟨b0, g3, g4⟩ := id e0
    cases g4
    have g := e0
    refine lv_astore_n C.1.1 C.1.2 hd hi h3.1 hn rfl (fun ls hl => ?_)
    exact k.go C ⟨ad, tys, ws, _, h1, h2, ⟨hl, ⟨⟨rfl, g⟩, q_lr_filter (f := fun u v => !(u == i) && !(u + 1 == i && v == 2)) h3.2⟩⟩, h4, h5⟩ Rt

theorem q_astorer {i a : Nat} (hd : decode M.2.1 pc = .ok (.astore i, 2)) (hn : i < M.2.2.1)
    (k : q_W E M Q (pc + 2) (q_ls1 lo i (.inr (.inl a))) st ce sl h) : q_W E M Q pc lo ((.inr (.inl a)) :: st) ce sl h := by
  intro p e R s m args below meth c A ad0 Z H locs ls stv C T Rt
  obtain ⟨ad, tys, ws, lv, h1, h2, h3, h4, h5⟩ := T
  match stv, h4 with
  | v0 :: stv, ⟨e0, h4⟩ =>
    obtain ⟨b0, g3, g4⟩ := id e0
    cases g4
    have g := e0
    refine lv_astore C.1.1 C.1.2 hd h3.1 hn rfl (fun ls hl => ?_)
    exact k.go C ⟨ad, tys, ws, _, h1, h2, ⟨hl, ⟨⟨rfl, g⟩, q_lr_filter (f := fun u v => !(u == i) && !(u + 1 == i && v == 2)) h3.2⟩⟩, h4, h5⟩ Rt

theorem q_iinc {i a b : Nat} {n : Int} (hd : decode M.2.1 pc = .ok (.iinc i n, 3)) (hl : q_lg lo i = some (.inl a)) (hv : Int32.ofInt n = nI b) (hn : i < M.2.2.1)
    (k : q_W E M Q (pc + 3) (q_ls1 lo i (.inl ((a + b) % 4294967296))) st ce sl h) : q_W E M Q pc lo st ce sl h := by
  intro p e R s m args below meth c A ad0 Z H locs ls stv C T Rt
  obtain ⟨ad, tys, ws, lv, h1, h2, h3, h4, h5⟩ := T
  obtain ⟨j, hj⟩ := q_lg_get hl
  obtain ⟨v, g1, g2⟩ := q_lr_get h3.2 hj
  cases g2
  refine lv_iinc (v := nI ((a + b) % 4294967296)) C.1.1 C.1.2 hd h3.1 g1 (by rw [hv]; exact q_add a b) hn rfl (fun ls hl => ?_)
  exact k.go C ⟨ad, tys, ws, _, h1, h2, ⟨hl, ⟨⟨rfl, rfl⟩, q_lr_filter (f := fun u v => !(u == i) && !(u + 1 == i && v == 2)) h3.2⟩⟩, h4, h5⟩ Rt

/-- the code of an int, of the program or of the script -/
def q_cd (E : q_E) : q_V → Option Nat
  | .inl n => some n
  | .inr (.inr (.inr (.inl k))) => some (E.2.2.2.1 k)
  | _ => none
theorem q_cd_vr {x : q_V} {a : Nat} {ad : List Nat} {v : Value} (hx : q_cd E x = some a) (h : q_vr E ad x v) : v = .int (nI a) := by
  match x, hx, h with
  | .inl n, hx, h => cases hx; exact h
  | .inr (.inr (.inr (.inl k))), hx, h => cases hx; exact h

theorem q_icmp_eq {x y : q_V} {a b : Nat} {off : Int} {tgt : Nat} (hd : decode M.2.1 pc = .ok (.if_icmp .eq off, 3)) (ht : (pc : Int) + off = (tgt : Int)) (hx : q_cd E x = some a) (hy : q_cd E y = some b)
    (kt : q_bi a = q_bi b → q_W E M Q tgt lo st ce sl h) (kf : ¬ (q_bi a = q_bi b) → q_W E M Q (pc + 3) lo st ce sl h) : q_W E M Q pc lo (y :: x :: st) ce sl h := by
  intro p e R s m args below meth c A ad0 Z H locs ls stv C T Rt
  obtain ⟨ad, tys, ws, lv, h1, h2, h3, h4, h5⟩ := T
  match stv, h4 with
  | v0 :: v1 :: stv, ⟨e0, e1, h4⟩ =>
    rw [q_cd_vr hy e0, q_cd_vr hx e1]
    have T' : q_At E M.2.2.1 s A ad0 lo st h H locs ls stv := ⟨ad, tys, ws, lv, h1, h2, h3, h4, h5⟩
    exact lv_icmp_eq C.1.1 C.1.2 hd ht (fun q => (kt (q_eq.mp q)).go C T' Rt) (fun q => (kf (fun z => q (q_eq.mpr z))).go C T' Rt)

theorem q_if_eq {x : q_V} {a : Nat} {off : Int} {tgt : Nat} (hd : decode M.2.1 pc = .ok (.ifCond .eq off, 3)) (ht : (pc : Int) + off = (tgt : Int)) (hx : q_cd E x = some a)
    (kt : q_bi a = 2147483648 → q_W E M Q tgt lo st ce sl h) (kf : ¬ (q_bi a = 2147483648) → q_W E M Q (pc + 3) lo st ce sl h) : q_W E M Q pc lo (x :: st) ce sl h := by
  intro p e R s m args below meth c A ad0 Z H locs ls stv C T Rt
  obtain ⟨ad, tys, ws, lv, h1, h2, h3, h4, h5⟩ := T
  match stv, h4 with
  | v0 :: stv, ⟨e0, h4⟩ =>
    rw [q_cd_vr hx e0]
    have T' : q_At E M.2.2.1 s A ad0 lo st h H locs ls stv := ⟨ad, tys, ws, lv, h1, h2, h3, h4, h5⟩
    exact lv_if_eq C.1.1 C.1.2 hd ht (fun q => (kt (q_eq0.mp q)).go C T' Rt) (fun q => (kf (fun z => q (q_eq0.mpr z))).go C T' Rt)

theorem q_icmp_ne {x y : q_V} {a b : Nat} {off : Int} {tgt : Nat} (hd : decode M.2.1 pc = .ok (.if_icmp .ne off, 3)) (ht : (pc : Int) + off = (tgt : Int)) (hx : q_cd E x = some a) (hy : q_cd E y = some b)
    (kt : ¬ q_bi a = q_bi b → q_W E M Q tgt lo st ce sl h) (kf : ¬ (¬ q_bi a = q_bi b) → q_W E M Q (pc + 3) lo st ce sl h) : q_W E M Q pc lo (y :: x :: st) ce sl h := by
  intro p e R s m args below meth c A ad0 Z H locs ls stv C T Rt
  obtain ⟨ad, tys, ws, lv, h1, h2, h3, h4, h5⟩ := T
  match stv, h4 with
  | v0 :: v1 :: stv, ⟨e0, e1, h4⟩ =>
    rw [q_cd_vr hy e0, q_cd_vr hx e1]
    have T' : q_At E M.2.2.1 s A ad0 lo st h H locs ls stv := ⟨ad, tys, ws, lv, h1, h2, h3, h4, h5⟩
    exact lv_icmp_ne C.1.1 C.1.2 hd ht (fun q => (kt (fun z => q (q_eq.mpr z))).go C T' Rt) (fun q => (kf (fun z => z (q_eq.mp q))).go C T' Rt)

theorem q_if_ne {x : q_V} {a : Nat} {off : Int} {tgt : Nat} (hd : decode M.2.1 pc = .ok (.ifCond .ne off, 3)) (ht : (pc : Int) + off = (tgt : Int)) (hx : q_cd E x = some a)
    (kt : ¬ q_bi a = 2147483648 → q_W E M Q tgt lo st ce sl h) (kf : ¬ (¬ q_bi a = 2147483648) → q_W E M Q (pc + 3) lo st ce sl h) : q_W E M Q pc lo (x :: st) ce sl h := by
  intro p e R s m args below meth c A ad0 Z H locs ls stv C T Rt
  obtain ⟨ad, tys, ws, lv, h1, h2, h3, h4, h5⟩ := T
  match stv, h4 with
  | v0 :: stv, ⟨e0, h4⟩ =>
    rw [q_cd_vr hx e0]
    have T' : q_At E M.2.2.1 s A ad0 lo st h H locs ls stv := ⟨ad, tys, ws, lv, h1, h2, h3, h4, h5⟩
    exact lv_if_ne C.1.1 C.1.2 hd ht (fun q => (kt (fun z => q (q_eq0.mpr z))).go C T' Rt) (fun q => (kf (fun z => z (q_eq0.mp q))).go C T' Rt)

theorem q_icmp_lt {x y : q_V} {a b : Nat} {off : Int} {tgt : Nat} (hd : decode M.2.1 pc = .ok (.if_icmp .lt off, 3)) (ht : (pc : Int) + off = (tgt : Int)) (hx : q_cd E x = some a) (hy : q_cd E y = some b)
    (kt : q_bi a < q_bi b → q_W E M Q tgt lo st ce sl h) (kf : ¬ (q_bi a < q_bi b) → q_W E M Q (pc + 3) lo st ce sl h) : q_W E M Q pc lo (y :: x :: st) ce sl h := by
  intro p e R s m args below meth c A ad0 Z H locs ls stv C T Rt
  obtain ⟨ad, tys, ws, lv, h1, h2, h3, h4, h5⟩ := T
  match stv, h4 with
  | v0 :: v1 :: stv, ⟨e0, e1, h4⟩ =>
    rw [q_cd_vr hy e0, q_cd_vr hx e1]
    have T' : q_At E M.2.2.1 s A ad0 lo st h H locs ls stv := ⟨ad, tys, ws, lv, h1, h2, h3, h4, h5⟩
    exact lv_icmp_lt C.1.1 C.1.2 hd ht (fun q => (kt (q_lt.mp q)).go C T' Rt) (fun q => (kf (fun z => q (q_lt.mpr z))).go C T' Rt)

theorem q_if_lt {x : q_V} {a : Nat} {off : Int} {tgt : Nat} (hd : decode M.2.1 pc = .ok (.ifCond .lt off, 3)) (ht : (pc : Int) + off = (tgt : Int)) (hx : q_cd E x = some a)
    (kt : q_bi a < 2147483648 → q_W E M Q tgt lo st ce sl h) (kf : ¬ (q_bi a < 2147483648) → q_W E M Q (pc + 3) lo st ce sl h) : q_W E M Q pc lo (x :: st) ce sl h := by
  intro p e R s m args below meth c A ad0 Z H locs ls stv C T Rt
  obtain ⟨ad, tys, ws, lv, h1, h2, h3, h4, h5⟩ := T
  match stv, h4 with
  | v0 :: stv, ⟨e0, h4⟩ =>
    rw [q_cd_vr hx e0]
    have T' : q_At E M.2.2.1 s A ad0 lo st h H locs ls stv := ⟨ad, tys, ws, lv, h1, h2, h3, h4, h5⟩
    exact lv_if_lt C.1.1 C.1.2 hd ht (fun q => (kt (q_lt0.mp q)).go C T' Rt) (fun q => (kf (fun z => q (q_lt0.mpr z))).go C T' Rt)

theorem q_icmp_ge {x y : q_V} {a b : Nat} {off : Int} {tgt : Nat} (hd : decode M.2.1 pc = .ok (.if_icmp .ge off, 3)) (ht : (pc : Int) + off = (tgt : Int)) (hx : q_cd E x = some a) (hy : q_cd E y = some b)
    (kt : q_bi b ≤ q_bi a → q_W E M Q tgt lo st ce sl h) (kf : ¬ (q_bi b ≤ q_bi a) → q_W E M Q (pc + 3) lo st ce sl h) : q_W E M Q pc lo (y :: x :: st) ce sl h := by
  intro p e R s m args below meth c A ad0 Z H locs ls stv C T Rt
  obtain ⟨ad, tys, ws, lv, h1, h2, h3, h4, h5⟩ := T
  match stv, h4 with
  | v0 :: v1 :: stv, ⟨e0, e1, h4⟩ =>
    rw [q_cd_vr hy e0, q_cd_vr hx e1]
    have T' : q_At E M.2.2.1 s A ad0 lo st h H locs ls stv := ⟨ad, tys, ws, lv, h1, h2, h3, h4, h5⟩
    exact lv_icmp_ge C.1.1 C.1.2 hd ht (fun q => (kt (q_le.mp q)).go C T' Rt) (fun q => (kf (fun z => q (q_le.mpr z))).go C T' Rt)

theorem q_if_ge {x : q_V} {a : Nat} {off : Int} {tgt : Nat} (hd : decode M.2.1 pc = .ok (.ifCond .ge off, 3)) (ht : (pc : Int) + off = (tgt : Int)) (hx : q_cd E x = some a)
    (kt : 2147483648 ≤ q_bi a → q_W E M Q tgt lo st ce sl h) (kf : ¬ (2147483648 ≤ q_bi a) → q_W E M Q (pc + 3) lo st ce sl h) : q_W E M Q pc lo (x :: st) ce sl h := by
  intro p e R s m args below meth c A ad0 Z H locs ls stv C T Rt
  obtain ⟨ad, tys, ws, lv, h1, h2, h3, h4, h5⟩ := T
  match stv, h4 with
  | v0 :: stv, ⟨e0, h4⟩ =>
    rw [q_cd_vr hx e0]
    have T' : q_At E M.2.2.1 s A ad0 lo st h H locs ls stv := ⟨ad, tys, ws, lv, h1, h2, h3, h4, h5⟩
    exact lv_if_ge C.1.1 C.1.2 hd ht (fun q => (kt (q_ge0.mp q)).go C T' Rt) (fun q => (kf (fun z => q (q_ge0.mpr z))).go C T' Rt)

theorem q_icmp_gt {x y : q_V} {a b : Nat} {off : Int} {tgt : Nat} (hd : decode M.2.1 pc = .ok (.if_icmp .gt off, 3)) (ht : (pc : Int) + off = (tgt : Int)) (hx : q_cd E x = some a) (hy : q_cd E y = some b)
    (kt : q_bi b < q_bi a → q_W E M Q tgt lo st ce sl h) (kf : ¬ (q_bi b < q_bi a) → q_W E M Q (pc + 3) lo st ce sl h) : q_W E M Q pc lo (y :: x :: st) ce sl h := by
  intro p e R s m args below meth c A ad0 Z H locs ls stv C T Rt
  obtain ⟨ad, tys, ws, lv, h1, h2, h3, h4, h5⟩ := T
  match stv, h4 with
  | v0 :: v1 :: stv, ⟨e0, e1, h4⟩ =>
    rw [q_cd_vr hy e0, q_cd_vr hx e1]
    have T' : q_At E M.2.2.1 s A ad0 lo st h H locs ls stv := ⟨ad, tys, ws, lv, h1, h2, h3, h4, h5⟩
    exact lv_icmp_gt C.1.1 C.1.2 hd ht (fun q => (kt (q_lt.mp q)).go C T' Rt) (fun q => (kf (fun z => q (q_lt.mpr z))).go C T' Rt)

theorem q_if_gt {x : q_V} {a : Nat} {off : Int} {tgt : Nat} (hd : decode M.2.1 pc = .ok (.ifCond .gt off, 3)) (ht : (pc : Int) + off = (tgt : Int)) (hx : q_cd E x = some a)
    (kt : 2147483648 < q_bi a → q_W E M Q tgt lo st ce sl h) (kf : ¬ (2147483648 < q_bi a) → q_W E M Q (pc + 3) lo st ce sl h) : q_W E M Q pc lo (x :: st) ce sl h := by
  intro p e R s m args below meth c A ad0 Z H locs ls stv C T Rt
  obtain ⟨ad, tys, ws, lv, h1, h2, h3, h4, h5⟩ := T
  match stv, h4 with
  | v0 :: stv, ⟨e0, h4⟩ =>
    rw [q_cd_vr hx e0]
    have T' : q_At E M.2.2.1 s A ad0 lo st h H locs ls stv := ⟨ad, tys, ws, lv, h1, h2, h3, h4, h5⟩
    exact lv_if_gt C.1.1 C.1.2 hd ht (fun q => (kt (q_gt0.mp q)).go C T' Rt) (fun q => (kf (fun z => q (q_gt0.mpr z))).go C T' Rt)

theorem q_icmp_le {x y : q_V} {a b : Nat} {off : Int} {tgt : Nat} (hd : decode M.2.1 pc = .ok (.if_icmp .le off, 3)) (ht : (pc : Int) + off = (tgt : Int)) (hx : q_cd E x = some a) (hy : q_cd E y = some b)
    (kt : q_bi a ≤ q_bi b → q_W E M Q tgt lo st ce sl h) (kf : ¬ (q_bi a ≤ q_bi b) → q_W E M Q (pc + 3) lo st ce sl h) : q_W E M Q pc lo (y :: x :: st) ce sl h := by
  intro p e R s m args below meth c A ad0 Z H locs ls stv C T Rt
  obtain ⟨ad, tys, ws, lv, h1, h2, h3, h4, h5⟩ := T
  match stv, h4 with
  | v0 :: v1 :: stv, ⟨e0, e1, h4⟩ =>
    rw [q_cd_vr hy e0, q_cd_vr hx e1]
    have T' : q_At E M.2.2.1 s A ad0 lo st h H locs ls stv := ⟨ad, tys, ws, lv, h1, h2, h3, h4, h5⟩
    exact lv_icmp_le C.1.1 C.1.2 hd ht (fun q => (kt (q_le.mp q)).go C T' Rt) (fun q => (kf (fun z => q (q_le.mpr z))).go C T' Rt)

theorem q_if_le {x : q_V} {a : Nat} {off : Int} {tgt : Nat} (hd : decode M.2.1 pc = .ok (.ifCond .le off, 3)) (ht : (pc : Int) + off = (tgt : Int)) (hx : q_cd E x = some a)
    (kt : q_bi a ≤ 2147483648 → q_W E M Q tgt lo st ce sl h) (kf : ¬ (q_bi a ≤ 2147483648) → q_W E M Q (pc + 3) lo st ce sl h) : q_W E M Q pc lo (x :: st) ce sl h := by
  intro p e R s m args below meth c A ad0 Z H locs ls stv C T Rt
  obtain ⟨ad, tys, ws, lv, h1, h2, h3, h4, h5⟩ := T
  match stv, h4 with
  | v0 :: stv, ⟨e0, h4⟩ =>
    rw [q_cd_vr hx e0]
    have T' : q_At E M.2.2.1 s A ad0 lo st h H locs ls stv := ⟨ad, tys, ws, lv, h1, h2, h3, h4, h5⟩
    exact lv_if_le C.1.1 C.1.2 hd ht (fun q => (kt (q_le0.mp q)).go C T' Rt) (fun q => (kf (fun z => q (q_le0.mpr z))).go C T' Rt)

end
end
section
theorem q_set_self {α : Type} {l : List α} {i : Nat} {a : α} (h : l[i]? = some a) : l.set i a = l := by
  apply List.ext_getElem?
  intro j
  rw [List.getElem?_set]
  by_cases e : i = j
  · subst e
    rw [if_pos rfl, if_pos (List.getElem?_eq_some_iff.mp h).1, h]
  · rw [if_neg e]
theorem q_hr_set {tys : List (ClassId × FieldType)} {ad : List Nat} {h : q_H} {ws : va_W} {r a : Nat} {c c0 : q_C} {e : va_E} (H : q_hr tys ad h ws) (h0 : q_get h r = some c0) (ha : ad[r]? = some a) (hc : q_cr tys ad c e) : q_hr tys ad (q_put h r c) (ws.set r (a, e)) := by
  obtain ⟨g1, g2, g3, g4⟩ := H
  have g1' : (ws.set r (a, e)).map (fun q => q.1) = ad := by
    rw [List.map_set, g1]
    exact q_set_self ha
  refine ⟨g1', by rw [q_cnt_put.1]; exact g2, q_cnt_put.2 g3, fun r' c' h' => ?_⟩
  rw [q_get_put h0] at h'
  by_cases e1 : r' = r
  · rw [if_pos e1] at h'
    cases h'
    subst e1
    obtain ⟨a', e', k1, k2, k3⟩ := g4 r' c0 h0
    rw [ha] at k1
    cases k1
    exact ⟨a, e, ha, by rw [List.getElem?_set, if_pos rfl, if_pos (List.getElem?_eq_some_iff.mp k2).1], hc⟩
  · rw [if_neg e1] at h'
    obtain ⟨a', e', k1, k2, k3⟩ := g4 r' c' h'
    exact ⟨a', e', k1, by rw [List.getElem?_set, if_neg (fun q => e1 q.symm)]; exact k2, k3⟩
theorem q_hr_push {tys t2 : List (ClassId × FieldType)} {ad : List Nat} {h : q_H} {ws : va_W} {q : Nat} {c : q_C} {e : va_E} (H : q_hr tys ad h ws) (hc : q_cr (tys ++ t2) (ad ++ [q]) c e) : q_hr (tys ++ t2) (ad ++ [q]) (q_push h c) (ws ++ [(q, e)]) := by
  obtain ⟨g1, g2, g3, g4⟩ := H
  obtain ⟨k1, k2⟩ := q_cnt_push (c := c) g3
  refine ⟨by simp [g1], by rw [k1, g2]; simp, k2, fun r' c' h' => ?_⟩
  rw [q_get_push g3] at h'
  by_cases e1 : r' = q_cnt h
  · rw [if_pos e1] at h'
    cases h'
    subst e1
    refine ⟨q, e, ?_, ?_, hc⟩
    · rw [g2]; simp
    · rw [g2, ← g1]; simp
  · rw [if_neg e1] at h'
    obtain ⟨a', e', k1, k2, k3⟩ := g4 r' c' h'
    exact ⟨a', e', by rw [List.getElem?_append_left (List.getElem?_eq_some_iff.mp k1).1]; exact k1, by rw [List.getElem?_append_left (List.getElem?_eq_some_iff.mp k2).1]; exact k2, q_cr_mono k3⟩
theorem q_new_ref {tys : List (ClassId × FieldType)} {ad : List Nat} {h : q_H} {ws : va_W} {q : Nat} (H : q_hr tys ad h ws) : (ad ++ [q])[q_cnt h]? = some q := by
  rw [H.2.1]; simp
/-- the classes' own words, types and names -/
theorem q_cw : ∀ ci (q : vw_C), q_cl[ci]? = some q → (∀ w ∈ u_ws q.1 q.2.1 q.2.2, w ∈ q_gd) ∧ (∀ k, k < q.2.2 → parseFieldDescriptor (q.2.1 k).2.2.1 = some (q_ty ci k)) ∧ (∀ a, a < q.2.2 → ∀ b, b < q.2.2 → a ≠ b → (q.2.1 a).2.1 ≠ (q.2.1 b).2.1) := by
  intro ci q hq
  match ci, hq with
  | 0, hq => cases hq; exact ⟨by decide +kernel, tyX0_ok, nmX0⟩
  | 1, hq => cases hq; exact ⟨by decide +kernel, tyX1_ok, nmX1⟩
  | 2, hq => cases hq; exact ⟨by decide +kernel, tyX2_ok, nmX2⟩
  | 3, hq => cases hq; exact ⟨by decide +kernel, tyX3_ok, nmX3⟩
  | 4, hq => cases hq; exact ⟨by decide +kernel, tyX4_ok, nmX4⟩
  | 5, hq => cases hq; exact ⟨by decide +kernel, tyX5_ok, nmX5⟩
  | 6, hq => cases hq; exact ⟨by decide +kernel, tyX6_ok, nmX6⟩
  | 7, hq => cases hq; exact ⟨by decide +kernel, tyX7_ok, nmX7⟩
  | 8, hq => cases hq; exact ⟨by decide +kernel, tyX8_ok, nmX8⟩
  | 9, hq => cases hq; exact ⟨by decide +kernel, tyX9_ok, nmX9⟩
  | k + 10, hq => simp [q_cl] at hq
/-- the object of a class at a cell -/
theorem q_obj {tys : List (ClassId × FieldType)} {ad : List Nat} {h : q_H} {ws : va_W} {r ci n d : Nat} (H : q_hr tys ad h ws) (hc : q_get h r = some (ci + 5, n, d)) : ∃ a fs q, ad[r]? = some a ∧ ws[r]? = some (a, .inr (ci, fs)) ∧ q_cl[ci]? = some q ∧ n = q.2.2 ∧ fs.length = n ∧ ∀ k, k < n → ∃ v, fs[k]? = some v ∧ q_fr (q_isr (q_ty ci k)) ad (q_rd d k) v := by
  obtain ⟨a, e, k1, k2, k3⟩ := H.2.2.2 r _ hc
  rcases k3 with ⟨g, -⟩ | ⟨g, -⟩ | ⟨g, -⟩ | ⟨g, -⟩ | ⟨g, -⟩ | ⟨ci', fs, q, g1, g2, g3, g4, g5, g6⟩
  · have g : ci + 5 = 0 := g; omega
  · have g : ci + 5 = 1 := g; omega
  · have g : ci + 5 = 2 := g; omega
  · have g : ci + 5 = 3 := g; omega
  · have g : ci + 5 = 4 := g; omega
  · have g1 : ci + 5 = ci' + 5 := g1
    have : ci' = ci := by omega
    subst this
    subst g4
    exact ⟨a, fs, q, k1, k2, g2, g3, g5, g6⟩
/-- an array of whole numbers (not longs) of type ty at a cell -/
def q_kt (t : Nat) : FieldType := match t with
  | 0 => .int | 2 => .char | _ => .boolean
theorem q_arr {tys : List (ClassId × FieldType)} {ad : List Nat} {h : q_H} {ws : va_W} {r t n d : Nat} (H : q_hr tys ad h ws) (hc : q_get h r = some (t, n, d)) (ht : t = 0 ∨ t = 2 ∨ t = 3) : ∃ (a : Nat) (cA : ClassId) (t0 : Nat), ad[r]? = some a ∧ tys[t0]? = some (cA, q_kt t) ∧ ws[r]? = some (a, .inl (cA, n, .inl (fun i => nI (q_rd d i)))) := by
  obtain ⟨a, e, k1, k2, k3⟩ := H.2.2.2 r _ hc
  rcases k3 with ⟨g, cA, t0, g1, g2⟩ | ⟨g, -⟩ | ⟨g, cA, t0, g1, g2⟩ | ⟨g, cA, t0, g1, g2⟩ | ⟨g, -⟩ | ⟨ci', fs, q, g1, -⟩
  · have g : t = 0 := g
    subst g; subst g2
    exact ⟨a, cA, t0, k1, g1, k2⟩
  · have g : t = 1 := g; omega
  · have g : t = 2 := g
    subst g; subst g2
    exact ⟨a, cA, t0, k1, g1, k2⟩
  · have g : t = 3 := g
    subst g; subst g2
    exact ⟨a, cA, t0, k1, g1, k2⟩
  · have g : t = 4 := g; omega
  · have g1 : t = ci' + 5 := g1; omega
theorem q_arrL {tys : List (ClassId × FieldType)} {ad : List Nat} {h : q_H} {ws : va_W} {r n d : Nat} (H : q_hr tys ad h ws) (hc : q_get h r = some (1, n, d)) : ∃ (a : Nat) (cA : ClassId) (t0 : Nat), ad[r]? = some a ∧ tys[t0]? = some (cA, FieldType.long) ∧ ws[r]? = some (a, .inl (cA, n, .inr (.inl (fun i => lN (q_rd d i))))) := by
  obtain ⟨a, e, k1, k2, k3⟩ := H.2.2.2 r _ hc
  rcases k3 with ⟨g, -⟩ | ⟨g, cA, t0, g1, g2⟩ | ⟨g, -⟩ | ⟨g, -⟩ | ⟨g, -⟩ | ⟨ci', fs, q, g1, -⟩
  · have g : 1 = 0 := g; omega
  · subst g2
    exact ⟨a, cA, t0, k1, g1, k2⟩
  · have g : 1 = 2 := g; omega
  · have g : 1 = 3 := g; omega
  · have g : 1 = 4 := g; omega
  · have g1 : 1 = ci' + 5 := g1; omega
theorem q_arrR {tys : List (ClassId × FieldType)} {ad : List Nat} {h : q_H} {ws : va_W} {r n d : Nat} (H : q_hr tys ad h ws) (hc : q_get h r = some (4, n, d)) : ∃ (a : Nat) (cA : ClassId) (t0 : Nat) (f : Nat → Option Nat), ad[r]? = some a ∧ tys[t0]? = some (cA, FieldType.object RX2) ∧ ws[r]? = some (a, .inl (cA, n, .inr (.inr (.inr (.inr f))))) ∧ ∀ i, q_opt ad (q_rd d i) (f i) := by
  obtain ⟨a, e, k1, k2, k3⟩ := H.2.2.2 r _ hc
  rcases k3 with ⟨g, -⟩ | ⟨g, -⟩ | ⟨g, -⟩ | ⟨g, -⟩ | ⟨g, cA, t0, f, g1, g2, g3⟩ | ⟨ci', fs, q, g1, -⟩
  · have g : 4 = 0 := g; omega
  · have g : 4 = 1 := g; omega
  · have g : 4 = 2 := g; omega
  · have g : 4 = 3 := g; omega
  · subst g2
    exact ⟨a, cA, t0, f, k1, g1, k2, g3⟩
  · have g1 : 4 = ci' + 5 := g1; omega
/-- the word that links a field -/
def q_fl (M : q_M) (idx ci k : Nat) : Prop := ∃ q : vw_C, q_cl[ci]? = some q ∧ k < q.2.2 ∧ (Cond.fieldLink M.1.cls idx (q.2.1 k).1 (q.2.1 k).2.1 (q.2.1 k).2.2.1 ∈ q_gd ∨ ∃ host, Cond.fieldLinkNest M.1.cls idx (q.2.1 k).1 (q.2.1 k).2.1 (q.2.1 k).2.2.1 host ∈ q_nst)
section
variable {E : q_E} {M : q_M} {Q : Option q_V → q_H → Prop} {pc : Nat} {lo : q_Lo} {st : List q_V} {ce sl : Nat} {h : q_H}
theorem q_getf {r ci k idx n d : Nat} {x : q_V} (hd : decode M.2.1 pc = .ok (.getfield idx, 3)) (hf : q_fl M idx ci k) (hc : q_get h r = some (ci + 5, n, d))
    (hx : ∀ ad v, q_fr (q_isr (q_ty ci k)) ad (q_rd d k) v → q_vr E ad x v)
    (kk : q_W E M Q (pc + 3) lo (x :: st) ce sl h) : q_W E M Q pc lo (.inr (.inl r) :: st) ce sl h := by
  intro p e R s m args below meth c A ad0 Z H locs ls stv C T Rt
  obtain ⟨ad, tys, ws, lv, h1, h2, h3, h4, h5⟩ := T
  match stv, h4 with
  | v0 :: stv, ⟨⟨a0, e0, e1⟩, h4⟩ =>
    subst e1
    obtain ⟨q, f1, f2, f3⟩ := hf
    obtain ⟨a, fs, q', g1, g2, g3, g4, g5, g6⟩ := q_obj h5.1 hc
    rw [f1] at g3
    cases g3
    rw [g1] at e0
    cases e0
    obtain ⟨v, w1, w2⟩ := g6 k (by rw [g4]; exact f2)
    have kz := kk.go (stv := v :: stv) C ⟨ad, tys, ws, lv, h1, h2, h3, ⟨hx ad v w2, h4⟩, h5⟩ Rt
    rcases f3 with f3 | ⟨host, f3⟩
    · exact va_get C.1.1 C.1.2 C.2.2.2.2.2.1 (q_cw ci q f1).1 C.2.2.2.2.1 h2 h5.2.1 r g2 f1 k f2 (C.2.2.2.2.2.1 _ f3) (fun _ z => z) w1 hd kz
    · exact va_getN C.1.1 C.1.2 C.2.2.2.2.2.1 (q_cw ci q f1).1 C.2.2.2.2.1 h2 h5.2.1 r g2 f1 k f2 (q_Cx_nst C f3) (fun _ z => z) w1 hd kz
theorem q_getI {r ci k idx n d : Nat} (hd : decode M.2.1 pc = .ok (.getfield idx, 3)) (hf : q_fl M idx ci k) (hi : q_isr (q_ty ci k) = false) (hc : q_get h r = some (ci + 5, n, d))
    (kk : q_W E M Q (pc + 3) lo (.inl (q_rd d k) :: st) ce sl h) : q_W E M Q pc lo (.inr (.inl r) :: st) ce sl h :=
  q_getf hd hf hc (fun ad v z => by rw [hi] at z; exact z) kk
theorem q_getR {r r' ci k idx n d : Nat} (hd : decode M.2.1 pc = .ok (.getfield idx, 3)) (hf : q_fl M idx ci k) (hi : q_isr (q_ty ci k) = true) (hc : q_get h r = some (ci + 5, n, d)) (hr : q_rd d k = r' + 1)
    (kk : q_W E M Q (pc + 3) lo (.inr (.inl r') :: st) ce sl h) : q_W E M Q pc lo (.inr (.inl r) :: st) ce sl h :=
  q_getf hd hf hc (fun ad v z => by
    rw [hi] at z
    rcases z with ⟨z, -⟩ | ⟨r2, a, z1, z2, z3⟩
    · omega
    · have : r2 = r' := by omega
      subst this
      exact ⟨a, z2, z3⟩) kk
/-- putfield: the value's word is w -/
theorem q_putf {r ci k idx n d w : Nat} {x : q_V} (hd : decode M.2.1 pc = .ok (.putfield idx, 3)) (hf : q_fl M idx ci k) (hc : q_get h r = some (ci + 5, n, d)) (hw : w < 18446744073709551616)
    (hfin : ∀ q : vw_C, q_cl[ci]? = some q → (q.2.1 k).2.2.2 = false ∨ ((q.2.1 k).2.2.2 = true ∧ M.1.name = "<init>" ∧ (q.2.1 k).1 = M.1.cls ∧ Cond.fieldLink M.1.cls idx (q.2.1 k).1 (q.2.1 k).2.1 (q.2.1 k).2.2.1 ∈ q_gd))
    (hx : ∀ ad v, q_vr E ad x v → q_fr (q_isr (q_ty ci k)) ad w v ∧ narrow (q_ty ci k) v = v ∧ fits (q_ty ci k) v = true)
    (kk : q_W E M Q (pc + 3) lo st ce sl (q_put h r (ci + 5, n, q_wr d k w))) : q_W E M Q pc lo (x :: .inr (.inl r) :: st) ce sl h := by
  intro p e R s m args below meth c A ad0 Z H locs ls stv C T Rt
  obtain ⟨ad, tys, ws, lv, h1, h2, h3, h4, h5⟩ := T
  match stv, h4 with
  | v :: v0 :: stv, ⟨ex, ⟨a0, e0, e1⟩, h4⟩ =>
    subst e1
    obtain ⟨q, f1, f2, f3⟩ := hf
    obtain ⟨a, fs, q', g1, g2, g3, g4, g5, g6⟩ := q_obj h5.1 hc
    rw [f1] at g3
    cases g3
    rw [g1] at e0
    cases e0
    obtain ⟨x1, x2, x3⟩ := hx ad v ex
    have kl : k < fs.length := by rw [g5, g4]; exact f2
    have kz : ∀ (H1 : Heap) (locs1 : List Loc), va_P E.2.1 q_cl (ws.set r (a0, .inr (ci, fs.set k v))) H1 → va_D A (ws.set r (a0, .inr (ci, fs.set k v))) → va_S A s.heap H1 locs1 → W p E.1 e R s m args below meth c H1 locs1 ce sl Z (F0 m (pc + 3) ls stv) := by
      intro H1 locs1 y1 y2 y3
      refine kk.go C ⟨ad, tys, _, lv, h1, h2, h3, h4, q_hr_set h5.1 hc g1 ?_, y1, y2, y3⟩ Rt
      refine Or.inr (Or.inr (Or.inr (Or.inr (Or.inr ⟨ci, fs.set k v, q, rfl, f1, g4, rfl, by rw [List.length_set]; exact g5, fun k' hk' => ?_⟩))))
      have hk' : k' < n := hk'
      show ∃ v', (fs.set k v)[k']? = some v' ∧ q_fr (q_isr (q_ty ci k')) ad (q_rd (q_wr d k w) k') v'
      rw [q_rd_wr hw, List.getElem?_set]
      by_cases e2 : k' = k
      · subst e2
        rw [if_pos rfl, if_pos rfl, if_pos kl]
        exact ⟨v, rfl, x1⟩
      · rw [if_neg e2, if_neg (fun z => e2 z.symm)]
        exact g6 k' hk'
    obtain ⟨c1, c2, c3⟩ := q_cw ci q f1
    rcases hfin q f1 with hfin | ⟨hfin, hini, hdecl, f4⟩
    · rcases f3 with f3 | ⟨host, f3⟩
      · exact va_put C.1.1 C.1.2 C.2.2.2.2.2.1 c1 (q_ty ci) c2 c3 C.2.2.2.2.1 h2 h5.2.1 h5.2.2.1 h5.2.2.2 r g2 f1 k f2 (C.2.2.2.2.2.1 _ f3) (fun _ z => z) hfin (c2 k f2) x2 x3 kl hd kz
      · exact va_putN C.1.1 C.1.2 C.2.2.2.2.2.1 c1 (q_ty ci) c2 c3 C.2.2.2.2.1 h2 h5.2.1 h5.2.2.1 h5.2.2.2 r g2 f1 k f2 (q_Cx_nst C f3) (fun _ z => z) hfin (c2 k f2) x2 x3 kl hd kz
    · exact va_putF C.1.1 C.1.2 C.2.2.2.2.2.1 c1 (q_ty ci) c2 c3 C.2.2.2.2.1 h2 h5.2.1 h5.2.2.1 h5.2.2.2 r g2 f1 k f2 (C.2.2.2.2.2.1 _ f4) (fun _ z => z) hfin (by rw [C.2.2.2.2.2.2.1]; exact hini) hdecl (c2 k f2) x2 x3 kl hd kz
end
end
section
theorem q_in {i n : Nat} (h1 : i < n) (h2 : i < 2147483648) : vp_in (nI i) n := by
  rintro (h | h)
  · exact nI_pos h2 h
  · rw [nI_clamp h2] at h; omega
theorem q_nar_char {x : Nat} (h : x < 65536) : vp_nar .char (nI x) = nI x := by
  rw [vp_nar_char]
  apply Int32.toBitVec_inj.mp
  show ((nI x).toUInt32.toUInt16.toUInt32).toBitVec = _
  apply BitVec.eq_of_toNat_eq
  show ((nI x).toUInt32.toUInt16.toUInt32).toNat = _
  rw [UInt16.toNat_toUInt32, UInt32.toNat_toUInt16]
  show (nI x).toBitVec.toNat % 65536 = (nI x).toBitVec.toNat
  rw [q_bI, BitVec.toNat_ofNat]
  omega
theorem q_nar_bool {x : Nat} (h : x < 2) : vp_nar .boolean (nI x) = nI x ∧ narrow .boolean (.int (nI x)) = .int (nI x) ∧ fits .boolean (.int (nI x)) = true := by
  have : x = 0 ∨ x = 1 := by omega
  rcases this with rfl | rfl <;> decide +kernel
theorem q_upd {d i v : Nat} {x : Int32} (h : x = nI v) : upd (fun j => nI (q_rd d j)) i x = fun j => nI (q_rd (q_wr d i (v % 18446744073709551616)) j) := by
  funext j
  rw [q_rd_wr (Nat.mod_lt _ (by decide))]
  unfold upd
  by_cases e : j = i
  · rw [if_pos e, if_pos e, h, ← q_nmod v, ← q_nmod (v % 18446744073709551616)]
    congr 1
    omega
  · rw [if_neg e, if_neg e]
theorem q_updL {d i v : Nat} : vp_updL (fun j => lN (q_rd d j)) i (lN v) = fun j => lN (q_rd (q_wr d i (v % 18446744073709551616)) j) := by
  funext j
  rw [q_rd_wr (Nat.mod_lt _ (by decide))]
  unfold vp_updL
  by_cases e : j = i
  · rw [if_pos e, if_pos e, q_lmod]
  · rw [if_neg e, if_neg e]
section
variable {E : q_E} {M : q_M} {Q : Option q_V → q_H → Prop} {pc : Nat} {lo : q_Lo} {st : List q_V} {ce sl : Nat} {h : q_H}
/-- a load of a whole number: int, char, boolean arrays -/
theorem q_ald {t r i n d : Nat} {ins : Instr} (hd : decode M.2.1 pc = .ok (ins, 1)) (hi : (t = 0 ∧ ins = .iaload) ∨ (t = 2 ∧ ins = .caload) ∨ (t = 3 ∧ ins = .baload)) (hc : q_get h r = some (t, n, d)) (h1 : i < n) (h2 : i < 2147483648)
    (k : q_W E M Q (pc + 1) lo (.inl (q_rd d i) :: st) ce sl h) : q_W E M Q pc lo (.inl i :: .inr (.inl r) :: st) ce sl h := by
  intro p e R s m args below meth c A ad0 Z H locs ls stv C T Rt
  obtain ⟨ad, tys, ws, lv, h1', h2', h3, h4, h5⟩ := T
  match stv, h4 with
  | v :: v0 :: stv, ⟨ex, ⟨a0, e0, e1⟩, h4⟩ =>
    subst e1
    cases ex
    obtain ⟨a, cA, t0, g1, g2, g3⟩ := q_arr h5.1 hc (by rcases hi with ⟨z, -⟩ | ⟨z, -⟩ | ⟨z, -⟩ <;> omega)
    rw [g1] at e0
    cases e0
    have kz := k.go (stv := .int (nI (q_rd d i)) :: stv) C ⟨ad, tys, ws, lv, h1', h2', h3, ⟨rfl, h4⟩, h5⟩ Rt
    have ec : (nI i).toNatClampNeg = i := nI_clamp h2
    rcases hi with ⟨z, z2⟩ | ⟨z, z2⟩ | ⟨z, z2⟩
    · subst z; subst z2
      exact va_iald C.1.1 C.1.2 h2' h5.2.1 r t0 g3 g2 (q_in h1 h2) hd (by rw [ec]; exact kz)
    · subst z; subst z2
      exact va_cald C.1.1 C.1.2 h2' h5.2.1 r t0 g3 g2 (q_in h1 h2) hd (by rw [ec]; exact kz)
    · subst z; subst z2
      exact va_zald C.1.1 C.1.2 h2' h5.2.1 r t0 g3 g2 (q_in h1 h2) hd (by rw [ec]; exact kz)
theorem q_ald_L {r i n d : Nat} (hd : decode M.2.1 pc = .ok (.laload, 1)) (hc : q_get h r = some (1, n, d)) (h1 : i < n) (h2 : i < 2147483648)
    (k : q_W E M Q (pc + 1) lo (.inr (.inr (.inl (q_rd d i))) :: st) ce sl h) : q_W E M Q pc lo (.inl i :: .inr (.inl r) :: st) ce sl h := by
  intro p e R s m args below meth c A ad0 Z H locs ls stv C T Rt
  obtain ⟨ad, tys, ws, lv, h1', h2', h3, h4, h5⟩ := T
  match stv, h4 with
  | v :: v0 :: stv, ⟨ex, ⟨a0, e0, e1⟩, h4⟩ =>
    subst e1
    cases ex
    obtain ⟨a, cA, t0, g1, g2, g3⟩ := q_arrL h5.1 hc
    rw [g1] at e0
    cases e0
    have kz := k.go (stv := .long (lN (q_rd d i)) :: stv) C ⟨ad, tys, ws, lv, h1', h2', h3, ⟨rfl, h4⟩, h5⟩ Rt
    have ec : (nI i).toNatClampNeg = i := nI_clamp h2
    exact va_lald C.1.1 C.1.2 h2' h5.2.1 r t0 g3 g2 (q_in h1 h2) hd (by rw [ec]; exact kz)
theorem q_ald_R {r r' i n d : Nat} (hd : decode M.2.1 pc = .ok (.aaload, 1)) (hc : q_get h r = some (4, n, d)) (h1 : i < n) (h2 : i < 2147483648) (hr : q_rd d i = r' + 1)
    (k : q_W E M Q (pc + 1) lo (.inr (.inl r') :: st) ce sl h) : q_W E M Q pc lo (.inl i :: .inr (.inl r) :: st) ce sl h := by
  intro p e R s m args below meth c A ad0 Z H locs ls stv C T Rt
  obtain ⟨ad, tys, ws, lv, h1', h2', h3, h4, h5⟩ := T
  match stv, h4 with
  | v :: v0 :: stv, ⟨ex, ⟨a0, e0, e1⟩, h4⟩ =>
    subst e1
    cases ex
    obtain ⟨a, cA, t0, f, g1, g2, g3, g4⟩ := q_arrR h5.1 hc
    rw [g1] at e0
    cases e0
    have g5 := g4 i
    rw [hr] at g5
    rcases g5 with ⟨g5, -⟩ | ⟨r2, a2, g5, g6, g7⟩
    · omega
    · have : r2 = r' := by omega
      subst this
      have kz := k.go (stv := .ref a2 :: stv) C ⟨ad, tys, ws, lv, h1', h2', h3, ⟨⟨a2, g6, rfl⟩, h4⟩, h5⟩ Rt
      have ec : (nI i).toNatClampNeg = i := nI_clamp h2
      exact va_aldq C.1.1 C.1.2 h2' h5.2.1 r t0 g3 g2 (q_in h1 h2) hd (by rw [ec, g7]; exact kz)
/-- a store of a whole number -/
theorem q_ast {t r i n d v : Nat} {ins : Instr} (hd : decode M.2.1 pc = .ok (ins, 1)) (hi : (t = 0 ∧ ins = .iastore) ∨ (t = 2 ∧ ins = .castore ∧ v < 65536) ∨ (t = 3 ∧ ins = .bastore ∧ v < 2)) (hc : q_get h r = some (t, n, d)) (h1 : i < n) (h2 : i < 2147483648)
    (k : q_W E M Q (pc + 1) lo st ce sl (q_put h r (t, n, q_wr d i (v % 18446744073709551616)))) : q_W E M Q pc lo (.inl v :: .inl i :: .inr (.inl r) :: st) ce sl h := by
  intro p e R s m args below meth c A ad0 Z H locs ls stv C T Rt
  obtain ⟨ad, tys, ws, lv, h1', h2', h3, h4, h5⟩ := T
  match stv, h4 with
  | w :: w2 :: v0 :: stv, ⟨ex, ey, ⟨a0, e0, e1⟩, h4⟩ =>
    subst e1
    cases ex
    cases ey
    obtain ⟨a, cA, t0, g1, g2, g3⟩ := q_arr h5.1 hc (by rcases hi with ⟨z, -⟩ | ⟨z, -⟩ | ⟨z, -⟩ <;> omega)
    rw [g1] at e0
    cases e0
    have ec : (nI i).toNatClampNeg = i := nI_clamp h2
    have key : ∀ x : Int32, x = nI v → ∀ (H1 : Heap) (locs1 : List Loc), va_P E.2.1 q_cl (ws.set r (a0, .inl (cA, n, .inl (upd (fun j => nI (q_rd d j)) (nI i).toNatClampNeg x)))) H1 → va_D A (ws.set r (a0, .inl (cA, n, .inl (upd (fun j => nI (q_rd d j)) (nI i).toNatClampNeg x)))) → va_S A s.heap H1 locs1 → W p E.1 e R s m args below meth c H1 locs1 ce sl Z (F0 m (pc + 1) ls stv) := by
      intro x hx H1 locs1 y1 y2 y3
      rw [ec, q_upd hx] at y1 y2
      refine k.go C ⟨ad, tys, _, lv, h1', h2', h3, h4, q_hr_set h5.1 hc g1 ?_, y1, y2, y3⟩ Rt
      rcases hi with ⟨z, -⟩ | ⟨z, -⟩ | ⟨z, -⟩
      · subst z; exact Or.inl ⟨rfl, cA, t0, g2, rfl⟩
      · subst z; exact Or.inr (Or.inr (Or.inl ⟨rfl, cA, t0, g2, rfl⟩))
      · subst z; exact Or.inr (Or.inr (Or.inr (Or.inl ⟨rfl, cA, t0, g2, rfl⟩)))
    rcases hi with ⟨z, z2⟩ | ⟨z, z2, z3⟩ | ⟨z, z2, z3⟩
    · subst z; subst z2
      exact va_iast C.1.1 C.1.2 h2' h5.2.1 h5.2.2.1 h5.2.2.2 r t0 g3 g2 (q_in h1 h2) hd (key _ rfl)
    · subst z; subst z2
      exact va_cast C.1.1 C.1.2 h2' h5.2.1 h5.2.2.1 h5.2.2.2 r t0 g3 g2 (q_in h1 h2) hd (key _ (q_nar_char z3))
    · subst z; subst z2
      exact va_zast C.1.1 C.1.2 h2' h5.2.1 h5.2.2.1 h5.2.2.2 r t0 g3 g2 (q_in h1 h2) hd (key _ (q_nar_bool z3).1)
theorem q_ast_L {r i n d v : Nat} (hd : decode M.2.1 pc = .ok (.lastore, 1)) (hc : q_get h r = some (1, n, d)) (h1 : i < n) (h2 : i < 2147483648)
    (k : q_W E M Q (pc + 1) lo st ce sl (q_put h r (1, n, q_wr d i (v % 18446744073709551616)))) : q_W E M Q pc lo (.inr (.inr (.inl v)) :: .inl i :: .inr (.inl r) :: st) ce sl h := by
  intro p e R s m args below meth c A ad0 Z H locs ls stv C T Rt
  obtain ⟨ad, tys, ws, lv, h1', h2', h3, h4, h5⟩ := T
  match stv, h4 with
  | w :: w2 :: v0 :: stv, ⟨ex, ey, ⟨a0, e0, e1⟩, h4⟩ =>
    subst e1
    cases ex
    cases ey
    obtain ⟨a, cA, t0, g1, g2, g3⟩ := q_arrL h5.1 hc
    rw [g1] at e0
    cases e0
    have ec : (nI i).toNatClampNeg = i := nI_clamp h2
    refine va_last C.1.1 C.1.2 h2' h5.2.1 h5.2.2.1 h5.2.2.2 r t0 g3 g2 (q_in h1 h2) hd (fun H1 locs1 y1 y2 y3 => ?_)
    rw [ec, q_updL] at y1 y2
    exact k.go C ⟨ad, tys, _, lv, h1', h2', h3, h4, q_hr_set h5.1 hc g1 (Or.inr (Or.inl ⟨rfl, cA, t0, g2, rfl⟩)), y1, y2, y3⟩ Rt
theorem q_ast_R {r r' i n d n' d' : Nat} (hd : decode M.2.1 pc = .ok (.aastore, 1)) (hc : q_get h r = some (4, n, d)) (hc' : q_get h r' = some (2 + 5, n', d')) (h1 : i < n) (h2 : i < 2147483648) (hr : r' + 1 < 18446744073709551616)
    (k : q_W E M Q (pc + 1) lo st ce sl (q_put h r (4, n, q_wr d i (r' + 1)))) : q_W E M Q pc lo (.inr (.inl r') :: .inl i :: .inr (.inl r) :: st) ce sl h := by
  intro p e R s m args below meth c A ad0 Z H locs ls stv C T Rt
  obtain ⟨ad, tys, ws, lv, h1', h2', h3, h4, h5⟩ := T
  match stv, h4 with
  | w :: w2 :: v0 :: stv, ⟨⟨b0, u0, u1⟩, ey, ⟨a0, e0, e1⟩, h4⟩ =>
    subst e1
    subst u1
    cases ey
    obtain ⟨a, cA, t0, f, g1, g2, g3, g4⟩ := q_arrR h5.1 hc
    rw [g1] at e0
    cases e0
    obtain ⟨a', fs, q', g1', g2', g3', -⟩ := q_obj h5.1 hc'
    rw [g1'] at u0
    cases u0
    have ec : (nI i).toNatClampNeg = i := nI_clamp h2
    have hq : q' = (RX2, TX2, 7) := (Option.some.inj g3').symm
    subst hq
    refine va_astq C.1.1 C.1.2 h2' h5.2.1 h5.2.2.1 h5.2.2.2 r t0 r' 2 g3 g2 g2' g3' (q_in h1 h2) hd (fun H1 locs1 y1 y2 y3 => ?_)
    refine k.go C ⟨ad, tys, _, lv, h1', h2', h3, h4, q_hr_set h5.1 hc g1 (Or.inr (Or.inr (Or.inr (Or.inr (Or.inl ⟨rfl, cA, t0, _, g2, rfl, fun j => ?_⟩))))), y1, y2, y3⟩ Rt
    show q_opt ad (q_rd (q_wr d i (r' + 1)) j) _
    rw [q_rd_wr hr, ec]
    unfold va_up
    by_cases e : j = i
    · rw [if_pos e, if_pos e]
      exact Or.inr ⟨r', b0, rfl, g1', rfl⟩
    · rw [if_neg e, if_neg e]
      exact g4 j
theorem q_len {t r n d : Nat} (hd : decode M.2.1 pc = .ok (.arraylength, 1)) (hc : q_get h r = some (t, n, d)) (ht : t < 5)
    (k : q_W E M Q (pc + 1) lo (.inl n :: st) ce sl h) : q_W E M Q pc lo (.inr (.inl r) :: st) ce sl h := by
  intro p e R s m args below meth c A ad0 Z H locs ls stv C T Rt
  obtain ⟨ad, tys, ws, lv, h1', h2', h3, h4, h5⟩ := T
  match stv, h4 with
  | v0 :: stv, ⟨⟨a0, e0, e1⟩, h4⟩ =>
    subst e1
    have kz := k.go (stv := .int (nI n) :: stv) C ⟨ad, tys, ws, lv, h1', h2', h3, ⟨rfl, h4⟩, h5⟩ Rt
    obtain ⟨a, e', k1, k2, k3⟩ := h5.1.2.2.2 r _ hc
    rw [k1] at e0
    cases e0
    rcases k3 with ⟨g, cA, t0, g1, g2⟩ | ⟨g, cA, t0, g1, g2⟩ | ⟨g, cA, t0, g1, g2⟩ | ⟨g, cA, t0, g1, g2⟩ | ⟨g, cA, t0, f, g1, g2, -⟩ | ⟨ci', fs, q, g1, -⟩
    · subst g2; exact va_alen C.1.1 C.1.2 h2' h5.2.1 r t0 k2 g1 rfl hd kz
    · subst g2; exact va_alen C.1.1 C.1.2 h2' h5.2.1 r t0 k2 g1 rfl hd kz
    · subst g2; exact va_alen C.1.1 C.1.2 h2' h5.2.1 r t0 k2 g1 rfl hd kz
    · subst g2; exact va_alen C.1.1 C.1.2 h2' h5.2.1 r t0 k2 g1 rfl hd kz
    · subst g2; exact va_alen C.1.1 C.1.2 h2' h5.2.1 r t0 k2 g1 rfl hd kz
    · have g1 : t = ci' + 5 := g1; omega
/-- the static rows, the script -/
theorem q_gets1 {idx : Nat} (hd : decode M.2.1 pc = .ok (.getstatic idx, 3)) (hf : Cond.fieldLink M.1.cls idx "TreePasses" "CHILDREN" "[I" ∈ q_gd)
    (k : q_W E M Q (pc + 3) lo (.inr (.inr (.inr (.inr (.inr (.inl 1))))) :: st) ce sl h) : q_W E M Q pc lo st ce sl h := by
  intro p e R s m args below meth c A ad0 Z H locs ls stv C T Rt
  obtain ⟨ad, tys, ws, lv, h1', h2', h3, h4, h5⟩ := T
  exact va_gets C.1.1 C.1.2 C.2.2.2.2.2.2.2.2.1.2.1.1 h5.2.2.2 C.2.2.2.2.1 (C.2.2.2.2.2.1 _ hf) (fun _ z => z) hd (k.go C ⟨ad, tys, ws, lv, h1', h2', h3, ⟨rfl, h4⟩, h5⟩ Rt)
theorem q_gets2 {idx : Nat} {host : String} (hd : decode M.2.1 pc = .ok (.getstatic idx, 3)) (hf : Cond.fieldLinkNest M.1.cls idx "TreePasses" "WHERE" "[J" host ∈ q_nst)
    (k : q_W E M Q (pc + 3) lo (.inr (.inr (.inr (.inr (.inr (.inl 2))))) :: st) ce sl h) : q_W E M Q pc lo st ce sl h := by
  intro p e R s m args below meth c A ad0 Z H locs ls stv C T Rt
  obtain ⟨ad, tys, ws, lv, h1', h2', h3, h4, h5⟩ := T
  exact va_getsN C.1.1 C.1.2 C.2.2.2.2.2.2.2.2.1.2.2.1.1 h5.2.2.2 C.2.2.2.2.1 (q_Cx_nst C hf) (fun _ z => z) hd (k.go C ⟨ad, tys, ws, lv, h1', h2', h3, ⟨rfl, h4⟩, h5⟩ Rt)
theorem q_sld1 {i : Nat} (hd : decode M.2.1 pc = .ok (.iaload, 1)) (h1 : i < 5)
    (k : q_W E M Q (pc + 1) lo (.inl (q_chi i) :: st) ce sl h) : q_W E M Q pc lo (.inl i :: .inr (.inr (.inr (.inr (.inr (.inl 1))))) :: st) ce sl h := by
  intro p e R s m args below meth c A ad0 Z H locs ls stv C T Rt
  obtain ⟨ad, tys, ws, lv, h1', h2', h3, h4, h5⟩ := T
  match stv, h4 with
  | v :: v0 :: stv, ⟨ex, ey, h4⟩ =>
    cases ex; cases ey
    have ec : (nI i).toNatClampNeg = i := nI_clamp (by omega)
    exact va_ti C.1.1 C.1.2 C.2.2.2.2.2.2.2.2.1.2.1.2 h5.2.2.2 (q_in h1 (by omega)) (v := .int (nI (q_chi i))) (by rw [ec]) hd (k.go C ⟨ad, tys, ws, lv, h1', h2', h3, ⟨rfl, h4⟩, h5⟩ Rt)
theorem q_sld2 {i : Nat} (hd : decode M.2.1 pc = .ok (.laload, 1)) (h1 : i < 6)
    (k : q_W E M Q (pc + 1) lo (.inr (.inr (.inl (q_whe i))) :: st) ce sl h) : q_W E M Q pc lo (.inl i :: .inr (.inr (.inr (.inr (.inr (.inl 2))))) :: st) ce sl h := by
  intro p e R s m args below meth c A ad0 Z H locs ls stv C T Rt
  obtain ⟨ad, tys, ws, lv, h1', h2', h3, h4, h5⟩ := T
  match stv, h4 with
  | v :: v0 :: stv, ⟨ex, ey, h4⟩ =>
    cases ex; cases ey
    have ec : (nI i).toNatClampNeg = i := nI_clamp (by omega)
    exact va_tl C.1.1 C.1.2 C.2.2.2.2.2.2.2.2.1.2.2.1.2 h5.2.2.2 (q_in h1 (by omega)) (v := .long (lN (q_whe i))) (by rw [ec]) hd (k.go C ⟨ad, tys, ws, lv, h1', h2', h3, ⟨rfl, h4⟩, h5⟩ Rt)
theorem q_sld0 {i : Nat} (hd : decode M.2.1 pc = .ok (.iaload, 1)) (h1 : i < E.2.2.2.2) (h2 : i < 2147483648)
    (k : q_W E M Q (pc + 1) lo (.inr (.inr (.inr (.inl i))) :: st) ce sl h) : q_W E M Q pc lo (.inl i :: .inr (.inr (.inr (.inr (.inr (.inl 0))))) :: st) ce sl h := by
  intro p e R s m args below meth c A ad0 Z H locs ls stv C T Rt
  obtain ⟨ad, tys, ws, lv, h1', h2', h3, h4, h5⟩ := T
  match stv, h4 with
  | v :: v0 :: stv, ⟨ex, ey, h4⟩ =>
    cases ex; cases ey
    have ec : (nI i).toNatClampNeg = i := nI_clamp h2
    obtain ⟨w1, w2, w3⟩ := C.2.2.2.2.2.2.2.2.1.1
    exact va_sld C.1.1 C.1.2 w1 w2 w3 h5.2.2.2 (q_in h1 h2) hd (k.go C ⟨ad, tys, ws, lv, h1', h2', h3, ⟨by rw [ec]; rfl, h4⟩, h5⟩ Rt)
theorem q_slen0 (hd : decode M.2.1 pc = .ok (.arraylength, 1))
    (k : q_W E M Q (pc + 1) lo (.inl E.2.2.2.2 :: st) ce sl h) : q_W E M Q pc lo (.inr (.inr (.inr (.inr (.inr (.inl 0))))) :: st) ce sl h := by
  intro p e R s m args below meth c A ad0 Z H locs ls stv C T Rt
  obtain ⟨ad, tys, ws, lv, h1', h2', h3, h4, h5⟩ := T
  match stv, h4 with
  | v0 :: stv, ⟨ey, h4⟩ =>
    cases ey
    obtain ⟨w1, w2, w3⟩ := C.2.2.2.2.2.2.2.2.1.1
    exact va_slen C.1.1 C.1.2 w1 w2 w3 h5.2.2.2 hd (k.go C ⟨ad, tys, ws, lv, h1', h2', h3, ⟨rfl, h4⟩, h5⟩ Rt)
theorem q_ldcS (hM : M.1.cls = "TreePasses") (hd : decode M.2.1 pc = .ok (.ldc 76, 2))
    (k : q_W E M Q (pc + 2) lo (.inr (.inr (.inr (.inr (.inr (.inl 3))))) :: st) ce sl h) : q_W E M Q pc lo st ce sl h := by
  intro p e R s m args below meth c A ad0 Z H locs ls stv C T Rt
  obtain ⟨ad, tys, ws, lv, h1', h2', h3, h4, h5⟩ := T
  exact va_ldcS C.1.1 C.1.2 (by rw [← hM]; exact C.2.2.2.2.1) C.2.2.2.2.2.2.2.2.1.2.2.2.1.1 hd (k.go C ⟨ad, tys, ws, lv, h1', h2', h3, ⟨rfl, h4⟩, h5⟩ Rt)
end
end
section
theorem q_dv : ∀ ci (q : vw_C), q_cl[ci]? = some q → ∀ k, k < q.2.2 → (q_isr (q_ty ci k) = false ∧ defaultValue (q_ty ci k) = .int (nI 0)) ∨ (q_isr (q_ty ci k) = true ∧ defaultValue (q_ty ci k) = .null) := by
  intro ci q hq
  match ci, hq with
  | 0, hq => cases hq; decide +kernel
  | 1, hq => cases hq; decide +kernel
  | 2, hq => cases hq; decide +kernel
  | 3, hq => cases hq; decide +kernel
  | 4, hq => cases hq; decide +kernel
  | 5, hq => cases hq; decide +kernel
  | 6, hq => cases hq; decide +kernel
  | 7, hq => cases hq; decide +kernel
  | 8, hq => cases hq; decide +kernel
  | 9, hq => cases hq; decide +kernel
  | k + 10, hq => simp [q_cl] at hq
/-- the code of a long -/
def q_sx (n : Nat) : Nat := (q_bi n + 18446744071562067968) % 18446744073709551616
theorem q_i2lx (a : Nat) : (nI a).toInt64 = lN (q_sx a) := by unfold q_sx; exact q_i2l a
def q_cdL (E : q_E) : q_V → Option Nat
  | .inr (.inr (.inl n)) => some n
  | .inr (.inr (.inr (.inr (.inl k)))) => some (q_sx (E.2.2.2.1 k))
  | _ => none
theorem q_cdL_vr {E : q_E} {x : q_V} {a : Nat} {ad : List Nat} {v : Value} (hx : q_cdL E x = some a) (h : q_vr E ad x v) : v = .long (lN a) := by
  exact match x, hx, h with
  | .inr (.inr (.inl n)), hx, h => by cases hx; exact h
  | .inr (.inr (.inr (.inr (.inl k)))), hx, h => by
    have e : q_sx (E.2.2.2.1 k) = a := Option.some.inj hx
    rw [← e]
    exact Eq.trans (show v = .long (nI (E.2.2.2.1 k)).toInt64 from h) (congrArg Value.long (q_i2lx _))
theorem q_lcmpv (a b : Nat) : lg_cmp (lN a) (lN b) = nI (if q_bl b < q_bl a then 1 else if q_bl a = q_bl b then 0 else 4294967295) := by
  unfold lg_cmp
  by_cases h1 : q_bl b < q_bl a
  · rw [if_pos h1, if_pos (q_ltL.mpr h1)]; rfl
  · rw [if_neg h1, if_neg (fun z => h1 (q_ltL.mp z))]
    by_cases h2 : q_bl a = q_bl b
    · rw [if_pos h2, if_pos (q_eqL.mpr h2)]; rfl
    · rw [if_neg h2, if_neg (fun z => h2 (q_eqL.mp z))]; decide +kernel
def q_at (t : Nat) : ArrayType := match t with
  | 0 => .int | 1 => .long | 2 => .char | _ => .boolean
section
variable {E : q_E} {M : q_M} {Q : Option q_V → q_H → Prop} {pc : Nat} {lo : q_Lo} {st : List q_V} {ce sl : Nat} {h : q_H}
theorem q_lcmp {x y : q_V} {a b : Nat} (hd : decode M.2.1 pc = .ok (.lcmp, 1)) (hx : q_cdL E x = some a) (hy : q_cdL E y = some b)
    (k : q_W E M Q (pc + 1) lo (.inl (if q_bl b < q_bl a then 1 else if q_bl a = q_bl b then 0 else 4294967295) :: st) ce sl h) : q_W E M Q pc lo (y :: x :: st) ce sl h := by
  intro p e R s m args below meth c A ad0 Z H locs ls stv C T Rt
  obtain ⟨ad, tys, ws, lv, h1, h2, h3, h4, h5⟩ := T
  match stv, h4 with
  | v0 :: v1 :: stv, ⟨e0, e1, h4⟩ =>
    rw [q_cdL_vr hy e0, q_cdL_vr hx e1]
    refine W.lcmp C.1.1 C.1.2 hd ?_
    rw [q_lcmpv]
    exact k.go C ⟨ad, tys, ws, lv, h1, h2, h3, ⟨rfl, h4⟩, h5⟩ Rt
/-- a switch by a table: lo0 and the table's length are Nats here -/
theorem q_tswIn {x : q_V} {a len i : Nat} {dflt off lo0 hi0 : Int} {offs : Array Int} {tgt : Nat} (hd : decode M.2.1 pc = .ok (.tableswitch dflt lo0 hi0 offs, len)) (hx : q_cd E x = some a) (ha : (q_bi a : Int) - 2147483648 = lo0 + i) (hi : lo0 + i ≤ hi0) (ho : offs[i]? = some off) (ht : (pc : Int) + off = (tgt : Int))
    (k : q_W E M Q tgt lo st ce sl h) : q_W E M Q pc lo (x :: st) ce sl h := by
  intro p e R s m args below meth c A ad0 Z H locs ls stv C T Rt
  obtain ⟨ad, tys, ws, lv, h1, h2, h3, h4, h5⟩ := T
  match stv, h4 with
  | v0 :: stv, ⟨e0, h4⟩ =>
    rw [q_cd_vr hx e0]
    refine lv_tableIn C.1.1 C.1.2 hd (by rw [q_toInt, ha]; omega) (by rw [q_toInt, ha]; omega) ?_ ht (k.go C ⟨ad, tys, ws, lv, h1, h2, h3, h4, h5⟩ Rt)
    rw [q_toInt, ha, show (lo0 + (i : Int) - lo0).toNat = i by omega]
    exact ho
theorem q_tswOut {x : q_V} {a len : Nat} {dflt lo0 hi0 : Int} {offs : Array Int} {tgt : Nat} (hd : decode M.2.1 pc = .ok (.tableswitch dflt lo0 hi0 offs, len)) (hx : q_cd E x = some a) (ha : (q_bi a : Int) - 2147483648 < lo0 ∨ hi0 < (q_bi a : Int) - 2147483648) (ht : (pc : Int) + dflt = (tgt : Int))
    (k : q_W E M Q tgt lo st ce sl h) : q_W E M Q pc lo (x :: st) ce sl h := by
  intro p e R s m args below meth c A ad0 Z H locs ls stv C T Rt
  obtain ⟨ad, tys, ws, lv, h1, h2, h3, h4, h5⟩ := T
  match stv, h4 with
  | v0 :: stv, ⟨e0, h4⟩ =>
    rw [q_cd_vr hx e0]
    exact lv_tableOut C.1.1 C.1.2 hd (by rw [q_toInt]; exact ha) ht (k.go C ⟨ad, tys, ws, lv, h1, h2, h3, h4, h5⟩ Rt)
/-- a new object -/
theorem q_new {idx ci : Nat} {q : vw_C} (hd : decode M.2.1 pc = .ok (.new idx, 3)) (hq : q_cl[ci]? = some q) (hw : Cond.classLink M.1.cls idx q.1 ∈ q_gd) (hi : Cond.instantiable q.1 q.2.2 ∈ q_gd) (hn : Cond.initialized q.1 ∈ q_gd) (hc : ce + 1 ≤ M.2.2.2.2.cells) (hs : sl + q.2.2 ≤ M.2.2.2.2.slots)
    (k : q_W E M Q (pc + 3) lo (.inr (.inl (q_cnt h)) :: st) (ce + 1) (sl + q.2.2) (q_push h (ci + 5, q.2.2, 0))) : q_W E M Q pc lo st ce sl h := by
  intro p e R s m args below meth c A ad0 Z H locs ls stv C T Rt
  obtain ⟨ad, tys, ws, lv, ⟨z, h1⟩, h2, h3, h4, h5⟩ := T
  have hR := C.2.2.2.2.2.2.2.1
  have hts := C.2.2.2.2.2.1
  obtain ⟨w1, w2, w3⟩ := q_cw ci q hq
  refine va_new (fs := (List.range q.2.2).map (fun j => defaultValue (q_ty ci j))) C.1.1 C.1.2 hts w1 (q_ty ci) w2 C.2.2.2.2.1 (hts _ hw) (hts _ hi) (hts _ hn) h2 h5.2.1 h5.2.2.1 h5.2.2.2 C.2.2.2.2.2.2.2.2.2 hq (fun j hj => by simp [vp_V, List.getD, hj]) (by rw [hR]; exact hc) (by rw [hR]; exact hs) hd (fun a H1 y1 y2 y3 => ?_)
  have hh := q_hr_push (t2 := []) (q := a) (c := (ci + 5, q.2.2, 0)) (e := .inr (ci, (List.range q.2.2).map (fun j => defaultValue (q_ty ci j)))) h5.1 (by
    refine Or.inr (Or.inr (Or.inr (Or.inr (Or.inr ⟨ci, _, q, rfl, hq, rfl, rfl, by simp, fun k' hk' => ?_⟩))))
    have hk' : k' < q.2.2 := hk'
    refine ⟨defaultValue (q_ty ci k'), by simp [hk'], ?_⟩
    show q_fr _ _ (q_rd 0 k') _
    rw [q_rd_zero]
    rcases q_dv ci q hq k' hk' with ⟨g1, g2⟩ | ⟨g1, g2⟩
    · rw [g1, g2]; rfl
    · rw [g1, g2]; exact Or.inl ⟨rfl, rfl⟩)
  rw [List.append_nil] at hh
  exact k.go C ⟨ad ++ [a], tys, _, lv, ⟨z ++ [a], by rw [h1, List.append_assoc]⟩, h2, ⟨h3.1, q_lr_mono h3.2⟩, ⟨⟨a, q_new_ref h5.1, rfl⟩, q_sr_mono h4⟩, hh, y1, y2, y3⟩ Rt
/-- a new array of whole numbers -/
theorem q_newa {t n : Nat} (ht : t < 4) (hd : decode M.2.1 pc = .ok (.newarray (q_at t), 2)) (hw : Cond.arrayClass (newarray.typeOf (q_at t)) ∈ q_gd) (hn : n < 1000000) (hc : ce + 1 ≤ M.2.2.2.2.cells) (hs : sl + n ≤ M.2.2.2.2.slots)
    (k : q_W E M Q (pc + 2) lo (.inr (.inl (q_cnt h)) :: st) (ce + 1) (sl + n) (q_push h (t, n, 0))) : q_W E M Q pc lo (.inl n :: st) ce sl h := by
  intro p e R s m args below meth c A ad0 Z H locs ls stv C T Rt
  obtain ⟨ad, tys, ws, lv, ⟨z, h1⟩, h2, h3, h4, h5⟩ := T
  have hR := C.2.2.2.2.2.2.2.1
  have hts := C.2.2.2.2.2.1
  match stv, h4 with
  | v0 :: stv, ⟨e0, h4⟩ =>
    cases e0
    have hb : n * componentBytes (newarray.typeOf (q_at t)) ≤ 536870912 := by
      have : componentBytes (newarray.typeOf (q_at t)) ≤ 8 := by
        have : t = 0 ∨ t = 1 ∨ t = 2 ∨ t = 3 := by omega
        rcases this with rfl | rfl | rfl | rfl <;> decide
      have := Nat.mul_le_mul (Nat.le_of_lt hn) this
      omega
    have hcl : (nI n).toNatClampNeg = n := nI_clamp (by omega)
    have hpos : ¬ nI n < 0 := nI_pos (by omega)
    have key : ∀ (a0 : vp_A) (ty : FieldType), newarray.typeOf (q_at t) = ty → (∀ cA : ClassId, vp_cell cA a0 = arrV cA n (fun _ => defaultValue ty)) → (∀ (q : Nat) (cA : ClassId), q_cr (tys ++ [(cA, ty)]) (ad ++ [q]) (t, n, 0) (.inl (cA, a0))) → W p E.1 e R s m args below meth c H locs ce sl Z (F0 m pc ls (.int (nI n) :: stv)) := by
      intro a0 ty hty ha hcr
      refine va_newa C.1.1 C.1.2 (hts _ hw) hty h2 h5.2.1 h5.2.2.1 h5.2.2.2 C.2.2.2.2.2.2.2.2.2 ha hpos hcl (by rw [← hty]; exact hb) (by rw [hR]; exact hc) (by rw [hR]; exact hs) hd (fun a cA H1 y0 y1 y2 y3 => ?_)
      exact k.go C ⟨ad ++ [a], tys ++ [(cA, ty)], _, lv, ⟨z ++ [a], by rw [h1, List.append_assoc]⟩, y0, ⟨h3.1, q_lr_mono h3.2⟩, ⟨⟨a, q_new_ref h5.1, rfl⟩, q_sr_mono h4⟩, q_hr_push h5.1 (hcr a cA), y1, y2, y3⟩ Rt
    have hz : (fun j : Nat => Value.int (nI (q_rd 0 j))) = fun _ => .int 0 := by
      funext j; rw [q_rd_zero, nI_0]
    have ht4 : t = 0 ∨ t = 1 ∨ t = 2 ∨ t = 3 := by omega
    rcases ht4 with rfl | rfl | rfl | rfl
    · refine key (n, .inl (fun i => nI (q_rd 0 i))) .int rfl (fun cA => ?_) (fun q cA => Or.inl ⟨rfl, cA, tys.length, by simp, rfl⟩)
      rw [vp_cell_i, hz]; rfl
    · refine key (n, .inr (.inl (fun i => lN (q_rd 0 i)))) .long rfl (fun cA => ?_) (fun q cA => Or.inr (Or.inl ⟨rfl, cA, tys.length, by simp, rfl⟩))
      rw [vp_cell_l]
      have : (fun j : Nat => Value.long (lN (q_rd 0 j))) = fun _ => .long 0 := by
        funext j; rw [q_rd_zero]; rfl
      rw [this]; rfl
    · refine key (n, .inl (fun i => nI (q_rd 0 i))) .char rfl (fun cA => ?_) (fun q cA => Or.inr (Or.inr (Or.inl ⟨rfl, cA, tys.length, by simp, rfl⟩)))
      rw [vp_cell_i, hz]; rfl
    · refine key (n, .inl (fun i => nI (q_rd 0 i))) .boolean rfl (fun cA => ?_) (fun q cA => Or.inr (Or.inr (Or.inr (Or.inl ⟨rfl, cA, tys.length, by simp, rfl⟩))))
      rw [vp_cell_i, hz]; rfl
theorem q_newq {idx n : Nat} (hd : decode M.2.1 pc = .ok (.anewarray idx, 3)) (hw : Cond.classLink M.1.cls idx RX2 ∈ q_gd) (hn : n < 1000000) (hc : ce + 1 ≤ M.2.2.2.2.cells) (hs : sl + n ≤ M.2.2.2.2.slots)
    (k : q_W E M Q (pc + 3) lo (.inr (.inl (q_cnt h)) :: st) (ce + 1) (sl + n) (q_push h (4, n, 0))) : q_W E M Q pc lo (.inl n :: st) ce sl h := by
  intro p e R s m args below meth c A ad0 Z H locs ls stv C T Rt
  obtain ⟨ad, tys, ws, lv, ⟨z, h1⟩, h2, h3, h4, h5⟩ := T
  have hR := C.2.2.2.2.2.2.2.1
  have hts := C.2.2.2.2.2.1
  match stv, h4 with
  | v0 :: stv, ⟨e0, h4⟩ =>
    cases e0
    refine va_newq C.1.1 C.1.2 C.2.2.2.2.1 (hts _ hw) C.2.2.2.2.2.2.2.2.1.2.2.2.2.2 h2 h5.2.1 h5.2.2.1 h5.2.2.2 C.2.2.2.2.2.2.2.2.2 (nI_pos (by omega)) (nI_clamp (by omega)) (by omega) (by rw [hR]; exact hc) (by rw [hR]; exact hs) hd (fun a cA H1 y0 y1 y2 y3 => ?_)
    exact k.go C ⟨ad ++ [a], tys ++ [(cA, .object RX2)], _, lv, ⟨z ++ [a], by rw [h1, List.append_assoc]⟩, y0, ⟨h3.1, q_lr_mono h3.2⟩, ⟨⟨a, q_new_ref h5.1, rfl⟩, q_sr_mono h4⟩, q_hr_push h5.1 (Or.inr (Or.inr (Or.inr (Or.inr (Or.inl ⟨rfl, cA, tys.length, _, by simp, rfl, fun i => Or.inl ⟨by show q_rd 0 i = 0; exact q_rd_zero i, rfl⟩⟩))))), y1, y2, y3⟩ Rt
/-- words of the operand stack below -/
def q_wd (st : List q_V) : Nat := (st.map q_cat).sum
theorem q_wd_sr {ad : List Nat} : ∀ {st : List q_V} {stv : List Value}, q_sr E ad st stv → (stv.map fun v => v.category).sum = q_wd st
  | [], [], _ => rfl
  | x :: st, v :: stv, h => by
    have h2 := q_wd_sr h.2
    have h1 := q_vr_cat h.1
    unfold q_wd at h2 ⊢
    rw [List.map_cons, List.map_cons, List.sum_cons, List.sum_cons, h2, h1]
theorem q_objInit {r idx : Nat} (hd : decode M.2.1 pc = .ok (.invokespecial idx, 3)) (hw : Cond.methodLink M.1.cls idx Lib.objectInit ∈ q_gd) (hf : 1 ≤ M.2.2.2.2.frames) (hl : q_wd st + 12 ≤ M.2.2.2.2.locals) (hg : Cond.instanceMethod Lib.objectInit ∈ q_gd ∧ Cond.code Lib.objectInit ⟨#[0xb1]⟩ 1 none ∈ q_gd)
    (k : q_W E M Q (pc + 3) lo st ce sl h) : q_W E M Q pc lo (.inr (.inl r) :: st) ce sl h := by
  intro p e R s m args below meth c A ad0 Z H locs ls stv C T Rt
  obtain ⟨ad, tys, ws, lv, h1, h2, h3, h4, h5⟩ := T
  have hR := C.2.2.2.2.2.2.2.1
  have hts := C.2.2.2.2.2.1
  match stv, h4 with
  | v0 :: stv, ⟨⟨a0, e0, e1⟩, h4⟩ =>
    subst e1
    exact W.objInit C.1.1 C.1.2 C.2.2.2.2.1 (hts _ hw) (hts _ hg.1) (hts _ hg.2) rfl (h3.1.1.trans C.2.1.symm) rfl hd (by rw [hR]; exact hf) (by rw [hR, q_wd_sr h4]; show 2 * 0 + _ + 12 ≤ _; omega) (k.go C ⟨ad, tys, ws, lv, h1, h2, h3, h4, h5⟩ Rt)
theorem q_copy {r r' sp dp n n0 d0 n1 d1 idx : Nat} (hd : decode M.2.1 pc = .ok (.invokestatic idx, 3)) (hw : Cond.methodLink M.1.cls idx arraycopyName ∈ q_gd) (hg : Cond.native arraycopyName ∈ q_gd ∧ Cond.static arraycopyName ∈ q_gd ∧ Cond.initialized "java/lang/System" ∈ q_gd) (hf : 1 ≤ M.2.2.2.2.frames) (hl : q_wd st + 18 ≤ M.2.2.2.2.locals)
    (hc : q_get h r = some (0, n0, d0)) (hc' : q_get h r' = some (0, n1, d1)) (b1 : sp + n ≤ n0) (b2 : dp + n ≤ n1) (c1 : sp < 2147483648) (c2 : dp < 2147483648) (c3 : n < 2147483648)
    (k : q_W E M Q (pc + 3) lo st ce sl (q_put h r' (0, n1, q_cp d1 d0 sp dp n))) : q_W E M Q pc lo (.inl n :: .inl dp :: .inr (.inl r') :: .inl sp :: .inr (.inl r) :: st) ce sl h := by
  intro p e R s m args below meth c A ad0 Z H locs ls stv C T Rt
  obtain ⟨ad, tys, ws, lv, h1, h2, h3, h4, h5⟩ := T
  have hR := C.2.2.2.2.2.2.2.1
  have hts := C.2.2.2.2.2.1
  match stv, h4 with
  | v0 :: v1 :: v2 :: v3 :: v4 :: stv, ⟨e0, e1, ⟨a', u0, u1⟩, e3, ⟨a, w0, w1⟩, h4⟩ =>
    subst u1
    subst w1
    cases e0; cases e1; cases e3
    obtain ⟨b, cA, t0, g1, g2, g3⟩ := q_arr h5.1 hc (Or.inl rfl)
    obtain ⟨b', cA', t0', g1', g2', g3'⟩ := q_arr h5.1 hc' (Or.inl rfl)
    rw [g1] at w0
    cases w0
    rw [g1'] at u0
    cases u0
    refine va_copyi C.1.1 C.1.2 (C.2.1.trans h3.1.1.symm) C.2.2.2.2.1 (hts _ hw) (hts _ hg.1) (hts _ hg.2.1) (hts _ hg.2.2) h2 h5.2.1 h5.2.2.1 h5.2.2.2 r r' t0 t0' g3 g3' g2 g2' rfl (nI_pos c1) (nI_pos c2) (nI_pos c3) (by rw [nI_clamp c1, nI_clamp c3]; exact b1) (by rw [nI_clamp c2, nI_clamp c3]; exact b2) (fun i _ => rfl) (by rw [hR]; exact hf) (by rw [hR, q_wd_sr h4]; exact hl) hd (fun H1 locs1 y1 y2 y3 => ?_)
    have e : va_cpy (fun i => nI (q_rd d0 i)) (fun i => nI (q_rd d1 i)) (nI sp).toNatClampNeg (nI dp).toNatClampNeg (nI n).toNatClampNeg = fun i => nI (q_rd (q_cp d1 d0 sp dp n) i) := by
      funext j
      rw [nI_clamp c1, nI_clamp c2, nI_clamp c3, q_rd_cp]
      unfold va_cpy
      split <;> rfl
    rw [e] at y1 y2
    exact k.go C ⟨ad, tys, _, lv, h1, h2, h3, h4, q_hr_set h5.1 hc' g1' (Or.inl ⟨rfl, cA', t0', g2', rfl⟩), y1, y2, y3⟩ Rt
theorem q_max {a b idx : Nat} (hd : decode M.2.1 pc = .ok (.invokestatic idx, 3)) (hw : Cond.methodLink M.1.cls idx Lib.Math.max.name ∈ q_gd) (hg : Cond.static Lib.Math.max.name ∈ q_gd ∧ Cond.initialized "java/lang/Math" ∈ q_gd ∧ Cond.code Lib.Math.max.name Lib.Math.max.code 2 (some .int) ∈ q_gd) (hf : 1 ≤ M.2.2.2.2.frames) (hl : q_wd st + 13 ≤ M.2.2.2.2.locals) (hc : ce ≤ M.2.2.2.2.cells) (hs : sl ≤ M.2.2.2.2.slots)
    (k : q_W E M Q (pc + 3) lo (.inl (if q_bi a < q_bi b then b else a) :: st) ce sl h) : q_W E M Q pc lo (.inl b :: .inl a :: st) ce sl h := by
  intro p e R s m args below meth c A ad0 Z H locs ls stv C T Rt
  obtain ⟨ad, tys, ws, lv, h1, h2, h3, h4, h5⟩ := T
  have hR := C.2.2.2.2.2.2.2.1
  have hts := C.2.2.2.2.2.1
  match stv, h4 with
  | v0 :: v1 :: stv, ⟨e0, e1, h4⟩ =>
    cases e0; cases e1
    refine va_mmax C.1.1 C.1.2 (C.2.1.trans h3.1.1.symm) C.2.2.2.2.1 (hts _ hw) (hts _ hg.1) (hts _ hg.2.1) (hts _ hg.2.2) (by rw [hR]; exact hf) (by rw [hR, q_wd_sr h4]; exact hl) (by rw [hR]; exact hc) (by rw [hR]; exact hs) hd ?_
    have e : (if nI a < nI b then nI b else nI a) = nI (if q_bi a < q_bi b then b else a) := by
      by_cases z : q_bi a < q_bi b
      · rw [if_pos z, if_pos (q_lt.mpr z)]
      · rw [if_neg z, if_neg (fun y => z (q_lt.mp y))]
    rw [e]
    exact k.go C ⟨ad, tys, ws, lv, h1, h2, h3, ⟨rfl, h4⟩, h5⟩ Rt
theorem q_min {a b idx : Nat} (hd : decode M.2.1 pc = .ok (.invokestatic idx, 3)) (hw : Cond.methodLink M.1.cls idx Lib.Math.min.name ∈ q_gd) (hg : Cond.static Lib.Math.min.name ∈ q_gd ∧ Cond.initialized "java/lang/Math" ∈ q_gd ∧ Cond.code Lib.Math.min.name Lib.Math.min.code 2 (some .int) ∈ q_gd) (hf : 1 ≤ M.2.2.2.2.frames) (hl : q_wd st + 13 ≤ M.2.2.2.2.locals) (hc : ce ≤ M.2.2.2.2.cells) (hs : sl ≤ M.2.2.2.2.slots)
    (k : q_W E M Q (pc + 3) lo (.inl (if q_bi b < q_bi a then b else a) :: st) ce sl h) : q_W E M Q pc lo (.inl b :: .inl a :: st) ce sl h := by
  intro p e R s m args below meth c A ad0 Z H locs ls stv C T Rt
  obtain ⟨ad, tys, ws, lv, h1, h2, h3, h4, h5⟩ := T
  have hR := C.2.2.2.2.2.2.2.1
  have hts := C.2.2.2.2.2.1
  match stv, h4 with
  | v0 :: v1 :: stv, ⟨e0, e1, h4⟩ =>
    cases e0; cases e1
    refine va_mmin C.1.1 C.1.2 (C.2.1.trans h3.1.1.symm) C.2.2.2.2.1 (hts _ hw) (hts _ hg.1) (hts _ hg.2.1) (hts _ hg.2.2) (by rw [hR]; exact hf) (by rw [hR, q_wd_sr h4]; exact hl) (by rw [hR]; exact hc) (by rw [hR]; exact hs) hd ?_
    have e : (if nI b < nI a then nI b else nI a) = nI (if q_bi b < q_bi a then b else a) := by
      by_cases z : q_bi b < q_bi a
      · rw [if_pos z, if_pos (q_lt.mpr z)]
      · rw [if_neg z, if_neg (fun y => z (q_lt.mp y))]
    rw [e]
    exact k.go C ⟨ad, tys, ws, lv, h1, h2, h3, ⟨rfl, h4⟩, h5⟩ Rt
theorem q_abs {a idx : Nat} (hd : decode M.2.1 pc = .ok (.invokestatic idx, 3)) (hw : Cond.methodLink M.1.cls idx Lib.Math.abs.name ∈ q_gd) (hg : Cond.static Lib.Math.abs.name ∈ q_gd ∧ Cond.initialized "java/lang/Math" ∈ q_gd ∧ Cond.code Lib.Math.abs.name Lib.Math.abs.code 1 (some .int) ∈ q_gd) (hf : 1 ≤ M.2.2.2.2.frames) (hl : q_wd st + 13 ≤ M.2.2.2.2.locals) (hc : ce ≤ M.2.2.2.2.cells) (hs : sl ≤ M.2.2.2.2.slots)
    (k : q_W E M Q (pc + 3) lo (.inl (if 2147483648 ≤ q_bi a then a else (4294967296 - a % 4294967296) % 4294967296) :: st) ce sl h) : q_W E M Q pc lo (.inl a :: st) ce sl h := by
  intro p e R s m args below meth c A ad0 Z H locs ls stv C T Rt
  obtain ⟨ad, tys, ws, lv, h1, h2, h3, h4, h5⟩ := T
  have hR := C.2.2.2.2.2.2.2.1
  have hts := C.2.2.2.2.2.1
  match stv, h4 with
  | v0 :: stv, ⟨e0, h4⟩ =>
    cases e0
    refine va_mabs C.1.1 C.1.2 (C.2.1.trans h3.1.1.symm) C.2.2.2.2.1 (hts _ hw) (hts _ hg.1) (hts _ hg.2.1) (hts _ hg.2.2) (by rw [hR]; exact hf) (by rw [hR, q_wd_sr h4]; exact hl) (by rw [hR]; exact hc) (by rw [hR]; exact hs) hd ?_
    have e : (if 0 ≤ nI a then nI a else 0 - nI a) = nI (if 2147483648 ≤ q_bi a then a else (4294967296 - a % 4294967296) % 4294967296) := by
      by_cases z : 2147483648 ≤ q_bi a
      · rw [if_pos z, if_pos (q_ge0.mpr z)]
      · rw [if_neg z, if_neg (fun y => z (q_ge0.mp y)), ← nI_0, q_sub]
        congr 1
        omega
    rw [e]
    exact k.go C ⟨ad, tys, ws, lv, h1, h2, h3, ⟨rfl, h4⟩, h5⟩ Rt
/-- the end of a method -/
theorem q_ret {r : Option q_V} (hr : q_ri M.2.1 M.2.2.2.1 pc r) (hc : ce ≤ M.2.2.2.2.cells) (hs : sl ≤ M.2.2.2.2.slots) (hQ : Q r h) : q_W E M Q pc lo r.toList ce sl h := by
  intro p e R s m args below meth c A ad0 Z H locs ls stv C T Rt
  obtain ⟨ad, tys, ws, lv, h1, h2, h3, h4, h5⟩ := T
  have hR := C.2.2.2.2.2.2.2.1
  exact Rt pc ls r stv h H locs ce sl hr ⟨ad, tys, ws, [], h1, h2, ⟨⟨h3.1.1, h3.1.2.1, fun q hq => by cases hq⟩, trivial⟩, h4, h5⟩ hQ (by rw [hR]; exact hc) (by rw [hR]; exact hs)
end
end
section
def q_A (ad0 : List Nat) (sz : Nat) : Nat → Prop := fun q => q ∈ ad0 ∨ sz ≤ q
def q_Pc (E : q_E) (ad0 : List Nat) (sz : Nat) (as : List q_V) (h : q_H) : Array Value → State → Prop := fun v U =>
  ∃ (vs : List Value) (tys : List (ClassId × FieldType)) (ws : va_W), v = vs.toArray ∧ q_sr E ad0 as vs ∧ va_K E.2.1 q_cl tys U ∧ q_hr tys ad0 h ws ∧ va_P E.2.1 q_cl ws U.heap ∧ va_D (q_A ad0 sz) ws ∧ U.heap.size = sz ∧ q_St E (q_A ad0 sz) U U.heap
def q_Qc (E : q_E) (ad0 : List Nat) (sz : Nat) (Q : Option q_V → q_H → Prop) : Array Value → State → Outcome → State → Prop := fun _ st oc t =>
  (∃ (r : Option q_V) (h' : q_H) (v : Option Value) (ad' : List Nat) (tys' : List (ClassId × FieldType)) (ws' : va_W), oc = .returned v ∧ q_sr E ad' r.toList v.toList ∧ Q r h' ∧ (∃ z, ad' = ad0 ++ z) ∧ va_K E.2.1 q_cl tys' t ∧ q_hr tys' ad' h' ws' ∧ va_P E.2.1 q_cl ws' t.heap ∧ va_D (q_A ad0 sz) ws') ∧ va_F (q_A ad0 sz) st t
def q_ws (M : q_M) : List Cond := Cond.code M.1 M.2.1 M.2.2.1 M.2.2.2.1 :: q_gd
/-- a method with these arguments, from this heap, ends with Q -/
def q_P (E : q_E) (M : q_M) (as : List q_V) (h : q_H) (Q : Option q_V → q_H → Prop) : Prop := ∀ (ad0 : List Nat) (sz : Nat), Met E.1 M.1 (q_ws M) M.2.2.2.2 (q_Pc E ad0 sz as h) (q_Qc E ad0 sz Q) M.2.2.2.2.cells M.2.2.2.2.slots (q_A ad0 sz)
theorem q_blind {E : q_E} {ad0 : List Nat} {sz : Nat} {as : List q_V} {h : q_H} : FrameBlind (q_Pc E ad0 sz as h) := by
  intro a U g mk ⟨vs, tys, ws, g1, g2, g3, g4, g5, g6, g7, g8⟩
  exact ⟨vs, tys, ws, g1, g2, va_K.moved (u := U) (U := U.calling g mk a) (Vm.Alike.refl U.vm) g3, g4, g5, g6, g7, q_St_to (s := U) (U := U.calling g mk a) g8 (State.WarmedH.refl U) va_S.rf (fun _ z => z)⟩
def q_args : Nat → List q_V → q_Lo
  | _, [] => []
  | i, x :: xs => (i, x) :: q_args (if q_cat x = 2 then i + 2 else i + 1) xs
theorem q_args_lr {E : q_E} {ad : List Nat} : ∀ {as : List q_V} {vs : List Value} {i : Nat}, q_sr E ad as vs → q_lr E ad (q_args i as) (lv_args i vs)
  | [], [], _, _ => trivial
  | x :: as, v :: vs, i, h => by
    have hc := q_vr_cat h.1
    refine ⟨⟨rfl, h.1⟩, ?_⟩
    rw [hc]
    exact q_args_lr h.2
theorem q_args_len {E : q_E} {ad : List Nat} : ∀ {as : List q_V} {vs : List Value}, q_sr E ad as vs → (lg_sl vs).length = q_wd as
  | [], [], _ => rfl
  | x :: as, v :: vs, h => by
    have h2 := q_args_len h.2
    have hc := q_vr_cat h.1
    have h0 : q_wd (x :: as) = q_cat x + q_wd as := by simp [q_wd]
    rw [h0, ← h2, ← hc]
    unfold lg_sl
    rw [List.flatMap_cons, List.length_append]
    rcases lv_cat v with e | e
    · simp [e]
    · simp [e]
theorem q_Pof {E : q_E} {M : q_M} {as : List q_V} {h : q_H} {Q : Option q_V → q_H → Prop} (hy : plainName M.1.cls = true) (hl : q_wd as ≤ M.2.2.1) (k : q_W E M Q 0 (q_args 0 as) [] 0 0 h) : q_P E M as h Q := by
  intro ad0 sz
  refine Met.ofW (cc := M.2.1) (maxL := M.2.2.1) (ret := M.2.2.2.1) hy rfl ?_
  intro p e s m args below meth c s₁ B hml hv
  obtain ⟨vs, tys, ws, rfl, hsr, hK, hhr, hP, hD, hsz, hSt⟩ := hv
  subst hsz
  have hts := atoms_spec (ws := q_ws M) B.pre
  have hown : s.vm.findClass M.1.cls = some m.cls := findClass_of_methodNamed B.named
  have C : q_Cx E M p M.2.2.2.2 s m vs.toArray meth c (q_A ad0 s.heap.size) := ⟨⟨B.exec, B.bytes⟩, hml, B.returns, B.notSynchronized, hown, fun w hw => hts w (List.mem_cons_of_mem _ hw), (name_of_methodNamed B.named B.method).1, rfl, hSt, fun q hq => Or.inr hq⟩
  rw [lg_entry_eq]
  have hle := q_args_len hsr
  have T : q_At E M.2.2.1 s (q_A ad0 s.heap.size) ad0 (q_args 0 as) [] h s.heap [] ((lg_sl vs ++ List.replicate (M.2.2.1 - (lg_sl vs).length) Slot.unset).toArray) [] := ⟨ad0, tys, ws, lv_args 0 vs, ⟨[], by simp⟩, hK, ⟨lv_entry vs (by rw [hle]; exact hl), q_args_lr hsr⟩, trivial, hhr, hP, hD, va_S.rf⟩
  refine k.go (below := below) (Z := MQ below (q_Qc E ad0 s.heap.size Q) vs.toArray s M.2.2.2.2.cells M.2.2.2.2.slots (q_A ad0 s.heap.size)) C T ?_
  intro pc ls r stv h' H locs ce sl hri T' hQ hce hsl
  obtain ⟨ad, tys', ws', lv, t1, t2, t3, t4, t5, t6, t7, t8⟩ := T'
  refine W.widen hce hsl ?_
  have hpost : ∀ v : Option Value, q_sr E ad r.toList v.toList → ∀ t : State, t.heap = H → s.WarmedH t.vm → q_Qc E ad0 s.heap.size Q vs.toArray s (.returned v) t := by
    intro v hv t ht hW
    exact ⟨⟨r, h', v, ad, tys', ws', rfl, hv, hQ, t1, va_K.moved hW.alike t2, t5, by rw [ht]; exact t6, t7⟩, t8.F ht⟩
  have hlocks := B.notSynchronized
  match r, hri, t4, hpost with
  | none, hri, t4, hpost =>
    match stv, t4 with
    | [], t4 => exact W.vret B.exec B.bytes (B.returns.trans hri.2) (hpost none trivial) t8.2.2 hri.1
  | some (.inl n), hri, t4, hpost =>
    match stv, t4 with
    | [v], t4 =>
      obtain ⟨e1, -⟩ := t4
      cases e1
      rcases hri.2 with hrt | ⟨ty, hrt, hn⟩
      · exact W.iret B.exec B.bytes (B.returns.trans hrt) (hpost (some (.int (nI n))) ⟨rfl, trivial⟩) t8.2.2 hri.1
      · exact W.zret B.exec B.bytes (B.returns.trans hrt) hn (hpost (some (.int (nI n))) ⟨rfl, trivial⟩) t8.2.2 hri.1
  | some (.inr (.inl r')), hri, t4, hpost =>
    match stv, t4 with
    | [v], t4 =>
      obtain ⟨⟨a, e0, e1⟩, -⟩ := t4
      subst e1
      obtain ⟨nm, hrt⟩ := hri.2
      exact W.aret B.exec B.bytes (B.returns.trans hrt) (Or.inl ⟨nm, rfl⟩) (Or.inr ⟨a, rfl⟩) (hpost (some (.ref a)) ⟨⟨a, e0, rfl⟩, trivial⟩) t8.2.2 hri.1
  | some (.inr (.inr (.inl n))), hri, t4, hpost =>
    match stv, t4 with
    | [v], t4 =>
      obtain ⟨e1, -⟩ := t4
      cases e1
      exact W.lret B.exec B.bytes (B.returns.trans hri.2) (hpost (some (.long (lN n))) ⟨rfl, trivial⟩) t8.2.2 hri.1
  | some (.inr (.inr (.inr (.inl n)))), hri, t4, hpost =>
    match stv, t4 with
    | [v], t4 =>
      obtain ⟨e1, -⟩ := t4
      have e1 : v = .int (nI (E.2.2.2.1 n)) := e1
      subst e1
      exact W.iret B.exec B.bytes (B.returns.trans hri.2) (hpost (some (.int (nI (E.2.2.2.1 n)))) ⟨rfl, trivial⟩) t8.2.2 hri.1
/-- what a call's link needs, apart from the kind: room, words, the number of arguments -/
def q_ok (M M' : q_M) (n : Nat) : Prop := (M'.2.2.2.2.frames + 1 ≤ M.2.2.2.2.frames ∧ 8 + (M'.2.2.1 + 11) + M'.2.2.2.2.locals ≤ M.2.2.2.2.locals) ∧ Cond.code M'.1 M'.2.1 M'.2.2.1 M'.2.2.2.1 ∈ q_gd ∧ Cond.initialized M'.1.cls ∈ q_gd ∧ (M'.1.cls ≠ "java/lang/invoke/MethodHandle" ∧ M'.1.cls ≠ "java/lang/invoke/VarHandle" ∧ (parseMethodDescriptor M'.1.desc).map (fun d => d.parameters.length) = some n)
theorem q_good {M' : q_M} (h : Cond.code M'.1 M'.2.1 M'.2.2.1 M'.2.2.2.1 ∈ q_gd) : GoodIn q_gd (q_ws M') := by
  have hg : ∀ w ∈ q_gd, w ∈ q_gd ∧ ((w.onTables && w.keeps) = true ∨ ∃ ty, w = .arrayClass ty) := fun w hw => ⟨hw, good_of_word (List.mem_filter.mp hw).2⟩
  intro w hw
  rcases List.mem_cons.mp hw with rfl | hw
  · exact hg _ h
  · exact hg w hw
section
variable {E : q_E} {M M' : q_M} {Q Q' : Option q_V → q_H → Prop} {pc : Nat} {lo : q_Lo} {st : List q_V} {ce sl : Nat} {h : q_H}
variable {p : Program} {e : Env} {R : Room} {s : State} {m : MethodId} {args : Array Value} {below : List Frame} {meth : Method} {c : Code} {A : Nat → Prop} {ad0 ad : List Nat} {Z : State → Prop} {H : Heap} {locs : List Loc} {ls : Array Slot}
theorem q_adA {tys : List (ClassId × FieldType)} {ws : va_W} (hr : q_hr tys ad h ws) (hD : va_D A ws) (hS : va_S A s.heap H locs) (hA : ∀ q, s.heap.size ≤ q → A q) : ∀ q, q_A ad H.size q → A q := by
  rintro q (hq | hq)
  · rw [← hr.1] at hq
    obtain ⟨x, hx, rfl⟩ := List.mem_map.mp hq
    obtain ⟨k, hk⟩ := List.mem_iff_getElem?.mp hx
    exact hD.2 k x hk
  · exact hA q (Nat.le_trans hS.1 hq)
/-- behind a call -/
theorem q_after {tys : List (ClassId × FieldType)} {ws : va_W} {lv : List (Nat × Value)} {rest st0 : List Value} {av : Array Value} {mc ms : Nat} (C : q_Cx E M p R s m args meth c A) (h1 : ∃ z, ad = ad0 ++ z) (h3 : lv_has ls M.2.2.1 lv ∧ q_lr E ad lo lv) (h4 : q_sr E ad st rest) (hr : q_hr tys ad h ws) (hD : va_D A ws) (hS : va_S A s.heap H locs) (Rt : q_Rt E M Q p e R s m args below meth c A ad0 Z)
    (run : va_Run p E.1 e R s m args below meth c H locs ce sl mc ms (F0 m pc ls st0) rest (q_Qc E ad H.size Q' av) (q_A ad H.size))
    (k : ∀ r h', Q' r h' → q_W E M Q (pc + 3) lo (r.toList ++ st) (ce + mc) (sl + ms) h') : W p E.1 e R s m args below meth c H locs ce sl Z (F0 m pc ls st0) := by
  have hAA := q_adA hr hD hS C.2.2.2.2.2.2.2.2.2
  intro T hT X
  obtain ⟨v, st₀, t, T', L, h0, X', hL, e1, e2, ⟨⟨r, h', v', ad', tys', ws', z1, z2, z3, ⟨z, z4⟩, z5, z6, z7, z8⟩, hz, hk⟩, go⟩ := run T hT X
  cases z1
  rw [h0] at hz hk
  obtain ⟨y, h1⟩ := h1
  have hSS : va_S A s.heap T'.heap (locs ++ L) := ⟨Nat.le_trans hS.1 (by rw [e1]; exact hz), fun q y1 y2 => by rw [e1, hk q (Nat.lt_of_lt_of_le y1 hS.1) (fun w => y2 (hAA q w))]; exact hS.2.1 q y1 y2, fun q hq => by
    rcases List.mem_append.mp hq with w | w
    · exact hS.2.2 q w
    · exact hAA _ (hL q w)⟩
  have happ : ∀ (xs : List q_V) (vs : List Value), q_sr E ad' xs vs → q_sr E ad' (xs ++ st) (vs ++ rest) := by
    intro xs
    induction xs with
    | nil => intro vs w; match vs, w with | [], _ => rw [z4]; exact q_sr_mono h4
    | cons x xs ih => intro vs w; match vs, w with | v :: vs, w => exact ⟨w.1, ih vs w.2⟩
  have kz := (k r h' z3).go (p := p) (e := e) (R := R) (s := s) (m := m) (args := args) (below := below) (meth := meth) (c := c) (A := A) (ad0 := ad0) (Z := Z) (H := T'.heap) (locs := locs ++ L) (ls := ls) (stv := v.toList ++ rest) C
    ⟨ad', tys', ws', lv, ⟨y ++ z, by rw [z4, h1, List.append_assoc]⟩, va_K.moved (by rw [← e2]; exact X'.warmed.alike.symm) z5, ⟨h3.1, by rw [z4]; exact q_lr_mono h3.2⟩, happ _ _ z2, z6, by rw [e1]; exact z7, z8.weaken (fun _ q _ w => hAA q.1 w), hSS⟩ Rt
  obtain ⟨t2, a1, b1⟩ := kz T' rfl X'
  exact ⟨t2, go t2 a1, b1⟩
/-- the callee's start -/
theorem q_start {tys : List (ClassId × FieldType)} {ws : va_W} {as : List q_V} {vs : List Value} (C : q_Cx E M p R s m args meth c A) (h2 : va_K E.2.1 q_cl tys s) (hr : q_hr tys ad h ws) (hP : va_P E.2.1 q_cl ws H) (hD : va_D A ws) (hS : va_S A s.heap H locs) (hv : q_sr E ad as vs) : ∀ U : State, U.heap = H → s.WarmedH U.vm → q_Pc E ad H.size as h vs.toArray U := by
  intro U hU hW
  have hAA := q_adA hr hD hS C.2.2.2.2.2.2.2.2.2
  refine ⟨vs, tys, ws, rfl, hv, va_K.moved hW.alike h2, hr, by rw [hU]; exact hP, ⟨hD.1, fun k q hk => Or.inl ?_⟩, by rw [hU], by rw [hU]; exact q_St_to C.2.2.2.2.2.2.2.2.1 hW hS hAA⟩
  rw [← hr.1]
  exact List.mem_map.mpr ⟨q, List.mem_of_getElem? hk, rfl⟩
theorem q_sr_split {E : q_E} {ad : List Nat} : ∀ {xs ys : List q_V} {vs : List Value}, q_sr E ad (xs ++ ys) vs → ∃ us ws, vs = us ++ ws ∧ q_sr E ad xs us ∧ q_sr E ad ys ws
  | [], ys, vs, h => ⟨[], vs, rfl, trivial, h⟩
  | x :: xs, ys, v :: vs, h => by
    obtain ⟨us, ws, e, g1, g2⟩ := q_sr_split (xs := xs) h.2
    exact ⟨v :: us, ws, by rw [e]; rfl, ⟨h.1, g1⟩, g2⟩
theorem q_sr_app {E : q_E} {ad : List Nat} : ∀ {xs ys : List q_V} {us ws : List Value}, q_sr E ad xs us → q_sr E ad ys ws → q_sr E ad (xs ++ ys) (us ++ ws)
  | [], _, [], _, _, h => h
  | _ :: _, _, _ :: _, _, g, h => ⟨g.1, q_sr_app g.2 h⟩
theorem q_sr_rev {E : q_E} {ad : List Nat} : ∀ {xs : List q_V} {us : List Value}, q_sr E ad xs us → q_sr E ad xs.reverse us.reverse
  | [], [], _ => trivial
  | x :: xs, u :: us, h => by
    rw [List.reverse_cons, List.reverse_cons]
    exact q_sr_app (q_sr_rev h.2) ⟨h.1, trivial⟩
theorem q_sr_len {E : q_E} {ad : List Nat} : ∀ {xs : List q_V} {us : List Value}, q_sr E ad xs us → xs.length = us.length
  | [], [], _ => rfl
  | _ :: _, _ :: _, h => by rw [List.length_cons, List.length_cons, q_sr_len h.2]
end
end
section
section
variable {E : q_E} {M M' : q_M} {Q Q' : Option q_V → q_H → Prop} {pc : Nat} {lo : q_Lo} {st : List q_V} {ce sl : Nat} {h : q_H}

theorem q_callS {as : List q_V} {idx n : Nat} (hd : decode M.2.1 pc = .ok (.invokestatic idx, 3)) (ho : q_ok M M' n) (hw : Cond.methodLink M.1.cls idx M'.1 ∈ q_gd) (hx : Cond.static M'.1 ∈ q_gd) (hn : as.length = n) (hwd : q_wd st ≤ 8) (hc : ce + M'.2.2.2.2.cells ≤ M.2.2.2.2.cells) (hs : sl + M'.2.2.2.2.slots ≤ M.2.2.2.2.slots) (hP : q_P E M' as h Q')
    (k : ∀ r h', Q' r h' → q_W E M Q (pc + 3) lo (r.toList ++ st) (ce + M'.2.2.2.2.cells) (sl + M'.2.2.2.2.slots) h') : q_W E M Q pc lo (as.reverse ++ st) ce sl h := by
  intro p e R s m args below meth c A ad0 Z H locs ls stv C T Rt
  obtain ⟨ad, tys, ws, lv, h1, h2, h3, h4, h5⟩ := T
  have hR := C.2.2.2.2.2.2.2.1
  have hts := C.2.2.2.2.2.1
  have hown := C.2.2.2.2.1
  obtain ⟨us, rest, rfl, g1, g2⟩ := q_sr_split h4
  have g3 := q_sr_rev g1
  rw [List.reverse_reverse] at g3
  have glen : us.reverse.length = n := by rw [← q_sr_len g3]; exact hn
  exact q_after C h1 h3 g2 h5.1 h5.2.2.1 h5.2.2.2 Rt (va_runS (As := us.reverse) (rest := rest) ⟨C.1.1, C.1.2, C.2.1, hown, hts⟩ (hP ad H.size) ⟨(callB_of n hts (q_good ho.2.1) rfl rfl rfl (hts _ ho.2.2.1) (hts _ hw) ho.2.2.2 (by rw [hR]; exact ho.1)), hts _ hx⟩ ⟨q_blind, q_start C h2 h5.1 h5.2.1 h5.2.2.1 h5.2.2.2 g3⟩ rfl glen (h3.1.1) (by show us ++ rest = us.reverse.reverse ++ rest; rw [List.reverse_reverse]) (lv_room (by rw [q_wd_sr g2]; exact hwd)) hd (by rw [hR]; exact ⟨hc, hs⟩)) k

theorem q_callSN {as : List q_V} {idx n : Nat} (hd : decode M.2.1 pc = .ok (.invokestatic idx, 3)) (ho : q_ok M M' n) {host : String} (hw : Cond.methodLinkNest M.1.cls idx M'.1 host ∈ q_nst) (hx : Cond.static M'.1 ∈ q_gd) (hn : as.length = n) (hwd : q_wd st ≤ 8) (hc : ce + M'.2.2.2.2.cells ≤ M.2.2.2.2.cells) (hs : sl + M'.2.2.2.2.slots ≤ M.2.2.2.2.slots) (hP : q_P E M' as h Q')
    (k : ∀ r h', Q' r h' → q_W E M Q (pc + 3) lo (r.toList ++ st) (ce + M'.2.2.2.2.cells) (sl + M'.2.2.2.2.slots) h') : q_W E M Q pc lo (as.reverse ++ st) ce sl h := by
  intro p e R s m args below meth c A ad0 Z H locs ls stv C T Rt
  obtain ⟨ad, tys, ws, lv, h1, h2, h3, h4, h5⟩ := T
  have hR := C.2.2.2.2.2.2.2.1
  have hts := C.2.2.2.2.2.1
  have hown := C.2.2.2.2.1
  obtain ⟨us, rest, rfl, g1, g2⟩ := q_sr_split h4
  have g3 := q_sr_rev g1
  rw [List.reverse_reverse] at g3
  have glen : us.reverse.length = n := by rw [← q_sr_len g3]; exact hn
  exact q_after C h1 h3 g2 h5.1 h5.2.2.1 h5.2.2.2 Rt (va_runSN (As := us.reverse) (rest := rest) ⟨C.1.1, C.1.2, C.2.1, hown, hts⟩ (hP ad H.size) ⟨(va_cnB n hts (q_good ho.2.1) rfl rfl rfl (va_Nw.of (q_nst_on hw) (q_Cx_nst C hw)) (hts _ ho.2.2.1) ho.2.2.2 (by rw [hR]; exact ho.1)), hts _ hx, trivial⟩ ⟨q_blind, q_start C h2 h5.1 h5.2.1 h5.2.2.1 h5.2.2.2 g3⟩ rfl glen (h3.1.1) (by show us ++ rest = us.reverse.reverse ++ rest; rw [List.reverse_reverse]) (lv_room (by rw [q_wd_sr g2]; exact hwd)) hd (by rw [hR]; exact ⟨hc, hs⟩)) k

theorem q_callI {as : List q_V} {idx n : Nat} {r0 : Nat} (hd : decode M.2.1 pc = .ok (.invokespecial idx, 3)) (ho : q_ok M M' n) (hw : Cond.methodLink M.1.cls idx M'.1 ∈ q_gd) (hx : Cond.instanceMethod M'.1 ∈ q_gd) (hi : M'.1.name = "<init>" ∧ M'.2.2.2.1 = none) (hn : as.length = n) (hwd : q_wd st ≤ 8) (hc : ce + M'.2.2.2.2.cells ≤ M.2.2.2.2.cells) (hs : sl + M'.2.2.2.2.slots ≤ M.2.2.2.2.slots) (hP : q_P E M' (.inr (.inl r0) :: as) h Q')
    (k : ∀ r h', Q' r h' → q_W E M Q (pc + 3) lo (r.toList ++ st) (ce + M'.2.2.2.2.cells) (sl + M'.2.2.2.2.slots) h') : q_W E M Q pc lo (as.reverse ++ .inr (.inl r0) :: st) ce sl h := by
  intro p e R s m args below meth c A ad0 Z H locs ls stv C T Rt
  obtain ⟨ad, tys, ws, lv, h1, h2, h3, h4, h5⟩ := T
  have hR := C.2.2.2.2.2.2.2.1
  have hts := C.2.2.2.2.2.1
  have hown := C.2.2.2.2.1
  obtain ⟨us, rest, rfl, g1, g2⟩ := q_sr_split h4
  have g3 := q_sr_rev g1
  rw [List.reverse_reverse] at g3
  have glen : us.reverse.length = n := by rw [← q_sr_len g3]; exact hn
  match rest, g2 with
  | v0 :: rest, ⟨⟨a0, e0, e1⟩, g2⟩ =>
    subst e1
    have gst : q_sr E ad (.inr (.inl r0) :: as) (.ref a0 :: us.reverse) := ⟨⟨a0, e0, rfl⟩, g3⟩
    have hcb : CallB R s args M.1.cls idx M'.1 M'.2.1 M'.2.2.1 none (q_ws M') M'.2.2.2.2 M'.2.2.2.2.cells M'.2.2.2.2.slots n := by
      have z := callB_of (R := R) (own := M.1.cls) (index := idx) (y := M'.1) n hts (q_good ho.2.1) rfl rfl rfl (hts _ ho.2.2.1) (hts _ hw) ho.2.2.2 (by rw [hR]; exact ho.1)
      rw [hi.2] at z
      exact z
    exact q_after C h1 h3 g2 h5.1 h5.2.2.1 h5.2.2.2 Rt (va_runI (As := us.reverse) (rest := rest) ⟨C.1.1, C.1.2, C.2.1, hown, hts⟩ (hP ad H.size) ⟨hcb, hi.1, hts _ hx⟩ ⟨q_blind, q_start C h2 h5.1 h5.2.1 h5.2.2.1 h5.2.2.2 gst⟩ rfl glen (h3.1.1) (by show us ++ .ref a0 :: rest = us.reverse.reverse ++ .ref a0 :: rest; rw [List.reverse_reverse]) (lv_room (by rw [q_wd_sr g2]; exact hwd)) hd (by rw [hR]; exact ⟨hc, hs⟩)) k

theorem q_callIN {as : List q_V} {idx n : Nat} {r0 : Nat} (hd : decode M.2.1 pc = .ok (.invokespecial idx, 3)) (ho : q_ok M M' n) {host : String} (hw : Cond.methodLinkNest M.1.cls idx M'.1 host ∈ q_nst) (hx : Cond.instanceMethod M'.1 ∈ q_gd) (hi : M'.1.name = "<init>" ∧ M'.2.2.2.1 = none) (hn : as.length = n) (hwd : q_wd st ≤ 8) (hc : ce + M'.2.2.2.2.cells ≤ M.2.2.2.2.cells) (hs : sl + M'.2.2.2.2.slots ≤ M.2.2.2.2.slots) (hP : q_P E M' (.inr (.inl r0) :: as) h Q')
    (k : ∀ r h', Q' r h' → q_W E M Q (pc + 3) lo (r.toList ++ st) (ce + M'.2.2.2.2.cells) (sl + M'.2.2.2.2.slots) h') : q_W E M Q pc lo (as.reverse ++ .inr (.inl r0) :: st) ce sl h := by
  intro p e R s m args below meth c A ad0 Z H locs ls stv C T Rt
  obtain ⟨ad, tys, ws, lv, h1, h2, h3, h4, h5⟩ := T
  have hR := C.2.2.2.2.2.2.2.1
  have hts := C.2.2.2.2.2.1
  have hown := C.2.2.2.2.1
  obtain ⟨us, rest, rfl, g1, g2⟩ := q_sr_split h4
  have g3 := q_sr_rev g1
  rw [List.reverse_reverse] at g3
  have glen : us.reverse.length = n := by rw [← q_sr_len g3]; exact hn
  match rest, g2 with
  | v0 :: rest, ⟨⟨a0, e0, e1⟩, g2⟩ =>
    subst e1
    have gst : q_sr E ad (.inr (.inl r0) :: as) (.ref a0 :: us.reverse) := ⟨⟨a0, e0, rfl⟩, g3⟩
    have hcb : va_CN R s args M.1.cls idx M'.1 host M'.2.1 M'.2.2.1 none (q_ws M') M'.2.2.2.2 M'.2.2.2.2.cells M'.2.2.2.2.slots n := by
      have z := va_cnB (R := R) (own := M.1.cls) (index := idx) (y := M'.1) (host := host) n hts (q_good ho.2.1) rfl rfl rfl (va_Nw.of (q_nst_on hw) (q_Cx_nst C hw)) (hts _ ho.2.2.1) ho.2.2.2 (by rw [hR]; exact ho.1)
      rw [hi.2] at z
      exact z
    exact q_after C h1 h3 g2 h5.1 h5.2.2.1 h5.2.2.2 Rt (va_runIN (As := us.reverse) (rest := rest) ⟨C.1.1, C.1.2, C.2.1, hown, hts⟩ (hP ad H.size) ⟨hcb, hi.1, hts _ hx⟩ ⟨q_blind, q_start C h2 h5.1 h5.2.1 h5.2.2.1 h5.2.2.2 gst⟩ rfl glen (h3.1.1) (by show us ++ .ref a0 :: rest = us.reverse.reverse ++ .ref a0 :: rest; rw [List.reverse_reverse]) (lv_room (by rw [q_wd_sr g2]; exact hwd)) hd (by rw [hR]; exact ⟨hc, hs⟩)) k

theorem q_callV {as : List q_V} {idx n : Nat} {r0 ci n0 d0 : Nat} (hd : decode M.2.1 pc = .ok (.invokevirtual idx, 3)) (ho : q_ok M M' n) (hw : Cond.methodLink M.1.cls idx M'.1 ∈ q_gd) (hx : Cond.instanceMethod M'.1 ∈ q_gd ∧ Cond.selects M'.1.cls M'.1 M'.1 ∈ q_gd) (hq : q_get h r0 = some (ci + 5, n0, d0)) (hcl : ∀ q : vw_C, q_cl[ci]? = some q → q.1 = M'.1.cls) (hn : as.length = n) (hwd : q_wd st ≤ 8) (hc : ce + M'.2.2.2.2.cells ≤ M.2.2.2.2.cells) (hs : sl + M'.2.2.2.2.slots ≤ M.2.2.2.2.slots) (hP : q_P E M' (.inr (.inl r0) :: as) h Q')
    (k : ∀ r h', Q' r h' → q_W E M Q (pc + 3) lo (r.toList ++ st) (ce + M'.2.2.2.2.cells) (sl + M'.2.2.2.2.slots) h') : q_W E M Q pc lo (as.reverse ++ .inr (.inl r0) :: st) ce sl h := by
  intro p e R s m args below meth c A ad0 Z H locs ls stv C T Rt
  obtain ⟨ad, tys, ws, lv, h1, h2, h3, h4, h5⟩ := T
  have hR := C.2.2.2.2.2.2.2.1
  have hts := C.2.2.2.2.2.1
  have hown := C.2.2.2.2.1
  obtain ⟨us, rest, rfl, g1, g2⟩ := q_sr_split h4
  have g3 := q_sr_rev g1
  rw [List.reverse_reverse] at g3
  have glen : us.reverse.length = n := by rw [← q_sr_len g3]; exact hn
  match rest, g2 with
  | v0 :: rest, ⟨⟨a0, e0, e1⟩, g2⟩ =>
    subst e1
    have gst : q_sr E ad (.inr (.inl r0) :: as) (.ref a0 :: us.reverse) := ⟨⟨a0, e0, rfl⟩, g3⟩
    obtain ⟨b0, fs, q, k1, k2, k3, -⟩ := q_obj h5.1 hq
    rw [k1] at e0
    cases e0
    have rv := va_recv h2 h5.2.1 k3 k2
    rw [hcl q k3] at rv
    exact q_after C h1 h3 g2 h5.1 h5.2.2.1 h5.2.2.2 Rt (va_runV (As := us.reverse) (rest := rest) ⟨C.1.1, C.1.2, C.2.1, hown, hts⟩ (hP ad H.size) ⟨(callB_of n hts (q_good ho.2.1) rfl rfl rfl (hts _ ho.2.2.1) (hts _ hw) ho.2.2.2 (by rw [hR]; exact ho.1)), hts _ hx.1, hts _ hx.2⟩ ⟨q_blind, rv, q_start C h2 h5.1 h5.2.1 h5.2.2.1 h5.2.2.2 gst⟩ rfl glen (h3.1.1) (by show us ++ .ref a0 :: rest = us.reverse.reverse ++ .ref a0 :: rest; rw [List.reverse_reverse]) (lv_room (by rw [q_wd_sr g2]; exact hwd)) hd (by rw [hR]; exact ⟨hc, hs⟩)) k

theorem q_callVN {as : List q_V} {idx n : Nat} {r0 ci n0 d0 : Nat} (hd : decode M.2.1 pc = .ok (.invokevirtual idx, 3)) (ho : q_ok M M' n) {host : String} (hw : Cond.methodLinkNest M.1.cls idx M'.1 host ∈ q_nst) (hx : Cond.instanceMethod M'.1 ∈ q_gd ∧ Cond.selects M'.1.cls M'.1 M'.1 ∈ q_gd) (hq : q_get h r0 = some (ci + 5, n0, d0)) (hcl : ∀ q : vw_C, q_cl[ci]? = some q → q.1 = M'.1.cls) (hn : as.length = n) (hwd : q_wd st ≤ 8) (hc : ce + M'.2.2.2.2.cells ≤ M.2.2.2.2.cells) (hs : sl + M'.2.2.2.2.slots ≤ M.2.2.2.2.slots) (hP : q_P E M' (.inr (.inl r0) :: as) h Q')
    (k : ∀ r h', Q' r h' → q_W E M Q (pc + 3) lo (r.toList ++ st) (ce + M'.2.2.2.2.cells) (sl + M'.2.2.2.2.slots) h') : q_W E M Q pc lo (as.reverse ++ .inr (.inl r0) :: st) ce sl h := by
  intro p e R s m args below meth c A ad0 Z H locs ls stv C T Rt
  obtain ⟨ad, tys, ws, lv, h1, h2, h3, h4, h5⟩ := T
  have hR := C.2.2.2.2.2.2.2.1
  have hts := C.2.2.2.2.2.1
  have hown := C.2.2.2.2.1
  obtain ⟨us, rest, rfl, g1, g2⟩ := q_sr_split h4
  have g3 := q_sr_rev g1
  rw [List.reverse_reverse] at g3
  have glen : us.reverse.length = n := by rw [← q_sr_len g3]; exact hn
  match rest, g2 with
  | v0 :: rest, ⟨⟨a0, e0, e1⟩, g2⟩ =>
    subst e1
    have gst : q_sr E ad (.inr (.inl r0) :: as) (.ref a0 :: us.reverse) := ⟨⟨a0, e0, rfl⟩, g3⟩
    obtain ⟨b0, fs, q, k1, k2, k3, -⟩ := q_obj h5.1 hq
    rw [k1] at e0
    cases e0
    have rv := va_recv h2 h5.2.1 k3 k2
    rw [hcl q k3] at rv
    exact q_after C h1 h3 g2 h5.1 h5.2.2.1 h5.2.2.2 Rt (va_runVN (As := us.reverse) (rest := rest) ⟨C.1.1, C.1.2, C.2.1, hown, hts⟩ (hP ad H.size) ⟨(va_cnB n hts (q_good ho.2.1) rfl rfl rfl (va_Nw.of (q_nst_on hw) (q_Cx_nst C hw)) (hts _ ho.2.2.1) ho.2.2.2 (by rw [hR]; exact ho.1)), hts _ hx.1, hts _ hx.2⟩ ⟨q_blind, rv, q_start C h2 h5.1 h5.2.1 h5.2.2.1 h5.2.2.2 gst⟩ rfl glen (h3.1.1) (by show us ++ .ref a0 :: rest = us.reverse.reverse ++ .ref a0 :: rest; rw [List.reverse_reverse]) (lv_room (by rw [q_wd_sr g2]; exact hwd)) hd (by rw [hR]; exact ⟨hc, hs⟩)) k

theorem q_callU {as : List q_V} {idx n : Nat} {r0 ci n0 d0 : Nat} (hd : decode M.2.1 pc = .ok (.invokevirtual idx, 3)) (ho : q_ok M M' n) {x : MethodName} (hw : Cond.methodLink M.1.cls idx x ∈ q_gd) (hx : Cond.instanceMethod M'.1 ∈ q_gd ∧ Cond.selects M'.1.cls x M'.1 ∈ q_gd ∧ Cond.sameMethod x.cls x.cls x.name x.desc ∈ q_gd ∧ Cond.declares x ∈ q_nst) (hxd : x.desc = M'.1.desc ∧ x.cls ≠ "java/lang/invoke/MethodHandle" ∧ x.cls ≠ "java/lang/invoke/VarHandle") (hq : q_get h r0 = some (ci + 5, n0, d0)) (hcl : ∀ q : vw_C, q_cl[ci]? = some q → q.1 = M'.1.cls) (hn : as.length = n) (hwd : q_wd st ≤ 8) (hc : ce + M'.2.2.2.2.cells ≤ M.2.2.2.2.cells) (hs : sl + M'.2.2.2.2.slots ≤ M.2.2.2.2.slots) (hP : q_P E M' (.inr (.inl r0) :: as) h Q')
    (k : ∀ r h', Q' r h' → q_W E M Q (pc + 3) lo (r.toList ++ st) (ce + M'.2.2.2.2.cells) (sl + M'.2.2.2.2.slots) h') : q_W E M Q pc lo (as.reverse ++ .inr (.inl r0) :: st) ce sl h := by
  intro p e R s m args below meth c A ad0 Z H locs ls stv C T Rt
  obtain ⟨ad, tys, ws, lv, h1, h2, h3, h4, h5⟩ := T
  have hR := C.2.2.2.2.2.2.2.1
  have hts := C.2.2.2.2.2.1
  have hown := C.2.2.2.2.1
  obtain ⟨us, rest, rfl, g1, g2⟩ := q_sr_split h4
  have g3 := q_sr_rev g1
  rw [List.reverse_reverse] at g3
  have glen : us.reverse.length = n := by rw [← q_sr_len g3]; exact hn
  match rest, g2 with
  | v0 :: rest, ⟨⟨a0, e0, e1⟩, g2⟩ =>
    subst e1
    have gst : q_sr E ad (.inr (.inl r0) :: as) (.ref a0 :: us.reverse) := ⟨⟨a0, e0, rfl⟩, g3⟩
    obtain ⟨b0, fs, q, k1, k2, k3, -⟩ := q_obj h5.1 hq
    rw [k1] at e0
    cases e0
    have rv := va_recv h2 h5.2.1 k3 k2
    rw [hcl q k3] at rv
    have hcu : va_CU R s args M.1.cls M'.1.cls x.cls idx x M'.1 M'.2.1 M'.2.2.1 M'.2.2.2.1 (q_ws M') M'.2.2.2.2 M'.2.2.2.2.cells M'.2.2.2.2.slots n := by
      have hcode : Cond.code M'.1 M'.2.1 M'.2.2.1 M'.2.2.2.1 ∈ q_ws M' := List.mem_cons_self
      refine ⟨⟨rfl, rfl, by rw [hR]; exact ho.1.1, by rw [hR]; exact ho.1.2, pay_in hts (q_good ho.2.1), hcode⟩, hts _ ho.2.1, hts _ ho.2.2.1, hxd.2, fun sig z => ?_, hts _ hw, hts _ hx.2.2.1, va_Decl.abs (va_Nw.of (q_nst_on hx.2.2.2) (q_Cx_nst C hx.2.2.2)), hts _ hx.2.1, hts _ hx.1⟩
      have z2 := ho.2.2.2.2.2
      rw [← hxd.1, z] at z2
      exact (Option.some.inj z2).symm
    exact q_after C h1 h3 g2 h5.1 h5.2.2.1 h5.2.2.2 Rt (va_runU (As := us.reverse) (rest := rest) ⟨C.1.1, C.1.2, C.2.1, hown, hts⟩ (hP ad H.size) hcu ⟨q_blind, rv, q_start C h2 h5.1 h5.2.1 h5.2.2.1 h5.2.2.2 gst⟩ rfl glen (h3.1.1) (by show us ++ .ref a0 :: rest = us.reverse.reverse ++ .ref a0 :: rest; rw [List.reverse_reverse]) (lv_room (by rw [q_wd_sr g2]; exact hwd)) hd (by rw [hR]; exact ⟨hc, hs⟩)) k

end
end
section
/-! the evaluator's small parts: all go on by a continuation, so that the kernel works them out as they come -/
abbrev q_B : Type := List (Nat × Nat)
abbrev q_K : Type := q_B → q_Lo → List q_V → Nat → Nat → q_H → Bool
abbrev q_KR : Type := q_B → Option q_V → q_H → Bool
abbrev q_Op : Type := q_B → q_Lo → List q_V → Nat → Nat → q_H → q_K → (Nat → q_K) → q_KR → (Nat → q_B → List q_V → q_H → q_KR → Bool) → Bool
/-- the script's ints lie in the box, moved up by half -/
def q_inB (E : q_E) (B : q_B) : Prop := ∀ k lo hi, B[k]? = some (lo, hi) → lo ≤ q_bi (E.2.2.2.1 k) ∧ q_bi (E.2.2.2.1 k) ≤ hi
noncomputable def e_frc (n : Nat) (f : Nat → Bool) : Bool := Nat.rec (motive := fun _ => Bool) (f 0) (fun m _ => f (Nat.succ m)) n
theorem e_frc_eq {n : Nat} {f : Nat → Bool} : e_frc n f = f n := by cases n <;> rfl
noncomputable def e_pop {α : Type} (st : List α) (k : α → List α → Bool) : Bool := List.rec (motive := fun _ => Bool) false (fun v t _ => k v t) st
theorem e_pop_ok {α : Type} {st : List α} {k : α → List α → Bool} (h : e_pop st k = true) : ∃ v t, st = v :: t ∧ k v t = true := by
  cases st with
  | nil => cases h
  | cons v t => exact ⟨v, t, rfl, h⟩
noncomputable def e_nth {α : Type} (l : List α) : Nat → (α → Bool) → Bool := List.rec (motive := fun _ => Nat → (α → Bool) → Bool) (fun _ _ => false) (fun a _ ih i k => Nat.rec (motive := fun _ => Bool) (k a) (fun i' _ => ih i' k) i) l
theorem e_nth_ok {α : Type} : ∀ {l : List α} {i : Nat} {k : α → Bool}, e_nth l i k = true → ∃ a, l[i]? = some a ∧ k a = true
  | [], _, _, h => by cases h
  | a :: l, 0, _, h => ⟨a, rfl, h⟩
  | a :: l, i + 1, k, h => by
    obtain ⟨b, h1, h2⟩ := e_nth_ok (l := l) (i := i) (k := k) h
    exact ⟨b, by rw [List.getElem?_cons_succ]; exact h1, h2⟩
noncomputable def e_set {α : Type} (l : List α) (x : α) : Nat → (List α → Bool) → Bool := List.rec (motive := fun _ => Nat → (List α → Bool) → Bool) (fun _ _ => false) (fun a t ih i k => Nat.rec (motive := fun _ => Bool) (k (x :: t)) (fun i' _ => ih i' (fun t' => k (a :: t'))) i) l
theorem e_set_ok {α : Type} {x : α} : ∀ {l : List α} {i : Nat} {k : List α → Bool}, e_set l x i k = true → k (l.set i x) = true
  | [], _, _, h => by cases h
  | a :: l, 0, _, h => h
  | a :: l, i + 1, k, h => by
    have := e_set_ok (l := l) (i := i) (k := fun t' => k (a :: t')) h
    exact this
noncomputable def e_cel (h : q_H) (r : Nat) (k : Nat → Nat → Nat → Bool) : Bool := e_nth h (r / 16) (fun row => e_nth row (r % 16) (fun c => k c.1 c.2.1 c.2.2))
theorem e_cel_ok {h : q_H} {r : Nat} {k : Nat → Nat → Nat → Bool} (e : e_cel h r k = true) : ∃ t n d, q_get h r = some (t, n, d) ∧ k t n d = true := by
  obtain ⟨row, h1, h2⟩ := e_nth_ok e
  obtain ⟨⟨t, n, d⟩, h3, h4⟩ := e_nth_ok h2
  exact ⟨t, n, d, by unfold q_get; rw [h1]; exact h3, h4⟩
noncomputable def e_put (h : q_H) (r t n d : Nat) (k : q_H → Bool) : Bool := e_frc d (fun d => e_nth h (r / 16) (fun row => e_set row (t, n, d) (r % 16) (fun row' => e_set h row' (r / 16) k)))
theorem e_put_ok {h : q_H} {r t n d : Nat} {k : q_H → Bool} (e : e_put h r t n d k = true) : k (q_put h r (t, n, d)) = true := by
  unfold e_put at e
  rw [e_frc_eq] at e
  obtain ⟨row, h1, h2⟩ := e_nth_ok e
  have h3 := e_set_ok (e_set_ok h2)
  have : h.set (r / 16) (row.set (r % 16) (t, n, d)) = q_put h r (t, n, d) := by
    unfold q_put
    apply List.ext_getElem?
    intro j
    rw [List.getElem?_set, List.getElem?_modify]
    by_cases c : r / 16 = j
    · subst c
      obtain ⟨hl, he⟩ := List.getElem?_eq_some_iff.mp h1
      simp [hl, he]
    · simp [c]
  rw [this] at h3
  exact h3
noncomputable def e_app (l : List q_C) (c : q_C) : (List q_C → Bool) → Bool := List.rec (motive := fun _ => (List q_C → Bool) → Bool) (fun k => k [c]) (fun a _ ih k => ih (fun t => k (a :: t))) l
theorem e_app_ok {c : q_C} : ∀ {l : List q_C} {k : List q_C → Bool}, e_app l c k = k (l ++ [c])
  | [], _ => rfl
  | a :: l, k => e_app_ok (l := l) (k := fun t => k (a :: t))
noncomputable def e_push (h : q_H) (c : q_C) : (q_H → Bool) → Bool := List.rec (motive := fun _ => (q_H → Bool) → Bool) (fun k => k [[c]]) (fun row t ih k => List.rec (motive := fun _ => Bool) (cond (Nat.ble (Nat.succ row.length) 16) (e_app row c (fun row' => k [row'])) (k [row, [c]])) (fun _ _ _ => ih (fun t' => k (row :: t'))) t) h
theorem e_push_ok {c : q_C} : ∀ {h : q_H} {k : q_H → Bool}, e_push h c k = true → k (q_push h c) = true
  | [], _, e => e
  | [row], k, e => by
    have e : cond (Nat.ble (Nat.succ row.length) 16) (e_app row c (fun row' => k [row'])) (k [row, [c]]) = true := e
    show k (if row.length < 16 then [row ++ [c]] else [row, [c]]) = true
    cases hb : Nat.ble (Nat.succ row.length) 16 with
    | true =>
      rw [hb] at e
      have e : e_app row c (fun row' => k [row']) = true := e
      rw [e_app_ok] at e
      rw [if_pos (show row.length < 16 from Nat.le_of_ble_eq_true hb)]
      exact e
    | false =>
      rw [hb] at e
      have : ¬ row.length < 16 := fun z => by
        have z2 := Nat.ble_eq_true_of_le (show row.length.succ ≤ 16 from z)
        rw [hb] at z2
        cases z2
      rw [if_neg this]
      exact e
  | row :: r2 :: h, k, e => e_push_ok (h := r2 :: h) (k := fun t' => k (row :: t')) e
/-- n values from the stack, the deepest first -/
noncomputable def e_args (n : Nat) : List q_V → List q_V → (List q_V → List q_V → Bool) → Bool := Nat.rec (motive := fun _ => List q_V → List q_V → (List q_V → List q_V → Bool) → Bool) (fun st acc k => k acc st) (fun _ ih st acc k => e_pop st (fun v st' => ih st' (v :: acc) k)) n
theorem e_args_ok : ∀ {n : Nat} {st acc : List q_V} {k : List q_V → List q_V → Bool}, e_args n st acc k = true → ∃ as st', st = as.reverse ++ st' ∧ as.length = n ∧ k (as ++ acc) st' = true
  | 0, st, acc, k, h => ⟨[], st, rfl, rfl, h⟩
  | n + 1, st, acc, k, h => by
    obtain ⟨v, t, rfl, h⟩ := e_pop_ok (show e_pop st (fun v st' => e_args n st' (v :: acc) k) = true from h)
    obtain ⟨as, st', e1, e2, e3⟩ := e_args_ok (n := n) h
    refine ⟨as ++ [v], st', ?_, by simp [e2], ?_⟩
    · rw [e1, List.reverse_append]; rfl
    · rw [List.append_assoc]; exact e3
/-- a value by its kind -/
noncomputable def e_isR (v : q_V) (k : Nat → Bool) : Bool := Sum.rec (motive := fun _ => Bool) (fun _ => false) (fun v => Sum.rec (motive := fun _ => Bool) k (fun _ => false) v) v
theorem e_isR_ok {v : q_V} {k : Nat → Bool} (h : e_isR v k = true) : ∃ r, v = .inr (.inl r) ∧ k r = true := by
  match v, h with
  | .inr (.inl r), h => exact ⟨r, rfl, h⟩
noncomputable def e_isL (v : q_V) (k : Nat → Bool) : Bool := Sum.rec (motive := fun _ => Bool) (fun _ => false) (fun v => Sum.rec (motive := fun _ => Bool) (fun _ => false) (fun v => Sum.rec (motive := fun _ => Bool) k (fun _ => false) v) v) v
theorem e_isL_ok {v : q_V} {k : Nat → Bool} (h : e_isL v k = true) : ∃ n, v = .inr (.inr (.inl n)) ∧ k n = true := by
  match v, h with
  | .inr (.inr (.inl r)), h => exact ⟨r, rfl, h⟩
/-- int: go on with the code; script's int: go on with its number -/
noncomputable def e_is (v : q_V) (ki ks : Nat → Bool) : Bool := Sum.rec (motive := fun _ => Bool) ki (fun v => Sum.rec (motive := fun _ => Bool) (fun _ => false) (fun v => Sum.rec (motive := fun _ => Bool) (fun _ => false) (fun v => Sum.rec (motive := fun _ => Bool) ks (fun _ => false) v) v) v) v
theorem e_is_ok {v : q_V} {ki ks : Nat → Bool} (h : e_is v ki ks = true) : (∃ n, v = .inl n ∧ ki n = true) ∨ ∃ s, v = .inr (.inr (.inr (.inl s))) ∧ ks s = true := by
  match v, h with
  | .inl n, h => exact Or.inl ⟨n, rfl, h⟩
  | .inr (.inr (.inr (.inl s))), h => exact Or.inr ⟨s, rfl, h⟩
theorem q_inB_set {E : q_E} {B : q_B} {s lo hi : Nat} (h : q_inB E B) (h1 : lo ≤ q_bi (E.2.2.2.1 s)) (h2 : q_bi (E.2.2.2.1 s) ≤ hi) : q_inB E (B.set s (lo, hi)) := by
  intro k lo' hi' e
  rw [List.getElem?_set] at e
  by_cases c : s = k
  · subst c
    rw [if_pos rfl] at e
    split at e
    · cases e; exact ⟨h1, h2⟩
    · cases e
  · rw [if_neg c] at e
    exact h k lo' hi' e
/-- all numbers from lo on, n of them -/
noncomputable def e_all (n : Nat) : Nat → (Nat → Bool) → Bool := Nat.rec (motive := fun _ => Nat → (Nat → Bool) → Bool) (fun _ _ => true) (fun _ ih lo k => cond (k lo) (e_frc (Nat.succ lo) (fun lo => ih lo k)) false) n
theorem e_all_ok : ∀ {n lo : Nat} {k : Nat → Bool}, e_all n lo k = true → ∀ c, lo ≤ c → c < lo + n → k c = true
  | 0, lo, k, _, c, h1, h2 => by omega
  | n + 1, lo, k, h, c, h1, h2 => by
    have h : cond (k lo) (e_frc (Nat.succ lo) (fun lo => e_all n lo k)) false = true := h
    cases hk : k lo with
    | false => rw [hk] at h; cases h
    | true =>
      rw [hk] at h
      have h : e_frc (Nat.succ lo) (fun lo => e_all n lo k) = true := h
      rw [e_frc_eq] at h
      by_cases e : c = lo
      · rw [e]; exact hk
      · exact e_all_ok h c (by omega) (by omega)
/-- the code of an int; a script's int is split into all that it may be -/
noncomputable def e_int (B : q_B) (v : q_V) (k : q_B → Nat → Bool) : Bool := e_is v (fun n => k B n) (fun s => e_nth B s (fun p => cond (Nat.ble p.2 (p.1 + 300)) (e_all (p.2 + 1 - p.1) p.1 (fun c => e_set B (c, c) s (fun B => e_frc ((c + 2147483648) % 4294967296) (fun n => k B n)))) false))
theorem e_int_ok {E : q_E} {B : q_B} {v : q_V} {k : q_B → Nat → Bool} (hB : q_inB E B) (h : e_int B v k = true) : ∃ n B', q_inB E B' ∧ k B' n = true ∧ ∀ ad w, q_vr E ad v w → q_vr E ad (.inl n) w := by
  rcases e_is_ok h with ⟨n, rfl, h⟩ | ⟨s, rfl, h⟩
  · exact ⟨n, B, hB, h, fun _ _ z => z⟩
  · obtain ⟨⟨lo, hi⟩, h1, h2⟩ := e_nth_ok h
    obtain ⟨b1, b2⟩ := hB s lo hi h1
    have h2 : cond (Nat.ble hi (lo + 300)) (e_all (hi + 1 - lo) lo (fun c => e_set B (c, c) s (fun B => e_frc ((c + 2147483648) % 4294967296) (fun n => k B n)))) false = true := h2
    cases hb : Nat.ble hi (lo + 300) with
    | false => rw [hb] at h2; cases h2
    | true =>
      rw [hb] at h2
      have h3 := e_set_ok (e_all_ok h2 (q_bi (E.2.2.2.1 s)) b1 (by omega))
      rw [e_frc_eq] at h3
      refine ⟨_, _, q_inB_set hB (Nat.le_refl _) (Nat.le_refl _), h3, fun ad w z => ?_⟩
      have z : w = .int (nI (E.2.2.2.1 s)) := z
      show w = .int (nI _)
      rw [z]
      exact congrArg Value.int (q_nI_eq.mpr (by unfold q_bi; omega))
/-- is the script's int, moved up by half, below c? -/
noncomputable def e_lt (B : q_B) (s c : Nat) (kt kf : q_B → Bool) : Bool := e_nth B s (fun p => cond (Nat.ble (Nat.succ p.2) c) (kt B) (cond (Nat.ble c p.1) (kf B) (cond (e_set B (p.1, c - 1) s kt) (e_set B (c, p.2) s kf) false)))
theorem e_lt_ok {E : q_E} {B : q_B} {s c : Nat} {kt kf : q_B → Bool} (hB : q_inB E B) (h : e_lt B s c kt kf = true) : (q_bi (E.2.2.2.1 s) < c ∧ ∃ B', q_inB E B' ∧ kt B' = true) ∨ (¬ q_bi (E.2.2.2.1 s) < c ∧ ∃ B', q_inB E B' ∧ kf B' = true) := by
  obtain ⟨⟨lo, hi⟩, h1, h2⟩ := e_nth_ok h
  obtain ⟨b1, b2⟩ := hB s lo hi h1
  have h2 : cond (Nat.ble (Nat.succ hi) c) (kt B) (cond (Nat.ble c lo) (kf B) (cond (e_set B (lo, c - 1) s kt) (e_set B (c, hi) s kf) false)) = true := h2
  cases x1 : Nat.ble (Nat.succ hi) c with
  | true =>
    rw [x1] at h2
    have := Nat.le_of_ble_eq_true x1
    exact Or.inl ⟨by omega, B, hB, h2⟩
  | false =>
    rw [x1] at h2
    cases x2 : Nat.ble c lo with
    | true =>
      rw [x2] at h2
      have := Nat.le_of_ble_eq_true x2
      exact Or.inr ⟨by omega, B, hB, h2⟩
    | false =>
      rw [x2] at h2
      have h2 : cond (e_set B (lo, c - 1) s kt) (e_set B (c, hi) s kf) false = true := h2
      cases x3 : e_set B (lo, c - 1) s kt with
      | false => rw [x3] at h2; cases h2
      | true =>
        rw [x3] at h2
        have h2 : e_set B (c, hi) s kf = true := h2
        by_cases z : q_bi (E.2.2.2.1 s) < c
        · exact Or.inl ⟨z, _, q_inB_set hB b1 (by omega), e_set_ok x3⟩
        · exact Or.inr ⟨z, _, q_inB_set hB (by omega) b2, e_set_ok h2⟩
noncomputable def e_lg (lo : q_Lo) (i : Nat) (k : q_V → Bool) : Bool := List.rec (motive := fun _ => Bool) false (fun p _ ih => cond (Nat.beq p.1 i) (k p.2) ih) lo
theorem e_lg_ok {i : Nat} {k : q_V → Bool} : ∀ {lo : q_Lo}, e_lg lo i k = true → ∃ v, q_lg lo i = some v ∧ k v = true
  | [], h => by cases h
  | p :: lo, h => by
    have h : cond (Nat.beq p.1 i) (k p.2) (e_lg lo i k) = true := h
    cases hb : Nat.beq p.1 i with
    | true =>
      rw [hb] at h
      exact ⟨p.2, by unfold q_lg; rw [if_pos (Nat.eq_of_beq_eq_true hb)], h⟩
    | false =>
      rw [hb] at h
      obtain ⟨v, h1, h2⟩ := e_lg_ok (lo := lo) h
      exact ⟨v, by unfold q_lg; rw [if_neg (Nat.ne_of_beq_eq_false hb)]; exact h1, h2⟩
theorem q_beq (a b : Nat) : (a == b) = Nat.beq a b := by
  cases h : Nat.beq a b with
  | true => simp [Nat.eq_of_beq_eq_true h]
  | false => simp [Nat.ne_of_beq_eq_false h]
/-- a store of one slot; none may be hit that has two -/
noncomputable def e_ls1 (lo : q_Lo) (i : Nat) (x : q_V) (k : q_Lo → Bool) : Bool := List.rec (motive := fun _ => (q_Lo → Bool) → Bool) (fun k => k []) (fun p _ ih k => cond (Nat.beq p.1 i) (ih k) (cond (and (Nat.beq (Nat.succ p.1) i) (Nat.beq (q_cat p.2) 2)) (ih k) (ih (fun t => k (p :: t))))) lo (fun t => k ((i, x) :: t))
theorem e_ls1_ok {lo : q_Lo} {i : Nat} {x : q_V} {k : q_Lo → Bool} (h : e_ls1 lo i x k = true) : k (q_ls1 lo i x) = true := by
  have key : ∀ (lo : q_Lo) (k : q_Lo → Bool), List.rec (motive := fun _ => (q_Lo → Bool) → Bool) (fun k => k []) (fun p _ ih k => cond (Nat.beq p.1 i) (ih k) (cond (and (Nat.beq (Nat.succ p.1) i) (Nat.beq (q_cat p.2) 2)) (ih k) (ih (fun t => k (p :: t))))) lo k = true → k (lo.filter (fun q => !(q.1 == i) && !(q.1 + 1 == i && q_cat q.2 == 2))) = true := by
    intro lo
    induction lo with
    | nil => intro k h; exact h
    | cons p lo ih =>
      intro k h
      rw [List.filter_cons]
      have e1 : (p.1 == i) = Nat.beq p.1 i := q_beq _ _
      have e2 : (p.1 + 1 == i) = Nat.beq (Nat.succ p.1) i := q_beq _ _
      have e3 : (q_cat p.2 == 2) = Nat.beq (q_cat p.2) 2 := q_beq _ _
      rw [e1, e2, e3]
      dsimp only at h
      cases b1 : Nat.beq p.1 i with
      | true => rw [b1] at h; exact ih _ h
      | false =>
        rw [b1] at h
        cases b2 : (Nat.beq (Nat.succ p.1) i && Nat.beq (q_cat p.2) 2) with
        | true =>
          have h : cond (Nat.beq (Nat.succ p.1) i && Nat.beq (q_cat p.2) 2) _ _ = true := h
          rw [b2] at h
          exact ih _ h
        | false =>
          have h : cond (Nat.beq (Nat.succ p.1) i && Nat.beq (q_cat p.2) 2) _ _ = true := h
          rw [b2] at h
          exact ih (fun t => k (p :: t)) h
  exact key lo (fun t => k ((i, x) :: t)) h
noncomputable def e_ls2 (lo : q_Lo) (i : Nat) (x : q_V) (k : q_Lo → Bool) : Bool := List.rec (motive := fun _ => (q_Lo → Bool) → Bool) (fun k => k []) (fun p _ ih k => cond (or (Nat.beq p.1 i) (or (Nat.beq p.1 (i + 1)) (and (Nat.beq (Nat.succ p.1) i) (Nat.beq (q_cat p.2) 2)))) (ih k) (ih (fun t => k (p :: t)))) lo (fun t => k ((i, x) :: t))
theorem e_ls2_ok {lo : q_Lo} {i : Nat} {x : q_V} {k : q_Lo → Bool} (h : e_ls2 lo i x k = true) : k (q_ls2 lo i x) = true := by
  have key : ∀ (lo : q_Lo) (k : q_Lo → Bool), List.rec (motive := fun _ => (q_Lo → Bool) → Bool) (fun k => k []) (fun p _ ih k => cond (or (Nat.beq p.1 i) (or (Nat.beq p.1 (i + 1)) (and (Nat.beq (Nat.succ p.1) i) (Nat.beq (q_cat p.2) 2)))) (ih k) (ih (fun t => k (p :: t)))) lo k = true → k (lo.filter (fun q => !(q.1 == i) && (!(q.1 == i + 1) && !(q.1 + 1 == i && q_cat q.2 == 2)))) = true := by
    intro lo
    induction lo with
    | nil => intro k h; exact h
    | cons p lo ih =>
      intro k h
      rw [List.filter_cons]
      have e : (!(p.1 == i) && (!(p.1 == i + 1) && !(p.1 + 1 == i && q_cat p.2 == 2))) = !(or (Nat.beq p.1 i) (or (Nat.beq p.1 (i + 1)) (and (Nat.beq (Nat.succ p.1) i) (Nat.beq (q_cat p.2) 2)))) := by
        have e1 : (p.1 == i) = Nat.beq p.1 i := q_beq _ _
        have e2 : (p.1 + 1 == i) = Nat.beq (Nat.succ p.1) i := q_beq _ _
        have e3 : (q_cat p.2 == 2) = Nat.beq (q_cat p.2) 2 := q_beq _ _
        have e4 : (p.1 == i + 1) = Nat.beq p.1 (i + 1) := q_beq _ _
        rw [e1, e2, e3, e4]
        cases Nat.beq p.1 i <;> cases Nat.beq p.1 (i + 1) <;> cases Nat.beq (Nat.succ p.1) i <;> cases Nat.beq (q_cat p.2) 2 <;> rfl
      rw [e]
      dsimp only at h
      cases b1 : (or (Nat.beq p.1 i) (or (Nat.beq p.1 (i + 1)) (and (Nat.beq (Nat.succ p.1) i) (Nat.beq (q_cat p.2) 2)))) with
      | true => rw [b1] at h; exact ih _ h
      | false => rw [b1] at h; exact ih (fun t => k (p :: t)) h
  exact key lo (fun t => k ((i, x) :: t)) h
/-- the same value, told otherwise -/
theorem q_conv {E : q_E} {M : q_M} {Q : Option q_V → q_H → Prop} {pc : Nat} {lo : q_Lo} {st : List q_V} {ce sl : Nat} {h : q_H} {x y : q_V} (hx : ∀ ad w, q_vr E ad x w → q_vr E ad y w) (k : q_W E M Q pc lo (y :: st) ce sl h) : q_W E M Q pc lo (x :: st) ce sl h := by
  intro p e R s m args below meth c A ad0 Z H locs ls stv C T Rt
  obtain ⟨ad, tys, ws, lv, h1, h2, h3, h4, h5⟩ := T
  match stv, h4 with
  | v0 :: stv, ⟨e0, h4⟩ => exact k.go C ⟨ad, tys, ws, lv, h1, h2, h3, ⟨hx ad v0 e0, h4⟩, h5⟩ Rt
theorem q_conv2 {E : q_E} {M : q_M} {Q : Option q_V → q_H → Prop} {pc : Nat} {lo : q_Lo} {st : List q_V} {ce sl : Nat} {h : q_H} {x y x' y' : q_V} (hx : ∀ ad w, q_vr E ad x w → q_vr E ad x' w) (hy : ∀ ad w, q_vr E ad y w → q_vr E ad y' w) (k : q_W E M Q pc lo (x' :: y' :: st) ce sl h) : q_W E M Q pc lo (x :: y :: st) ce sl h := by
  intro p e R s m args below meth c A ad0 Z H locs ls stv C T Rt
  obtain ⟨ad, tys, ws, lv, h1, h2, h3, h4, h5⟩ := T
  match stv, h4 with
  | v0 :: v1 :: stv, ⟨e0, e1, h4⟩ => exact k.go C ⟨ad, tys, ws, lv, h1, h2, h3, ⟨hx ad v0 e0, hy ad v1 e1, h4⟩, h5⟩ Rt
end
section
def q_OK (E : q_E) (tg : Nat → Nat) (mt : Nat → q_M) (M : q_M) (pc pc' : Nat) (op : q_Op) : Prop := ∀ (Q : Option q_V → q_H → Prop) (B : q_B) (lo : q_Lo) (st : List q_V) (ce sl : Nat) (h : q_H) (ks : q_K) (kj : Nat → q_K) (kr : q_KR) (kc : Nat → q_B → List q_V → q_H → q_KR → Bool), q_inB E B →
  (∀ B lo st ce sl h, q_inB E B → ks B lo st ce sl h = true → q_W E M Q pc' lo st ce sl h) →
  (∀ b B lo st ce sl h, q_inB E B → kj b B lo st ce sl h = true → q_W E M Q (tg b) lo st ce sl h) →
  (∀ B r h, q_inB E B → kr B r h = true → Q r h) →
  (∀ j B as h kc', q_inB E B → kc j B as h kc' = true → q_P E (mt j) as h (fun r h' => ∃ B', q_inB E B' ∧ kc' B' r h' = true)) →
  op B lo st ce sl h ks kj kr kc = true → q_W E M Q pc lo st ce sl h
theorem e_cnd {b : Bool} {x : Bool} (h : cond b x false = true) : b = true ∧ x = true := by
  cases b
  · cases h
  · exact ⟨rfl, h⟩
theorem e_and {b c : Bool} (h : and b c = true) : b = true ∧ c = true := by
  cases b
  · cases h
  · exact ⟨rfl, h⟩
theorem e_le {a b : Nat} (h : Nat.ble a b = true) : a ≤ b := Nat.le_of_ble_eq_true h
theorem e_nle {a b : Nat} (h : Nat.ble a b = false) : ¬ a ≤ b := fun z => by rw [Nat.ble_eq_true_of_le z] at h; cases h
theorem e_eq {a b : Nat} (h : Nat.beq a b = true) : a = b := Nat.eq_of_beq_eq_true h
theorem e_neq {a b : Nat} (h : Nat.beq a b = false) : ¬ a = b := Nat.ne_of_beq_eq_false h
noncomputable def e_pi (B : q_B) (st : List q_V) (k : q_B → Nat → List q_V → Bool) : Bool := e_pop st (fun v st => e_int B v (fun B n => k B n st))
theorem e_pi_ok {E : q_E} {B : q_B} {st : List q_V} {k : q_B → Nat → List q_V → Bool} (hB : q_inB E B) (h : e_pi B st k = true) : ∃ v st' n B', st = v :: st' ∧ q_inB E B' ∧ k B' n st' = true ∧ ∀ ad w, q_vr E ad v w → q_vr E ad (.inl n) w := by
  replace h := e_pop_ok h
  obtain ⟨v, st', e1, h⟩ := h
  replace h := e_int_ok hB h
  obtain ⟨n, B', h1, h2, h3⟩ := h
  exact ⟨v, st', n, B', e1, h1, h2, h3⟩
/-- a ref or a static cell -/
noncomputable def e_ra (v : q_V) (kr kq : Nat → Bool) : Bool := Sum.rec (motive := fun _ => Bool) (fun _ => false) (fun v => Sum.rec (motive := fun _ => Bool) kr (fun v => Sum.rec (motive := fun _ => Bool) (fun _ => false) (fun v => Sum.rec (motive := fun _ => Bool) (fun _ => false) (fun v => Sum.rec (motive := fun _ => Bool) (fun _ => false) (fun v => Sum.rec (motive := fun _ => Bool) kq (fun _ => false) v) v) v) v) v) v
theorem e_ra_ok {v : q_V} {kr kq : Nat → Bool} (h : e_ra v kr kq = true) : (∃ r, v = .inr (.inl r) ∧ kr r = true) ∨ ∃ s, v = .inr (.inr (.inr (.inr (.inr (.inl s))))) ∧ kq s = true := by
  match v, h with
  | .inr (.inl r), h => exact Or.inl ⟨r, rfl, h⟩
  | .inr (.inr (.inr (.inr (.inr (.inl s))))), h => exact Or.inr ⟨s, rfl, h⟩
/-- a long or a script's int as a long -/
noncomputable def e_ll (v : q_V) (kl kt : Nat → Bool) : Bool := Sum.rec (motive := fun _ => Bool) (fun _ => false) (fun v => Sum.rec (motive := fun _ => Bool) (fun _ => false) (fun v => Sum.rec (motive := fun _ => Bool) kl (fun v => Sum.rec (motive := fun _ => Bool) (fun _ => false) (fun v => Sum.rec (motive := fun _ => Bool) kt (fun _ => false) v) v) v) v) v
theorem e_ll_ok {v : q_V} {kl kt : Nat → Bool} (h : e_ll v kl kt = true) : (∃ n, v = .inr (.inr (.inl n)) ∧ kl n = true) ∨ ∃ s, v = .inr (.inr (.inr (.inr (.inl s)))) ∧ kt s = true := by
  match v, h with
  | .inr (.inr (.inl r)), h => exact Or.inl ⟨r, rfl, h⟩
  | .inr (.inr (.inr (.inr (.inl s)))), h => exact Or.inr ⟨s, rfl, h⟩
noncomputable def e_clt (B : q_B) (x : q_V) (c : Nat) (kt kf : q_B → Bool) : Bool := e_is x (fun n => cond (Nat.ble (Nat.succ (q_bi n)) c) (kt B) (kf B)) (fun s => e_lt B s c kt kf)
theorem e_clt_ok {E : q_E} {B : q_B} {x : q_V} {c : Nat} {kt kf : q_B → Bool} (hB : q_inB E B) (h : e_clt B x c kt kf = true) : ∃ a, q_cd E x = some a ∧ ((q_bi a < c ∧ ∃ B', q_inB E B' ∧ kt B' = true) ∨ (¬ q_bi a < c ∧ ∃ B', q_inB E B' ∧ kf B' = true)) := by
  replace h := e_is_ok h
  rcases h with ⟨n, rfl, h⟩ | ⟨s, rfl, h⟩
  · refine ⟨n, rfl, ?_⟩
    cases hb : Nat.ble (Nat.succ (q_bi n)) c with
    | true => rw [hb] at h; exact Or.inl ⟨e_le hb, B, hB, h⟩
    | false => rw [hb] at h; exact Or.inr ⟨e_nle hb, B, hB, h⟩
  · exact ⟨_, rfl, e_lt_ok hB h⟩
noncomputable def e_ceq (B : q_B) (x : q_V) (c : Nat) (kt kf : q_B → Bool) : Bool := e_is x (fun n => cond (Nat.beq (q_bi n) c) (kt B) (kf B)) (fun s => e_lt B s c kf (fun B => e_lt B s (Nat.succ c) kt kf))
theorem e_ceq_ok {E : q_E} {B : q_B} {x : q_V} {c : Nat} {kt kf : q_B → Bool} (hB : q_inB E B) (h : e_ceq B x c kt kf = true) : ∃ a, q_cd E x = some a ∧ ((q_bi a = c ∧ ∃ B', q_inB E B' ∧ kt B' = true) ∨ (¬ q_bi a = c ∧ ∃ B', q_inB E B' ∧ kf B' = true)) := by
  replace h := e_is_ok h
  rcases h with ⟨n, rfl, h⟩ | ⟨s, rfl, h⟩
  · refine ⟨n, rfl, ?_⟩
    cases hb : Nat.beq (q_bi n) c with
    | true => rw [hb] at h; exact Or.inl ⟨e_eq hb, B, hB, h⟩
    | false => rw [hb] at h; exact Or.inr ⟨e_neq hb, B, hB, h⟩
  · refine ⟨_, rfl, ?_⟩
    replace h := e_lt_ok hB h
    rcases h with ⟨h1, h2⟩ | ⟨h1, B', h2, h3⟩
    · exact Or.inr ⟨by omega, h2⟩
    · rcases e_lt_ok h2 h3 with ⟨g1, g2⟩ | ⟨g1, g2⟩
      · exact Or.inl ⟨by omega, g2⟩
      · exact Or.inr ⟨by omega, g2⟩
section
variable {E : q_E} {tg : Nat → Nat} {mt : Nat → q_M} {M : q_M} {pc pc' : Nat}
noncomputable def o_push (v : q_V) : q_Op := fun B lo st ce sl h ks _ _ _ => ks B lo (v :: st) ce sl h
theorem o_push_ok {v : q_V} (row : ∀ {Q : Option q_V → q_H → Prop} {lo st ce sl h}, q_W E M Q pc' lo (v :: st) ce sl h → q_W E M Q pc lo st ce sl h) : q_OK E tg mt M pc pc' (o_push v) :=
  fun _ _ _ _ _ _ _ _ _ _ _ hB hs _ _ _ e => row (hs _ _ _ _ _ _ hB e)
noncomputable def o_nop : q_Op := fun B lo st ce sl h ks _ _ _ => ks B lo st ce sl h
noncomputable def o_iload (i : Nat) : q_Op := fun B lo st ce sl h ks _ _ _ => e_lg lo i (fun v => e_is v (fun n => ks B lo (.inl n :: st) ce sl h) (fun s => ks B lo (.inr (.inr (.inr (.inl s))) :: st) ce sl h))
theorem o_iload_ok {i : Nat} (row1 : ∀ {Q : Option q_V → q_H → Prop} {lo st ce sl h a}, q_lg lo i = some (.inl a) → q_W E M Q pc' lo (.inl a :: st) ce sl h → q_W E M Q pc lo st ce sl h) (row2 : ∀ {Q : Option q_V → q_H → Prop} {lo st ce sl h a}, q_lg lo i = some (.inr (.inr (.inr (.inl a)))) → q_W E M Q pc' lo (.inr (.inr (.inr (.inl a))) :: st) ce sl h → q_W E M Q pc lo st ce sl h) : q_OK E tg mt M pc pc' (o_iload i) := by
  intro Q B lo st ce sl h ks kj kr kc hB hs hj hr hc e
  replace e := e_lg_ok e
  obtain ⟨v, h1, e⟩ := e
  replace e := e_is_ok e
  rcases e with ⟨n, rfl, e⟩ | ⟨s, rfl, e⟩
  · exact row1 h1 (hs _ _ _ _ _ _ hB e)
  · exact row2 h1 (hs _ _ _ _ _ _ hB e)
noncomputable def o_aload (i : Nat) : q_Op := fun B lo st ce sl h ks _ _ _ => e_lg lo i (fun v => e_ra v (fun n => ks B lo (.inr (.inl n) :: st) ce sl h) (fun s => ks B lo (.inr (.inr (.inr (.inr (.inr (.inl s))))) :: st) ce sl h))
theorem o_aload_ok {i : Nat} (row1 : ∀ {Q : Option q_V → q_H → Prop} {lo st ce sl h a}, q_lg lo i = some (.inr (.inl a)) → q_W E M Q pc' lo (.inr (.inl a) :: st) ce sl h → q_W E M Q pc lo st ce sl h) (row2 : ∀ {Q : Option q_V → q_H → Prop} {lo st ce sl h a}, q_lg lo i = some (.inr (.inr (.inr (.inr (.inr (.inl a)))))) → q_W E M Q pc' lo (.inr (.inr (.inr (.inr (.inr (.inl a))))) :: st) ce sl h → q_W E M Q pc lo st ce sl h) : q_OK E tg mt M pc pc' (o_aload i) := by
  intro Q B lo st ce sl h ks kj kr kc hB hs hj hr hc e
  replace e := e_lg_ok e
  obtain ⟨v, h1, e⟩ := e
  replace e := e_ra_ok e
  rcases e with ⟨n, rfl, e⟩ | ⟨s, rfl, e⟩
  · exact row1 h1 (hs _ _ _ _ _ _ hB e)
  · exact row2 h1 (hs _ _ _ _ _ _ hB e)
noncomputable def o_lload (i : Nat) : q_Op := fun B lo st ce sl h ks _ _ _ => e_lg lo i (fun v => e_ll v (fun n => ks B lo (.inr (.inr (.inl n)) :: st) ce sl h) (fun s => ks B lo (.inr (.inr (.inr (.inr (.inl s)))) :: st) ce sl h))
theorem o_lload_ok {i : Nat} (row1 : ∀ {Q : Option q_V → q_H → Prop} {lo st ce sl h a}, q_lg lo i = some (.inr (.inr (.inl a))) → q_W E M Q pc' lo (.inr (.inr (.inl a)) :: st) ce sl h → q_W E M Q pc lo st ce sl h) (row2 : ∀ {Q : Option q_V → q_H → Prop} {lo st ce sl h a}, q_lg lo i = some (.inr (.inr (.inr (.inr (.inl a))))) → q_W E M Q pc' lo (.inr (.inr (.inr (.inr (.inl a)))) :: st) ce sl h → q_W E M Q pc lo st ce sl h) : q_OK E tg mt M pc pc' (o_lload i) := by
  intro Q B lo st ce sl h ks kj kr kc hB hs hj hr hc e
  replace e := e_lg_ok e
  obtain ⟨v, h1, e⟩ := e
  replace e := e_ll_ok e
  rcases e with ⟨n, rfl, e⟩ | ⟨s, rfl, e⟩
  · exact row1 h1 (hs _ _ _ _ _ _ hB e)
  · exact row2 h1 (hs _ _ _ _ _ _ hB e)
noncomputable def o_istore (i : Nat) : q_Op := fun B lo st ce sl h ks _ _ _ => e_pop st (fun v st => e_is v (fun n => e_ls1 lo i (.inl n) (fun lo => ks B lo st ce sl h)) (fun s => e_ls1 lo i (.inr (.inr (.inr (.inl s)))) (fun lo => ks B lo st ce sl h)))
theorem o_istore_ok {i : Nat} (row1 : ∀ {Q : Option q_V → q_H → Prop} {lo st ce sl h a}, q_W E M Q pc' (q_ls1 lo i (.inl a)) st ce sl h → q_W E M Q pc lo (.inl a :: st) ce sl h) (row2 : ∀ {Q : Option q_V → q_H → Prop} {lo st ce sl h a}, q_W E M Q pc' (q_ls1 lo i (.inr (.inr (.inr (.inl a))))) st ce sl h → q_W E M Q pc lo (.inr (.inr (.inr (.inl a))) :: st) ce sl h) : q_OK E tg mt M pc pc' (o_istore i) := by
  intro Q B lo st ce sl h ks kj kr kc hB hs hj hr hc e
  replace e := e_pop_ok e
  obtain ⟨v, st', rfl, e⟩ := e
  replace e := e_is_ok e
  rcases e with ⟨n, rfl, e⟩ | ⟨s, rfl, e⟩
  · exact row1 (hs _ _ _ _ _ _ hB (e_ls1_ok (k := fun lo => ks B lo st' ce sl h) e))
  · exact row2 (hs _ _ _ _ _ _ hB (e_ls1_ok (k := fun lo => ks B lo st' ce sl h) e))
noncomputable def o_astore (i : Nat) : q_Op := fun B lo st ce sl h ks _ _ _ => e_pop st (fun v st => e_isR v (fun n => e_ls1 lo i (.inr (.inl n)) (fun lo => ks B lo st ce sl h)))
theorem o_astore_ok {i : Nat} (row1 : ∀ {Q : Option q_V → q_H → Prop} {lo st ce sl h a}, q_W E M Q pc' (q_ls1 lo i (.inr (.inl a))) st ce sl h → q_W E M Q pc lo (.inr (.inl a) :: st) ce sl h) : q_OK E tg mt M pc pc' (o_astore i) := by
  intro Q B lo st ce sl h ks kj kr kc hB hs hj hr hc e
  replace e := e_pop_ok e
  obtain ⟨v, st', rfl, e⟩ := e
  replace e := e_isR_ok e
  obtain ⟨n, rfl, e⟩ := e
  exact row1 (hs _ _ _ _ _ _ hB (e_ls1_ok (k := fun lo => ks B lo st' ce sl h) e))
noncomputable def o_lstore (i : Nat) : q_Op := fun B lo st ce sl h ks _ _ _ => e_pop st (fun v st => e_isL v (fun n => e_ls2 lo i (.inr (.inr (.inl n))) (fun lo => ks B lo st ce sl h)))
theorem o_lstore_ok {i : Nat} (row1 : ∀ {Q : Option q_V → q_H → Prop} {lo st ce sl h a}, q_W E M Q pc' (q_ls2 lo i (.inr (.inr (.inl a)))) st ce sl h → q_W E M Q pc lo (.inr (.inr (.inl a)) :: st) ce sl h) : q_OK E tg mt M pc pc' (o_lstore i) := by
  intro Q B lo st ce sl h ks kj kr kc hB hs hj hr hc e
  replace e := e_pop_ok e
  obtain ⟨v, st', rfl, e⟩ := e
  replace e := e_isL_ok e
  obtain ⟨n, rfl, e⟩ := e
  exact row1 (hs _ _ _ _ _ _ hB (e_ls2_ok (k := fun lo => ks B lo st' ce sl h) e))
noncomputable def o_iinc (i b : Nat) : q_Op := fun B lo st ce sl h ks _ _ _ => e_lg lo i (fun v => e_is v (fun n => e_frc ((n + b) % 4294967296) (fun m => e_ls1 lo i (.inl m) (fun lo => ks B lo st ce sl h))) (fun _ => false))
theorem o_iinc_ok {i b : Nat} {n : Int} (hd : decode M.2.1 pc = .ok (.iinc i n, 3)) (hv : Int32.ofInt n = nI b) (hn : i < M.2.2.1) : q_OK E tg mt M pc (pc + 3) (o_iinc i b) := by
  intro Q B lo st ce sl h ks kj kr kc hB hs hj hr hc e
  replace e := e_lg_ok e
  obtain ⟨v, h1, e⟩ := e
  replace e := e_is_ok e
  rcases e with ⟨n, rfl, e⟩ | ⟨s, rfl, e⟩
  · rw [e_frc_eq] at e
    exact q_iinc hd h1 hv hn (hs _ _ _ _ _ _ hB (e_ls1_ok (k := fun lo => ks B lo st ce sl h) e))
  · cases e
/-- two ints to one -/
noncomputable def o_bin (f : Nat → Nat → Nat) : q_Op := fun B lo st ce sl h ks _ _ _ => e_pi B st (fun B b st => e_pi B st (fun B a st => e_frc (f a b) (fun m => ks B lo (.inl m :: st) ce sl h)))
theorem o_bin_ok {f : Nat → Nat → Nat} (row : ∀ {Q : Option q_V → q_H → Prop} {lo st ce sl h a b}, q_W E M Q pc' lo (.inl (f a b) :: st) ce sl h → q_W E M Q pc lo (.inl b :: .inl a :: st) ce sl h) : q_OK E tg mt M pc pc' (o_bin f) := by
  intro Q B lo st ce sl h ks kj kr kc hB hs hj hr hc e
  replace e := e_pi_ok hB e
  obtain ⟨v, st1, b, B1, rfl, hB1, e, hv⟩ := e
  replace e := e_pi_ok hB1 e
  obtain ⟨w, st2, a, B2, rfl, hB2, e, hw⟩ := e
  rw [e_frc_eq] at e
  exact q_conv2 hv hw (row (hs _ _ _ _ _ _ hB2 e))
noncomputable def o_binc (g : Nat → Nat → Bool) (f : Nat → Nat → Nat) : q_Op := fun B lo st ce sl h ks _ _ _ => e_pi B st (fun B b st => e_pi B st (fun B a st => cond (g a b) (e_frc (f a b) (fun m => ks B lo (.inl m :: st) ce sl h)) false))
theorem o_binc_ok {g : Nat → Nat → Bool} {f : Nat → Nat → Nat} (row : ∀ {Q : Option q_V → q_H → Prop} {lo st ce sl h a b}, g a b = true → q_W E M Q pc' lo (.inl (f a b) :: st) ce sl h → q_W E M Q pc lo (.inl b :: .inl a :: st) ce sl h) : q_OK E tg mt M pc pc' (o_binc g f) := by
  intro Q B lo st ce sl h ks kj kr kc hB hs hj hr hc e
  replace e := e_pi_ok hB e
  obtain ⟨v, st1, b, B1, rfl, hB1, e, hv⟩ := e
  replace e := e_pi_ok hB1 e
  obtain ⟨w, st2, a, B2, rfl, hB2, e, hw⟩ := e
  obtain ⟨e0, e⟩ := e_cnd e
  rw [e_frc_eq] at e
  exact q_conv2 hv hw (row e0 (hs _ _ _ _ _ _ hB2 e))
noncomputable def o_lbin (f : Nat → Nat → Nat) : q_Op := fun B lo st ce sl h ks _ _ _ => e_pop st (fun v st => e_isL v (fun b => e_pop st (fun w st => e_isL w (fun a => e_frc (f a b) (fun m => ks B lo (.inr (.inr (.inl m)) :: st) ce sl h)))))
theorem o_lbin_ok {f : Nat → Nat → Nat} (row : ∀ {Q : Option q_V → q_H → Prop} {lo st ce sl h a b}, q_W E M Q pc' lo (.inr (.inr (.inl (f a b))) :: st) ce sl h → q_W E M Q pc lo (.inr (.inr (.inl b)) :: .inr (.inr (.inl a)) :: st) ce sl h) : q_OK E tg mt M pc pc' (o_lbin f) := by
  intro Q B lo st ce sl h ks kj kr kc hB hs hj hr hc e
  replace e := e_pop_ok e
  obtain ⟨v, st1, rfl, e⟩ := e
  replace e := e_isL_ok e
  obtain ⟨b, rfl, e⟩ := e
  replace e := e_pop_ok e
  obtain ⟨w, st2, rfl, e⟩ := e
  replace e := e_isL_ok e
  obtain ⟨a, rfl, e⟩ := e
  rw [e_frc_eq] at e
  exact row (hs _ _ _ _ _ _ hB e)
noncomputable def o_lushr : q_Op := fun B lo st ce sl h ks _ _ _ => e_pi B st (fun B b st => e_pop st (fun w st => e_isL w (fun a => cond (Nat.ble (Nat.succ b) 64) (e_frc ((a % 18446744073709551616) / 2 ^ b) (fun m => ks B lo (.inr (.inr (.inl m)) :: st) ce sl h)) false)))
theorem o_lushr_ok (hd : decode M.2.1 pc = .ok (.lushr, 1)) : q_OK E tg mt M pc (pc + 1) o_lushr := by
  intro Q B lo st ce sl h ks kj kr kc hB hs hj hr hc e
  replace e := e_pi_ok hB e
  obtain ⟨v, st1, b, B1, rfl, hB1, e, hv⟩ := e
  replace e := e_pop_ok e
  obtain ⟨w, st2, rfl, e⟩ := e
  replace e := e_isL_ok e
  obtain ⟨a, rfl, e⟩ := e
  obtain ⟨e0, e⟩ := e_cnd e
  rw [e_frc_eq] at e
  exact q_conv hv (q_lushr hd (e_le e0) (hs _ _ _ _ _ _ hB1 e))
noncomputable def o_i2l : q_Op := fun B lo st ce sl h ks _ _ _ => e_pop st (fun v st => e_is v (fun a => e_frc ((q_bi a + 18446744071562067968) % 18446744073709551616) (fun m => ks B lo (.inr (.inr (.inl m)) :: st) ce sl h)) (fun s => ks B lo (.inr (.inr (.inr (.inr (.inl s)))) :: st) ce sl h))
theorem o_i2l_ok (hd : decode M.2.1 pc = .ok (.i2l, 1)) : q_OK E tg mt M pc (pc + 1) o_i2l := by
  intro Q B lo st ce sl h ks kj kr kc hB hs hj hr hc e
  replace e := e_pop_ok e
  obtain ⟨v, st1, rfl, e⟩ := e
  replace e := e_is_ok e
  rcases e with ⟨n, rfl, e⟩ | ⟨s, rfl, e⟩
  · rw [e_frc_eq] at e
    exact q_i2l_ hd (hs _ _ _ _ _ _ hB e)
  · exact q_i2lS hd (hs _ _ _ _ _ _ hB e)
noncomputable def o_l2i : q_Op := fun B lo st ce sl h ks _ _ _ => e_pop st (fun v st => e_isL v (fun a => e_frc (a % 4294967296) (fun m => ks B lo (.inl m :: st) ce sl h)))
theorem o_l2i_ok (hd : decode M.2.1 pc = .ok (.l2i, 1)) : q_OK E tg mt M pc (pc + 1) o_l2i := by
  intro Q B lo st ce sl h ks kj kr kc hB hs hj hr hc e
  replace e := e_pop_ok e
  obtain ⟨v, st1, rfl, e⟩ := e
  replace e := e_isL_ok e
  obtain ⟨n, rfl, e⟩ := e
  rw [e_frc_eq] at e
  exact q_l2i_ hd (hs _ _ _ _ _ _ hB e)
noncomputable def o_i2c : q_Op := fun B lo st ce sl h ks _ _ _ => e_pi B st (fun B a st => e_frc (a % 65536) (fun m => ks B lo (.inl m :: st) ce sl h))
theorem o_i2c_ok (hd : decode M.2.1 pc = .ok (.i2c, 1)) : q_OK E tg mt M pc (pc + 1) o_i2c := by
  intro Q B lo st ce sl h ks kj kr kc hB hs hj hr hc e
  replace e := e_pi_ok hB e
  obtain ⟨v, st1, b, B1, rfl, hB1, e, hv⟩ := e
  rw [e_frc_eq] at e
  exact q_conv hv (q_i2c_ hd (hs _ _ _ _ _ _ hB1 e))
/-- longs compared: two of the program's, or a script's with one of the program's -/
noncomputable def o_lcmp : q_Op := fun B lo st ce sl h ks _ _ _ => e_pop st (fun v st => e_isL v (fun b => e_pop st (fun w st => e_ll w
  (fun a => cond (Nat.ble (Nat.succ (q_bl b)) (q_bl a)) (ks B lo (.inl 1 :: st) ce sl h) (cond (Nat.beq (q_bl a) (q_bl b)) (ks B lo (.inl 0 :: st) ce sl h) (ks B lo (.inl 4294967295 :: st) ce sl h)))
  (fun s => cond (Nat.ble 9223372034707292160 (q_bl b)) (e_frc (q_bl b - 9223372034707292160) (fun c => e_lt B s c (fun B => ks B lo (.inl 4294967295 :: st) ce sl h) (fun B => e_lt B s (Nat.succ c) (fun B => ks B lo (.inl 0 :: st) ce sl h) (fun B => ks B lo (.inl 1 :: st) ce sl h)))) false))))
theorem q_bl_sx (n : Nat) : q_bl (q_sx n) = q_bi n + 9223372034707292160 := by
  unfold q_bl q_sx q_bi
  omega
theorem o_lcmp_ok (hd : decode M.2.1 pc = .ok (.lcmp, 1)) : q_OK E tg mt M pc (pc + 1) o_lcmp := by
  intro Q B lo st ce sl h ks kj kr kc hB hs hj hr hc e
  replace e := e_pop_ok e
  obtain ⟨v, st1, rfl, e⟩ := e
  replace e := e_isL_ok e
  obtain ⟨b, rfl, e⟩ := e
  replace e := e_pop_ok e
  obtain ⟨w, st2, rfl, e⟩ := e
  replace e := e_ll_ok e
  rcases e with ⟨a, rfl, e⟩ | ⟨s, rfl, e⟩
  · refine q_lcmp hd (show q_cdL E (.inr (.inr (.inl a))) = some a from rfl) (show q_cdL E (.inr (.inr (.inl b))) = some b from rfl) (hs _ _ _ _ _ _ hB ?_)
    cases b1 : Nat.ble (Nat.succ (q_bl b)) (q_bl a) with
    | true =>
      rw [b1] at e
      rw [if_pos (show q_bl b < q_bl a from e_le b1)]
      exact e
    | false =>
      rw [b1] at e
      rw [if_neg (show ¬ q_bl b < q_bl a from e_nle b1)]
      cases b2 : Nat.beq (q_bl a) (q_bl b) with
      | true =>
        rw [b2] at e
        rw [if_pos (e_eq b2)]
        exact e
      | false =>
        rw [b2] at e
        rw [if_neg (e_neq b2)]
        exact e
  · obtain ⟨e0, e⟩ := e_cnd e
    have e0 := e_le e0
    rw [e_frc_eq] at e
    have hx := q_bl_sx (E.2.2.2.1 s)
    have key : ∀ B' n, q_inB E B' → (if q_bl b < q_bl (q_sx (E.2.2.2.1 s)) then 1 else if q_bl (q_sx (E.2.2.2.1 s)) = q_bl b then 0 else 4294967295) = n → ks B' lo (.inl n :: st2) ce sl h = true → q_W E M Q pc lo (.inr (.inr (.inl b)) :: .inr (.inr (.inr (.inr (.inl s)))) :: st2) ce sl h := by
      intro B' n hB' hn e
      refine q_lcmp hd (show q_cdL E (.inr (.inr (.inr (.inr (.inl s))))) = some (q_sx (E.2.2.2.1 s)) from rfl) (show q_cdL E (.inr (.inr (.inl b))) = some b from rfl) (hs _ _ _ _ _ _ hB' ?_)
      rw [hn]
      exact e
    replace e := e_lt_ok hB e
    rcases e with ⟨g1, B', g2, g3⟩ | ⟨g1, B', g2, g3⟩
    · exact key B' _ g2 (by rw [if_neg (by omega), if_neg (by omega)]) g3
    · rcases e_lt_ok g2 g3 with ⟨k1, B2, k2, k3⟩ | ⟨k1, B2, k2, k3⟩
      · exact key B2 _ k2 (by rw [if_neg (by omega), if_pos (by omega)]) k3
      · exact key B2 _ k2 (by rw [if_pos (by omega)]) k3
noncomputable def o_dup : q_Op := fun B lo st ce sl h ks _ _ _ => e_pop st (fun v st => cond (Nat.beq (q_cat v) 1) (ks B lo (v :: v :: st) ce sl h) false)
theorem o_dup_ok (hd : decode M.2.1 pc = .ok (.dup, 1)) : q_OK E tg mt M pc (pc + 1) o_dup := by
  intro Q B lo st ce sl h ks kj kr kc hB hs hj hr hc e
  replace e := e_pop_ok e
  obtain ⟨v, st1, rfl, e⟩ := e
  obtain ⟨e0, e⟩ := e_cnd e
  exact q_dup hd (e_eq e0) (hs _ _ _ _ _ _ hB e)
noncomputable def o_dup2 : q_Op := fun B lo st ce sl h ks _ _ _ => e_pop st (fun v st => e_pop st (fun w st => cond (and (Nat.beq (q_cat v) 1) (Nat.beq (q_cat w) 1)) (ks B lo (v :: w :: v :: w :: st) ce sl h) false))
theorem o_dup2_ok (hd : decode M.2.1 pc = .ok (.dup2, 1)) : q_OK E tg mt M pc (pc + 1) o_dup2 := by
  intro Q B lo st ce sl h ks kj kr kc hB hs hj hr hc e
  replace e := e_pop_ok e
  obtain ⟨v, st1, rfl, e⟩ := e
  replace e := e_pop_ok e
  obtain ⟨w, st2, rfl, e⟩ := e
  obtain ⟨e0, e⟩ := e_cnd e
  obtain ⟨e1, e2⟩ := e_and e0
  exact q_dup2 hd (e_eq e1) (e_eq e2) (hs _ _ _ _ _ _ hB e)
noncomputable def o_pop : q_Op := fun B lo st ce sl h ks _ _ _ => e_pop st (fun v st => cond (Nat.beq (q_cat v) 1) (ks B lo st ce sl h) false)
theorem o_pop_ok (hd : decode M.2.1 pc = .ok (.pop, 1)) : q_OK E tg mt M pc (pc + 1) o_pop := by
  intro Q B lo st ce sl h ks kj kr kc hB hs hj hr hc e
  replace e := e_pop_ok e
  obtain ⟨v, st1, rfl, e⟩ := e
  obtain ⟨e0, e⟩ := e_cnd e
  exact q_pop hd (e_eq e0) (hs _ _ _ _ _ _ hB e)
noncomputable def o_goto (b : Nat) : q_Op := fun B lo st ce sl h _ kj _ _ => kj b B lo st ce sl h
theorem o_goto_ok {b : Nat} {off : Int} (hd : decode M.2.1 pc = .ok (.goto off, 3)) (ht : (pc : Int) + off = (tg b : Int)) : q_OK E tg mt M pc pc' (o_goto b) :=
  fun _ _ _ _ _ _ _ _ _ _ _ hB _ hj _ _ e => q_goto hd ht (hj _ _ _ _ _ _ _ hB e)
/-- to the next block, without an instruction -/
noncomputable def o_fall (b : Nat) : q_Op := fun B lo st ce sl h _ kj _ _ => kj b B lo st ce sl h
theorem o_fall_ok {b : Nat} (ht : pc = tg b) : q_OK E tg mt M pc pc' (o_fall b) := by
  intro Q B lo st ce sl h ks kj kr kc hB hs hj hr hc e
  rw [ht]
  exact hj _ _ _ _ _ _ _ hB e
end
end
section
section
variable {E : q_E} {tg : Nat → Nat} {mt : Nat → q_M} {M : q_M} {pc pc' : Nat}

noncomputable def o_if_eq (b : Nat) : q_Op := fun B lo st ce sl h ks kj _ _ => e_pop st (fun x st => e_ceq B x 2147483648 (fun B => kj b B lo st ce sl h) (fun B => ks B lo st ce sl h))
theorem o_if_eq_ok {b : Nat} {off : Int} (hd : decode M.2.1 pc = .ok (.ifCond .eq off, 3)) (ht : (pc : Int) + off = (tg b : Int)) : q_OK E tg mt M pc (pc + 3) (o_if_eq b) := by
  intro Q B lo st ce sl h ks kj kr kc hB hs hj hr hc e
  replace e := e_pop_ok e
  obtain ⟨x, st1, rfl, e⟩ := e
  obtain ⟨a, hx, e⟩ := e_ceq_ok hB e
  rcases e with ⟨g1, B', g2, g3⟩ | ⟨g1, B', g2, g3⟩
  · exact q_if_eq hd ht hx (fun _ => hj _ _ _ _ _ _ _ g2 g3) (fun z => absurd (by omega) z)
  · exact q_if_eq hd ht hx (fun z => absurd z (by omega)) (fun _ => hs _ _ _ _ _ _ g2 g3)

noncomputable def o_icmp_eq (b : Nat) : q_Op := fun B lo st ce sl h ks kj _ _ => e_pi B st (fun B y st => e_pop st (fun x st => e_frc (q_bi y) (fun c => e_ceq B x c (fun B => kj b B lo st ce sl h) (fun B => ks B lo st ce sl h))))
theorem o_icmp_eq_ok {b : Nat} {off : Int} (hd : decode M.2.1 pc = .ok (.if_icmp .eq off, 3)) (ht : (pc : Int) + off = (tg b : Int)) : q_OK E tg mt M pc (pc + 3) (o_icmp_eq b) := by
  intro Q B lo st ce sl h ks kj kr kc hB hs hj hr hc e
  replace e := e_pi_ok hB e
  obtain ⟨v, st1, y, B1, rfl, hB1, e, hv⟩ := e
  replace e := e_pop_ok e
  obtain ⟨x, st2, rfl, e⟩ := e
  rw [e_frc_eq] at e
  obtain ⟨a, hx, e⟩ := e_ceq_ok hB1 e
  refine q_conv hv ?_
  rcases e with ⟨g1, B', g2, g3⟩ | ⟨g1, B', g2, g3⟩
  · exact q_icmp_eq hd ht hx (show q_cd E (.inl y) = some y from rfl) (fun _ => hj _ _ _ _ _ _ _ g2 g3) (fun z => absurd (by omega) z)
  · exact q_icmp_eq hd ht hx (show q_cd E (.inl y) = some y from rfl) (fun z => absurd z (by omega)) (fun _ => hs _ _ _ _ _ _ g2 g3)

noncomputable def o_if_ne (b : Nat) : q_Op := fun B lo st ce sl h ks kj _ _ => e_pop st (fun x st => e_ceq B x 2147483648 (fun B => ks B lo st ce sl h) (fun B => kj b B lo st ce sl h))
theorem o_if_ne_ok {b : Nat} {off : Int} (hd : decode M.2.1 pc = .ok (.ifCond .ne off, 3)) (ht : (pc : Int) + off = (tg b : Int)) : q_OK E tg mt M pc (pc + 3) (o_if_ne b) := by
  intro Q B lo st ce sl h ks kj kr kc hB hs hj hr hc e
  replace e := e_pop_ok e
  obtain ⟨x, st1, rfl, e⟩ := e
  obtain ⟨a, hx, e⟩ := e_ceq_ok hB e
  rcases e with ⟨g1, B', g2, g3⟩ | ⟨g1, B', g2, g3⟩
  · exact q_if_ne hd ht hx (fun z => absurd z (by omega)) (fun _ => hs _ _ _ _ _ _ g2 g3)
  · exact q_if_ne hd ht hx (fun _ => hj _ _ _ _ _ _ _ g2 g3) (fun z => absurd (by omega) z)

noncomputable def o_icmp_ne (b : Nat) : q_Op := fun B lo st ce sl h ks kj _ _ => e_pi B st (fun B y st => e_pop st (fun x st => e_frc (q_bi y) (fun c => e_ceq B x c (fun B => ks B lo st ce sl h) (fun B => kj b B lo st ce sl h))))
theorem o_icmp_ne_ok {b : Nat} {off : Int} (hd : decode M.2.1 pc = .ok (.if_icmp .ne off, 3)) (ht : (pc : Int) + off = (tg b : Int)) : q_OK E tg mt M pc (pc + 3) (o_icmp_ne b) := by
  intro Q B lo st ce sl h ks kj kr kc hB hs hj hr hc e
  replace e := e_pi_ok hB e
  obtain ⟨v, st1, y, B1, rfl, hB1, e, hv⟩ := e
  replace e := e_pop_ok e
  obtain ⟨x, st2, rfl, e⟩ := e
  rw [e_frc_eq] at e
  obtain ⟨a, hx, e⟩ := e_ceq_ok hB1 e
  refine q_conv hv ?_
  rcases e with ⟨g1, B', g2, g3⟩ | ⟨g1, B', g2, g3⟩
  · exact q_icmp_ne hd ht hx (show q_cd E (.inl y) = some y from rfl) (fun z => absurd z (by omega)) (fun _ => hs _ _ _ _ _ _ g2 g3)
  · exact q_icmp_ne hd ht hx (show q_cd E (.inl y) = some y from rfl) (fun _ => hj _ _ _ _ _ _ _ g2 g3) (fun z => absurd (by omega) z)

noncomputable def o_if_lt (b : Nat) : q_Op := fun B lo st ce sl h ks kj _ _ => e_pop st (fun x st => e_clt B x 2147483648 (fun B => kj b B lo st ce sl h) (fun B => ks B lo st ce sl h))
theorem o_if_lt_ok {b : Nat} {off : Int} (hd : decode M.2.1 pc = .ok (.ifCond .lt off, 3)) (ht : (pc : Int) + off = (tg b : Int)) : q_OK E tg mt M pc (pc + 3) (o_if_lt b) := by
  intro Q B lo st ce sl h ks kj kr kc hB hs hj hr hc e
  replace e := e_pop_ok e
  obtain ⟨x, st1, rfl, e⟩ := e
  obtain ⟨a, hx, e⟩ := e_clt_ok hB e
  rcases e with ⟨g1, B', g2, g3⟩ | ⟨g1, B', g2, g3⟩
  · exact q_if_lt hd ht hx (fun _ => hj _ _ _ _ _ _ _ g2 g3) (fun z => absurd (by omega) z)
  · exact q_if_lt hd ht hx (fun z => absurd z (by omega)) (fun _ => hs _ _ _ _ _ _ g2 g3)

noncomputable def o_icmp_lt (b : Nat) : q_Op := fun B lo st ce sl h ks kj _ _ => e_pi B st (fun B y st => e_pop st (fun x st => e_frc (q_bi y) (fun c => e_clt B x c (fun B => kj b B lo st ce sl h) (fun B => ks B lo st ce sl h))))
theorem o_icmp_lt_ok {b : Nat} {off : Int} (hd : decode M.2.1 pc = .ok (.if_icmp .lt off, 3)) (ht : (pc : Int) + off = (tg b : Int)) : q_OK E tg mt M pc (pc + 3) (o_icmp_lt b) := by
  intro Q B lo st ce sl h ks kj kr kc hB hs hj hr hc e
  replace e := e_pi_ok hB e
  obtain ⟨v, st1, y, B1, rfl, hB1, e, hv⟩ := e
  replace e := e_pop_ok e
  obtain ⟨x, st2, rfl, e⟩ := e
  rw [e_frc_eq] at e
  obtain ⟨a, hx, e⟩ := e_clt_ok hB1 e
  refine q_conv hv ?_
  rcases e with ⟨g1, B', g2, g3⟩ | ⟨g1, B', g2, g3⟩
  · exact q_icmp_lt hd ht hx (show q_cd E (.inl y) = some y from rfl) (fun _ => hj _ _ _ _ _ _ _ g2 g3) (fun z => absurd (by omega) z)
  · exact q_icmp_lt hd ht hx (show q_cd E (.inl y) = some y from rfl) (fun z => absurd z (by omega)) (fun _ => hs _ _ _ _ _ _ g2 g3)

noncomputable def o_if_ge (b : Nat) : q_Op := fun B lo st ce sl h ks kj _ _ => e_pop st (fun x st => e_clt B x 2147483648 (fun B => ks B lo st ce sl h) (fun B => kj b B lo st ce sl h))
theorem o_if_ge_ok {b : Nat} {off : Int} (hd : decode M.2.1 pc = .ok (.ifCond .ge off, 3)) (ht : (pc : Int) + off = (tg b : Int)) : q_OK E tg mt M pc (pc + 3) (o_if_ge b) := by
  intro Q B lo st ce sl h ks kj kr kc hB hs hj hr hc e
  replace e := e_pop_ok e
  obtain ⟨x, st1, rfl, e⟩ := e
  obtain ⟨a, hx, e⟩ := e_clt_ok hB e
  rcases e with ⟨g1, B', g2, g3⟩ | ⟨g1, B', g2, g3⟩
  · exact q_if_ge hd ht hx (fun z => absurd z (by omega)) (fun _ => hs _ _ _ _ _ _ g2 g3)
  · exact q_if_ge hd ht hx (fun _ => hj _ _ _ _ _ _ _ g2 g3) (fun z => absurd (by omega) z)

noncomputable def o_icmp_ge (b : Nat) : q_Op := fun B lo st ce sl h ks kj _ _ => e_pi B st (fun B y st => e_pop st (fun x st => e_frc (q_bi y) (fun c => e_clt B x c (fun B => ks B lo st ce sl h) (fun B => kj b B lo st ce sl h))))
theorem o_icmp_ge_ok {b : Nat} {off : Int} (hd : decode M.2.1 pc = .ok (.if_icmp .ge off, 3)) (ht : (pc : Int) + off = (tg b : Int)) : q_OK E tg mt M pc (pc + 3) (o_icmp_ge b) := by
  intro Q B lo st ce sl h ks kj kr kc hB hs hj hr hc e
  replace e := e_pi_ok hB e
  obtain ⟨v, st1, y, B1, rfl, hB1, e, hv⟩ := e
  replace e := e_pop_ok e
  obtain ⟨x, st2, rfl, e⟩ := e
  rw [e_frc_eq] at e
  obtain ⟨a, hx, e⟩ := e_clt_ok hB1 e
  refine q_conv hv ?_
  rcases e with ⟨g1, B', g2, g3⟩ | ⟨g1, B', g2, g3⟩
  · exact q_icmp_ge hd ht hx (show q_cd E (.inl y) = some y from rfl) (fun z => absurd z (by omega)) (fun _ => hs _ _ _ _ _ _ g2 g3)
  · exact q_icmp_ge hd ht hx (show q_cd E (.inl y) = some y from rfl) (fun _ => hj _ _ _ _ _ _ _ g2 g3) (fun z => absurd (by omega) z)

noncomputable def o_if_gt (b : Nat) : q_Op := fun B lo st ce sl h ks kj _ _ => e_pop st (fun x st => e_clt B x 2147483649 (fun B => ks B lo st ce sl h) (fun B => kj b B lo st ce sl h))
theorem o_if_gt_ok {b : Nat} {off : Int} (hd : decode M.2.1 pc = .ok (.ifCond .gt off, 3)) (ht : (pc : Int) + off = (tg b : Int)) : q_OK E tg mt M pc (pc + 3) (o_if_gt b) := by
  intro Q B lo st ce sl h ks kj kr kc hB hs hj hr hc e
  replace e := e_pop_ok e
  obtain ⟨x, st1, rfl, e⟩ := e
  obtain ⟨a, hx, e⟩ := e_clt_ok hB e
  rcases e with ⟨g1, B', g2, g3⟩ | ⟨g1, B', g2, g3⟩
  · exact q_if_gt hd ht hx (fun z => absurd z (by omega)) (fun _ => hs _ _ _ _ _ _ g2 g3)
  · exact q_if_gt hd ht hx (fun _ => hj _ _ _ _ _ _ _ g2 g3) (fun z => absurd (by omega) z)

noncomputable def o_icmp_gt (b : Nat) : q_Op := fun B lo st ce sl h ks kj _ _ => e_pi B st (fun B y st => e_pop st (fun x st => e_frc (Nat.succ (q_bi y)) (fun c => e_clt B x c (fun B => ks B lo st ce sl h) (fun B => kj b B lo st ce sl h))))
theorem o_icmp_gt_ok {b : Nat} {off : Int} (hd : decode M.2.1 pc = .ok (.if_icmp .gt off, 3)) (ht : (pc : Int) + off = (tg b : Int)) : q_OK E tg mt M pc (pc + 3) (o_icmp_gt b) := by
  intro Q B lo st ce sl h ks kj kr kc hB hs hj hr hc e
  replace e := e_pi_ok hB e
  obtain ⟨v, st1, y, B1, rfl, hB1, e, hv⟩ := e
  replace e := e_pop_ok e
  obtain ⟨x, st2, rfl, e⟩ := e
  rw [e_frc_eq] at e
  obtain ⟨a, hx, e⟩ := e_clt_ok hB1 e
  refine q_conv hv ?_
  rcases e with ⟨g1, B', g2, g3⟩ | ⟨g1, B', g2, g3⟩
  · exact q_icmp_gt hd ht hx (show q_cd E (.inl y) = some y from rfl) (fun z => absurd z (by omega)) (fun _ => hs _ _ _ _ _ _ g2 g3)
  · exact q_icmp_gt hd ht hx (show q_cd E (.inl y) = some y from rfl) (fun _ => hj _ _ _ _ _ _ _ g2 g3) (fun z => absurd (by omega) z)

noncomputable def o_if_le (b : Nat) : q_Op := fun B lo st ce sl h ks kj _ _ => e_pop st (fun x st => e_clt B x 2147483649 (fun B => kj b B lo st ce sl h) (fun B => ks B lo st ce sl h))
theorem o_if_le_ok {b : Nat} {off : Int} (hd : decode M.2.1 pc = .ok (.ifCond .le off, 3)) (ht : (pc : Int) + off = (tg b : Int)) : q_OK E tg mt M pc (pc + 3) (o_if_le b) := by
  intro Q B lo st ce sl h ks kj kr kc hB hs hj hr hc e
  replace e := e_pop_ok e
  obtain ⟨x, st1, rfl, e⟩ := e
  obtain ⟨a, hx, e⟩ := e_clt_ok hB e
  rcases e with ⟨g1, B', g2, g3⟩ | ⟨g1, B', g2, g3⟩
  · exact q_if_le hd ht hx (fun _ => hj _ _ _ _ _ _ _ g2 g3) (fun z => absurd (by omega) z)
  · exact q_if_le hd ht hx (fun z => absurd z (by omega)) (fun _ => hs _ _ _ _ _ _ g2 g3)

noncomputable def o_icmp_le (b : Nat) : q_Op := fun B lo st ce sl h ks kj _ _ => e_pi B st (fun B y st => e_pop st (fun x st => e_frc (Nat.succ (q_bi y)) (fun c => e_clt B x c (fun B => kj b B lo st ce sl h) (fun B => ks B lo st ce sl h))))
theorem o_icmp_le_ok {b : Nat} {off : Int} (hd : decode M.2.1 pc = .ok (.if_icmp .le off, 3)) (ht : (pc : Int) + off = (tg b : Int)) : q_OK E tg mt M pc (pc + 3) (o_icmp_le b) := by
  intro Q B lo st ce sl h ks kj kr kc hB hs hj hr hc e
  replace e := e_pi_ok hB e
  obtain ⟨v, st1, y, B1, rfl, hB1, e, hv⟩ := e
  replace e := e_pop_ok e
  obtain ⟨x, st2, rfl, e⟩ := e
  rw [e_frc_eq] at e
  obtain ⟨a, hx, e⟩ := e_clt_ok hB1 e
  refine q_conv hv ?_
  rcases e with ⟨g1, B', g2, g3⟩ | ⟨g1, B', g2, g3⟩
  · exact q_icmp_le hd ht hx (show q_cd E (.inl y) = some y from rfl) (fun _ => hj _ _ _ _ _ _ _ g2 g3) (fun z => absurd (by omega) z)
  · exact q_icmp_le hd ht hx (show q_cd E (.inl y) = some y from rfl) (fun z => absurd z (by omega)) (fun _ => hs _ _ _ _ _ _ g2 g3)

/-- lo0: the table's first number, moved up by half; bs: the blocks; d: the block of the rest -/
noncomputable def o_tsw (lo0 n d : Nat) (bs : List Nat) : q_Op := fun B lo st ce sl h _ kj _ _ => e_pop st (fun x st => e_clt B x lo0 (fun B => kj d B lo st ce sl h) (fun B => e_clt B x (lo0 + n) (fun B => e_int B x (fun B a => e_nth bs (q_bi a - lo0) (fun b => kj b B lo st ce sl h))) (fun B => kj d B lo st ce sl h)))
theorem o_tsw_ok {lo0 n d len : Nat} {bs : List Nat} {dflt l0 h0 : Int} {offs : Array Int} (hd : decode M.2.1 pc = .ok (.tableswitch dflt l0 h0 offs, len)) (hl : l0 = (lo0 : Int) - 2147483648) (hh : h0 = (lo0 : Int) + n - 1 - 2147483648) (ht : (pc : Int) + dflt = (tg d : Int)) (hb : ∀ (i b : Nat), bs[i]? = some b → ∃ off : Int, offs[i]? = some off ∧ (pc : Int) + off = (tg b : Int)) : q_OK E tg mt M pc pc' (o_tsw lo0 n d bs) := by
  intro Q B lo st ce sl h ks kj kr kc hB hs hj hr hc e
  replace e := e_pop_ok e
  obtain ⟨x, st1, rfl, e⟩ := e
  obtain ⟨a, hx, e⟩ := e_clt_ok hB e
  rcases e with ⟨g1, B', g2, g3⟩ | ⟨g1, B', g2, g3⟩
  · exact q_tswOut hd hx (Or.inl (by omega)) ht (hj _ _ _ _ _ _ _ g2 g3)
  · obtain ⟨a', hx', e⟩ := e_clt_ok g2 g3
    rw [hx] at hx'
    cases hx'
    rcases e with ⟨k1, B2, k2, k3⟩ | ⟨k1, B2, k2, k3⟩
    · obtain ⟨c, B3, k4, k5, k6⟩ := e_int_ok k2 k3
      replace k5 := e_nth_ok k5
      obtain ⟨b, k7, k8⟩ := k5
      obtain ⟨off, k9, k10⟩ := hb _ _ k7
      have hc : q_bi c = q_bi a := by
        have w1 : q_vr E [] x (.int (nI a)) := by
          match x, hx with
          | .inl n, hx => cases hx; rfl
          | .inr (.inr (.inr (.inl k))), hx => cases hx; rfl
        have w2 : Value.int (nI a) = .int (nI c) := k6 [] _ w1
        have w3 : nI a = nI c := by injection w2
        exact (q_eq.mp w3).symm
      rw [hc] at k9
      exact q_tswIn (i := q_bi a - lo0) hd hx (by omega) (by omega) k9 k10 (hj _ _ _ _ _ _ _ k4 k8)
    · exact q_tswOut hd hx (Or.inr (by omega)) ht (hj _ _ _ _ _ _ _ k2 k3)

noncomputable def o_getI (t k : Nat) : q_Op := fun B lo st ce sl h ks _ _ _ => e_pop st (fun v st => e_isR v (fun r => e_cel h r (fun t' _ d => cond (Nat.beq t' t) (e_frc (q_rd d k) (fun m => ks B lo (.inl m :: st) ce sl h)) false)))
theorem o_getI_ok {ci k idx : Nat} (hd : decode M.2.1 pc = .ok (.getfield idx, 3)) (hf : q_fl M idx ci k) (hi : q_isr (q_ty ci k) = false) : q_OK E tg mt M pc (pc + 3) (o_getI (ci + 5) k) := by
  intro Q B lo st ce sl h ks kj kr kc hB hs hj hr hc e
  replace e := e_pop_ok e
  obtain ⟨v, st1, rfl, e⟩ := e
  replace e := e_isR_ok e
  obtain ⟨r, rfl, e⟩ := e
  replace e := e_cel_ok e
  obtain ⟨t, n, d, hc', e⟩ := e
  obtain ⟨e0, e⟩ := e_cnd e
  rw [e_frc_eq] at e
  rw [e_eq e0] at hc'
  exact q_getI hd hf hi hc' (hs _ _ _ _ _ _ hB e)
noncomputable def o_getR (t k : Nat) : q_Op := fun B lo st ce sl h ks _ _ _ => e_pop st (fun v st => e_isR v (fun r => e_cel h r (fun t' _ d => cond (Nat.beq t' t) (Nat.rec (motive := fun _ => Bool) false (fun m _ => ks B lo (.inr (.inl m) :: st) ce sl h) (q_rd d k)) false)))
theorem o_getR_ok {ci k idx : Nat} (hd : decode M.2.1 pc = .ok (.getfield idx, 3)) (hf : q_fl M idx ci k) (hi : q_isr (q_ty ci k) = true) : q_OK E tg mt M pc (pc + 3) (o_getR (ci + 5) k) := by
  intro Q B lo st ce sl h ks kj kr kc hB hs hj hr hc e
  replace e := e_pop_ok e
  obtain ⟨v, st1, rfl, e⟩ := e
  replace e := e_isR_ok e
  obtain ⟨r, rfl, e⟩ := e
  replace e := e_cel_ok e
  obtain ⟨t, n, d, hc', e⟩ := e
  obtain ⟨e0, e⟩ := e_cnd e
  rw [e_eq e0] at hc'
  cases hr' : q_rd d k with
  | zero => rw [hr'] at e; cases e
  | succ m =>
    rw [hr'] at e
    exact q_getR hd hf hi hc' hr' (hs _ _ _ _ _ _ hB e)
def q_fin (M : q_M) (idx ci k : Nat) : Prop := ∀ q : vw_C, q_cl[ci]? = some q → (q.2.1 k).2.2.2 = false ∨ ((q.2.1 k).2.2.2 = true ∧ M.1.name = "<init>" ∧ (q.2.1 k).1 = M.1.cls ∧ Cond.fieldLink M.1.cls idx (q.2.1 k).1 (q.2.1 k).2.1 (q.2.1 k).2.2.1 ∈ q_gd)
/-- an int into a field; of a boolean's: below 2 -/
noncomputable def o_putI (t k top : Nat) : q_Op := fun B lo st ce sl h ks _ _ _ => e_pi B st (fun B a st => e_pop st (fun v st => e_isR v (fun r => e_cel h r (fun t' n d => cond (and (Nat.beq t' t) (Nat.ble (Nat.succ a) top)) (e_put h r t' n (q_wr d k a) (fun h => ks B lo st ce sl h)) false))))
theorem o_putI_ok {ci k idx top : Nat} (hd : decode M.2.1 pc = .ok (.putfield idx, 3)) (hf : q_fl M idx ci k) (hfin : q_fin M idx ci k) (hi : (q_ty ci k = .int ∧ top = 18446744073709551616) ∨ (q_ty ci k = .boolean ∧ top = 2)) : q_OK E tg mt M pc (pc + 3) (o_putI (ci + 5) k top) := by
  intro Q B lo st ce sl h ks kj kr kc hB hs hj hr hc e
  replace e := e_pi_ok hB e
  obtain ⟨w, st1, a, B1, rfl, hB1, e, hw⟩ := e
  replace e := e_pop_ok e
  obtain ⟨v, st2, rfl, e⟩ := e
  replace e := e_isR_ok e
  obtain ⟨r, rfl, e⟩ := e
  replace e := e_cel_ok e
  obtain ⟨t, n, d, hc', e⟩ := e
  obtain ⟨e0, e⟩ := e_cnd e
  obtain ⟨e0, e1⟩ := e_and e0
  replace e := e_put_ok (k := fun h => ks B1 lo st2 ce sl h) e
  have e1 := e_le e1
  rw [e_eq e0] at hc' e
  refine q_conv hw (q_putf hd hf hc' ?_ hfin ?_ (hs _ _ _ _ _ _ hB1 e))
  · rcases hi with ⟨-, z⟩ | ⟨-, z⟩ <;> omega
  · intro ad v z
    have z : v = .int (nI a) := z
    subst z
    rcases hi with ⟨z, -⟩ | ⟨z, z2⟩
    · rw [z]; exact ⟨rfl, rfl, rfl⟩
    · rw [z]; exact ⟨rfl, (q_nar_bool (by omega)).2⟩
noncomputable def o_putR (t k : Nat) : q_Op := fun B lo st ce sl h ks _ _ _ => e_pop st (fun w st => e_isR w (fun a => e_pop st (fun v st => e_isR v (fun r => e_cel h r (fun t' n d => cond (and (Nat.beq t' t) (Nat.ble (a + 2) 18446744073709551616)) (e_put h r t' n (q_wr d k (a + 1)) (fun h => ks B lo st ce sl h)) false)))))
theorem o_putR_ok {ci k idx : Nat} (hd : decode M.2.1 pc = .ok (.putfield idx, 3)) (hf : q_fl M idx ci k) (hfin : q_fin M idx ci k) (hi : (∃ ty, q_ty ci k = .array ty) ∨ (∃ n, q_ty ci k = .object n)) : q_OK E tg mt M pc (pc + 3) (o_putR (ci + 5) k) := by
  intro Q B lo st ce sl h ks kj kr kc hB hs hj hr hc e
  replace e := e_pop_ok e
  obtain ⟨w, st1, rfl, e⟩ := e
  replace e := e_isR_ok e
  obtain ⟨a, rfl, e⟩ := e
  replace e := e_pop_ok e
  obtain ⟨v, st2, rfl, e⟩ := e
  replace e := e_isR_ok e
  obtain ⟨r, rfl, e⟩ := e
  replace e := e_cel_ok e
  obtain ⟨t, n, d, hc', e⟩ := e
  obtain ⟨e0, e⟩ := e_cnd e
  obtain ⟨e0, e1⟩ := e_and e0
  replace e := e_put_ok (k := fun h => ks B lo st2 ce sl h) e
  have e1 := e_le e1
  rw [e_eq e0] at hc' e
  refine q_putf hd hf hc' (by omega) hfin ?_ (hs _ _ _ _ _ _ hB e)
  intro ad v z
  obtain ⟨b, z1, z2⟩ := z
  subst z2
  rcases hi with ⟨ty, z⟩ | ⟨ty, z⟩
  · rw [z]; exact ⟨Or.inr ⟨a, b, rfl, z1, rfl⟩, rfl, rfl⟩
  · rw [z]; exact ⟨Or.inr ⟨a, b, rfl, z1, rfl⟩, rfl, rfl⟩

noncomputable def o_iald : q_Op := fun B lo st ce sl h ks _ _ _ => e_pi B st (fun B i st => e_pop st (fun v st => e_ra v (fun r => e_cel h r (fun t n d => cond (and (Nat.beq t 0) (and (Nat.ble (Nat.succ i) n) (Nat.ble (Nat.succ i) 2147483648))) (e_frc (q_rd d i) (fun m => ks B lo (.inl m :: st) ce sl h)) false))
  (fun q => cond (Nat.ble (Nat.succ i) 5) (cond (Nat.beq q 1) (e_frc (q_chi i) (fun m => ks B lo (.inl m :: st) ce sl h)) (cond (Nat.beq q 0) (ks B lo (.inr (.inr (.inr (.inl i))) :: st) ce sl h) false)) false)))
theorem o_iald_ok (hL : E.2.2.2.2 = 5) (hd : decode M.2.1 pc = .ok (.iaload, 1)) : q_OK E tg mt M pc (pc + 1) o_iald := by
  intro Q B lo st ce sl h ks kj kr kc hB hs hj hr hc e
  replace e := e_pi_ok hB e
  obtain ⟨w, st1, i, B1, rfl, hB1, e, hw⟩ := e
  replace e := e_pop_ok e
  obtain ⟨v, st2, rfl, e⟩ := e
  refine q_conv hw ?_
  replace e := e_ra_ok e
  rcases e with ⟨r, rfl, e⟩ | ⟨q, rfl, e⟩
  · replace e := e_cel_ok e
    obtain ⟨t, n, d, hc', e⟩ := e
    obtain ⟨e0, e⟩ := e_cnd e
    obtain ⟨e0, e1⟩ := e_and e0
    obtain ⟨e1, e2⟩ := e_and e1
    rw [e_frc_eq] at e
    rw [e_eq e0] at hc'
    exact q_ald hd (Or.inl ⟨rfl, rfl⟩) hc' (e_le e1) (e_le e2) (hs _ _ _ _ _ _ hB1 e)
  · obtain ⟨e0, e⟩ := e_cnd e
    have e0 := e_le e0
    cases b1 : Nat.beq q 1 with
    | true =>
      rw [b1] at e
      have e : e_frc (q_chi i) (fun m => ks B1 lo (.inl m :: st2) ce sl h) = true := e
      rw [e_frc_eq] at e
      rw [e_eq b1]
      exact q_sld1 hd e0 (hs _ _ _ _ _ _ hB1 e)
    | false =>
      rw [b1] at e
      obtain ⟨e1, e⟩ := e_cnd e
      rw [e_eq e1]
      exact q_sld0 hd (by rw [hL]; exact e0) (by omega) (hs _ _ _ _ _ _ hB1 e)
noncomputable def o_ald (t : Nat) : q_Op := fun B lo st ce sl h ks _ _ _ => e_pi B st (fun B i st => e_pop st (fun v st => e_isR v (fun r => e_cel h r (fun t' n d => cond (and (Nat.beq t' t) (and (Nat.ble (Nat.succ i) n) (Nat.ble (Nat.succ i) 2147483648))) (e_frc (q_rd d i) (fun m => ks B lo (.inl m :: st) ce sl h)) false))))
theorem o_ald_ok {t : Nat} {ins : Instr} (hi : (t = 0 ∧ ins = .iaload) ∨ (t = 2 ∧ ins = .caload) ∨ (t = 3 ∧ ins = .baload)) (hd : decode M.2.1 pc = .ok (ins, 1)) : q_OK E tg mt M pc (pc + 1) (o_ald t) := by
  intro Q B lo st ce sl h ks kj kr kc hB hs hj hr hc e
  replace e := e_pi_ok hB e
  obtain ⟨w, st1, i, B1, rfl, hB1, e, hw⟩ := e
  replace e := e_pop_ok e
  obtain ⟨v, st2, rfl, e⟩ := e
  refine q_conv hw ?_
  replace e := e_isR_ok e
  obtain ⟨r, rfl, e⟩ := e
  replace e := e_cel_ok e
  obtain ⟨t', n, d, hc', e⟩ := e
  obtain ⟨e0, e⟩ := e_cnd e
  obtain ⟨e0, e1⟩ := e_and e0
  obtain ⟨e1, e2⟩ := e_and e1
  rw [e_frc_eq] at e
  rw [e_eq e0] at hc'
  exact q_ald hd hi hc' (e_le e1) (e_le e2) (hs _ _ _ _ _ _ hB1 e)
noncomputable def o_lald : q_Op := fun B lo st ce sl h ks _ _ _ => e_pi B st (fun B i st => e_pop st (fun v st => e_ra v (fun r => e_cel h r (fun t n d => cond (and (Nat.beq t 1) (and (Nat.ble (Nat.succ i) n) (Nat.ble (Nat.succ i) 2147483648))) (e_frc (q_rd d i) (fun m => ks B lo (.inr (.inr (.inl m)) :: st) ce sl h)) false))
  (fun q => cond (and (Nat.ble (Nat.succ i) 6) (Nat.beq q 2)) (e_frc (q_whe i) (fun m => ks B lo (.inr (.inr (.inl m)) :: st) ce sl h)) false)))
theorem o_lald_ok (hd : decode M.2.1 pc = .ok (.laload, 1)) : q_OK E tg mt M pc (pc + 1) o_lald := by
  intro Q B lo st ce sl h ks kj kr kc hB hs hj hr hc e
  replace e := e_pi_ok hB e
  obtain ⟨w, st1, i, B1, rfl, hB1, e, hw⟩ := e
  replace e := e_pop_ok e
  obtain ⟨v, st2, rfl, e⟩ := e
  refine q_conv hw ?_
  replace e := e_ra_ok e
  rcases e with ⟨r, rfl, e⟩ | ⟨q, rfl, e⟩
  · replace e := e_cel_ok e
    obtain ⟨t, n, d, hc', e⟩ := e
    obtain ⟨e0, e⟩ := e_cnd e
    obtain ⟨e0, e1⟩ := e_and e0
    obtain ⟨e1, e2⟩ := e_and e1
    rw [e_frc_eq] at e
    rw [e_eq e0] at hc'
    exact q_ald_L hd hc' (e_le e1) (e_le e2) (hs _ _ _ _ _ _ hB1 e)
  · obtain ⟨e0, e⟩ := e_cnd e
    obtain ⟨e0, e1⟩ := e_and e0
    rw [e_frc_eq] at e
    rw [e_eq e1]
    exact q_sld2 hd (e_le e0) (hs _ _ _ _ _ _ hB1 e)
noncomputable def o_aald : q_Op := fun B lo st ce sl h ks _ _ _ => e_pi B st (fun B i st => e_pop st (fun v st => e_isR v (fun r => e_cel h r (fun t n d => cond (and (Nat.beq t 4) (and (Nat.ble (Nat.succ i) n) (Nat.ble (Nat.succ i) 2147483648))) (Nat.rec (motive := fun _ => Bool) false (fun m _ => ks B lo (.inr (.inl m) :: st) ce sl h) (q_rd d i)) false))))
theorem o_aald_ok (hd : decode M.2.1 pc = .ok (.aaload, 1)) : q_OK E tg mt M pc (pc + 1) o_aald := by
  intro Q B lo st ce sl h ks kj kr kc hB hs hj hr hc e
  replace e := e_pi_ok hB e
  obtain ⟨w, st1, i, B1, rfl, hB1, e, hw⟩ := e
  replace e := e_pop_ok e
  obtain ⟨v, st2, rfl, e⟩ := e
  refine q_conv hw ?_
  replace e := e_isR_ok e
  obtain ⟨r, rfl, e⟩ := e
  replace e := e_cel_ok e
  obtain ⟨t', n, d, hc', e⟩ := e
  obtain ⟨e0, e⟩ := e_cnd e
  obtain ⟨e0, e1⟩ := e_and e0
  obtain ⟨e1, e2⟩ := e_and e1
  rw [e_eq e0] at hc'
  cases hr' : q_rd d i with
  | zero => rw [hr'] at e; cases e
  | succ m =>
    rw [hr'] at e
    exact q_ald_R hd hc' (e_le e1) (e_le e2) hr' (hs _ _ _ _ _ _ hB1 e)
noncomputable def o_ast (t top : Nat) : q_Op := fun B lo st ce sl h ks _ _ _ => e_pi B st (fun B a st => e_pi B st (fun B i st => e_pop st (fun v st => e_isR v (fun r => e_cel h r (fun t' n d => cond (and (Nat.beq t' t) (and (Nat.ble (Nat.succ i) n) (and (Nat.ble (Nat.succ i) 2147483648) (Nat.ble (Nat.succ a) top)))) (e_put h r t' n (q_wr d i a) (fun h => ks B lo st ce sl h)) false)))))
theorem o_ast_ok {t top : Nat} {ins : Instr} (hi : (t = 0 ∧ ins = .iastore ∧ top = 18446744073709551616) ∨ (t = 2 ∧ ins = .castore ∧ top = 65536) ∨ (t = 3 ∧ ins = .bastore ∧ top = 2)) (hd : decode M.2.1 pc = .ok (ins, 1)) : q_OK E tg mt M pc (pc + 1) (o_ast t top) := by
  intro Q B lo st ce sl h ks kj kr kc hB hs hj hr hc e
  replace e := e_pi_ok hB e
  obtain ⟨w, st1, a, B1, rfl, hB1, e, hw⟩ := e
  replace e := e_pi_ok hB1 e
  obtain ⟨x, st2, i, B2, rfl, hB2, e, hx⟩ := e
  replace e := e_pop_ok e
  obtain ⟨v, st3, rfl, e⟩ := e
  refine q_conv2 hw hx ?_
  replace e := e_isR_ok e
  obtain ⟨r, rfl, e⟩ := e
  replace e := e_cel_ok e
  obtain ⟨t', n, d, hc', e⟩ := e
  obtain ⟨e0, e⟩ := e_cnd e
  obtain ⟨e0, e1⟩ := e_and e0
  obtain ⟨e1, e2⟩ := e_and e1
  obtain ⟨e2, e3⟩ := e_and e2
  replace e := e_put_ok (k := fun h => ks B2 lo st3 ce sl h) e
  have e3 := e_le e3
  rw [e_eq e0] at hc' e
  have hm : a % 18446744073709551616 = a := Nat.mod_eq_of_lt (by rcases hi with ⟨-, -, z⟩ | ⟨-, -, z⟩ | ⟨-, -, z⟩ <;> omega)
  refine q_ast hd ?_ hc' (e_le e1) (e_le e2) (by rw [hm]; exact hs _ _ _ _ _ _ hB2 e)
  rcases hi with ⟨z, z2, -⟩ | ⟨z, z2, z3⟩ | ⟨z, z2, z3⟩
  · exact Or.inl ⟨z, z2⟩
  · exact Or.inr (Or.inl ⟨z, z2, by omega⟩)
  · exact Or.inr (Or.inr ⟨z, z2, by omega⟩)
noncomputable def o_last : q_Op := fun B lo st ce sl h ks _ _ _ => e_pop st (fun w st => e_isL w (fun a => e_pi B st (fun B i st => e_pop st (fun v st => e_isR v (fun r => e_cel h r (fun t' n d => cond (and (Nat.beq t' 1) (and (Nat.ble (Nat.succ i) n) (Nat.ble (Nat.succ i) 2147483648))) (e_put h r t' n (q_wr d i (a % 18446744073709551616)) (fun h => ks B lo st ce sl h)) false))))))
theorem o_last_ok (hd : decode M.2.1 pc = .ok (.lastore, 1)) : q_OK E tg mt M pc (pc + 1) o_last := by
  intro Q B lo st ce sl h ks kj kr kc hB hs hj hr hc e
  replace e := e_pop_ok e
  obtain ⟨w, st1, rfl, e⟩ := e
  replace e := e_isL_ok e
  obtain ⟨a, rfl, e⟩ := e
  replace e := e_pi_ok hB e
  obtain ⟨x, st2, i, B2, rfl, hB2, e, hx⟩ := e
  replace e := e_pop_ok e
  obtain ⟨v, st3, rfl, e⟩ := e
  refine q_conv2 (x' := .inr (.inr (.inl a))) (fun _ _ z => z) hx ?_
  replace e := e_isR_ok e
  obtain ⟨r, rfl, e⟩ := e
  replace e := e_cel_ok e
  obtain ⟨t', n, d, hc', e⟩ := e
  obtain ⟨e0, e⟩ := e_cnd e
  obtain ⟨e0, e1⟩ := e_and e0
  obtain ⟨e1, e2⟩ := e_and e1
  replace e := e_put_ok (k := fun h => ks B2 lo st3 ce sl h) e
  rw [e_eq e0] at hc' e
  exact q_ast_L hd hc' (e_le e1) (e_le e2) (hs _ _ _ _ _ _ hB2 e)
noncomputable def o_aast : q_Op := fun B lo st ce sl h ks _ _ _ => e_pop st (fun w st => e_isR w (fun a => e_cel h a (fun ta _ _ => e_pi B st (fun B i st => e_pop st (fun v st => e_isR v (fun r => e_cel h r (fun t' n d => cond (and (Nat.beq ta 7) (and (Nat.beq t' 4) (and (Nat.ble (Nat.succ i) n) (and (Nat.ble (Nat.succ i) 2147483648) (Nat.ble (a + 2) 18446744073709551616))))) (e_put h r t' n (q_wr d i (a + 1)) (fun h => ks B lo st ce sl h)) false)))))))
theorem o_aast_ok (hd : decode M.2.1 pc = .ok (.aastore, 1)) : q_OK E tg mt M pc (pc + 1) o_aast := by
  intro Q B lo st ce sl h ks kj kr kc hB hs hj hr hc e
  replace e := e_pop_ok e
  obtain ⟨w, st1, rfl, e⟩ := e
  replace e := e_isR_ok e
  obtain ⟨a, rfl, e⟩ := e
  replace e := e_cel_ok e
  obtain ⟨ta, na, da, hca, e⟩ := e
  replace e := e_pi_ok hB e
  obtain ⟨x, st2, i, B2, rfl, hB2, e, hx⟩ := e
  replace e := e_pop_ok e
  obtain ⟨v, st3, rfl, e⟩ := e
  refine q_conv2 (x' := .inr (.inl a)) (fun _ _ z => z) hx ?_
  replace e := e_isR_ok e
  obtain ⟨r, rfl, e⟩ := e
  replace e := e_cel_ok e
  obtain ⟨t', n, d, hc', e⟩ := e
  obtain ⟨e0, e⟩ := e_cnd e
  obtain ⟨e00, e0⟩ := e_and e0
  obtain ⟨e0, e1⟩ := e_and e0
  obtain ⟨e1, e2⟩ := e_and e1
  obtain ⟨e2, e3⟩ := e_and e2
  replace e := e_put_ok (k := fun h => ks B2 lo st3 ce sl h) e
  have e3 := e_le e3
  rw [e_eq e0] at hc' e
  rw [e_eq e00] at hca
  exact q_ast_R hd hc' hca (e_le e1) (e_le e2) (by omega) (hs _ _ _ _ _ _ hB2 e)
noncomputable def o_len : q_Op := fun B lo st ce sl h ks _ _ _ => e_pop st (fun v st => e_ra v (fun r => e_cel h r (fun t n _ => cond (Nat.ble (Nat.succ t) 5) (ks B lo (.inl n :: st) ce sl h) false)) (fun q => cond (Nat.beq q 0) (ks B lo (.inl 5 :: st) ce sl h) false))
theorem o_len_ok (hL : E.2.2.2.2 = 5) (hd : decode M.2.1 pc = .ok (.arraylength, 1)) : q_OK E tg mt M pc (pc + 1) o_len := by
  intro Q B lo st ce sl h ks kj kr kc hB hs hj hr hc e
  replace e := e_pop_ok e
  obtain ⟨v, st1, rfl, e⟩ := e
  replace e := e_ra_ok e
  rcases e with ⟨r, rfl, e⟩ | ⟨q, rfl, e⟩
  · replace e := e_cel_ok e
    obtain ⟨t, n, d, hc', e⟩ := e
    obtain ⟨e0, e⟩ := e_cnd e
    exact q_len hd hc' (e_le e0) (hs _ _ _ _ _ _ hB e)
  · obtain ⟨e0, e⟩ := e_cnd e
    rw [e_eq e0]
    exact q_slen0 hd (by rw [hL]; exact hs _ _ _ _ _ _ hB e)

end
end
section
section
variable {E : q_E} {tg : Nat → Nat} {mt : Nat → q_M} {M : q_M} {pc pc' : Nat}
noncomputable def o_new (t N cR sR : Nat) : q_Op := fun B lo st ce sl h ks _ _ _ => cond (and (Nat.ble (Nat.succ ce) cR) (Nat.ble (sl + N) sR)) (e_frc (q_cnt h) (fun r => e_push h (t, N, 0) (fun h => e_frc (ce + 1) (fun ce => e_frc (sl + N) (fun sl => ks B lo (.inr (.inl r) :: st) ce sl h))))) false
theorem o_new_ok {idx ci N cR sR : Nat} {q : vw_C} (hd : decode M.2.1 pc = .ok (.new idx, 3)) (hq : q_cl[ci]? = some q) (hN : q.2.2 = N) (hw : Cond.classLink M.1.cls idx q.1 ∈ q_gd) (hi : Cond.instantiable q.1 q.2.2 ∈ q_gd) (hn : Cond.initialized q.1 ∈ q_gd) (hcR : M.2.2.2.2.cells = cR) (hsR : M.2.2.2.2.slots = sR) : q_OK E tg mt M pc (pc + 3) (o_new (ci + 5) N cR sR) := by
  intro Q B lo st ce sl h ks kj kr kc hB hs hj hr hc e
  subst hN
  replace e := e_cnd e
  obtain ⟨e0, e⟩ := e
  replace e0 := e_and e0
  obtain ⟨e0, e1⟩ := e0
  rw [e_frc_eq] at e
  replace e := e_push_ok (k := fun h' => e_frc (ce + 1) (fun ce => e_frc (sl + q.2.2) (fun sl => ks B lo (.inr (.inl (q_cnt h)) :: st) ce sl h'))) e
  rw [e_frc_eq, e_frc_eq] at e
  exact q_new hd hq hw hi hn (by rw [hcR]; exact e_le e0) (by rw [hsR]; exact e_le e1) (hs _ _ _ _ _ _ hB e)
noncomputable def o_newa (t cR sR : Nat) : q_Op := fun B lo st ce sl h ks _ _ _ => e_pi B st (fun B n st => cond (and (Nat.ble (Nat.succ n) 1000000) (and (Nat.ble (Nat.succ ce) cR) (Nat.ble (sl + n) sR))) (e_frc (q_cnt h) (fun r => e_push h (t, n, 0) (fun h => e_frc (ce + 1) (fun ce => e_frc (sl + n) (fun sl => ks B lo (.inr (.inl r) :: st) ce sl h))))) false)
theorem o_newa_ok {t cR sR : Nat} (ht : t < 4) (hd : decode M.2.1 pc = .ok (.newarray (q_at t), 2)) (hw : Cond.arrayClass (newarray.typeOf (q_at t)) ∈ q_gd) (hcR : M.2.2.2.2.cells = cR) (hsR : M.2.2.2.2.slots = sR) : q_OK E tg mt M pc (pc + 2) (o_newa t cR sR) := by
  intro Q B lo st ce sl h ks kj kr kc hB hs hj hr hc e
  replace e := e_pi_ok hB e
  obtain ⟨w, st1, n, B1, rfl, hB1, e, hw'⟩ := e
  replace e := e_cnd e
  obtain ⟨e0, e⟩ := e
  replace e0 := e_and e0
  obtain ⟨e0, e1⟩ := e0
  replace e1 := e_and e1
  obtain ⟨e1, e2⟩ := e1
  rw [e_frc_eq] at e
  replace e := e_push_ok (k := fun h' => e_frc (ce + 1) (fun ce => e_frc (sl + n) (fun sl => ks B1 lo (.inr (.inl (q_cnt h)) :: st1) ce sl h'))) e
  rw [e_frc_eq, e_frc_eq] at e
  exact q_conv hw' (q_newa ht hd hw (e_le e0) (by rw [hcR]; exact e_le e1) (by rw [hsR]; exact e_le e2) (hs _ _ _ _ _ _ hB1 e))
theorem o_newq_ok {idx cR sR : Nat} (hd : decode M.2.1 pc = .ok (.anewarray idx, 3)) (hw : Cond.classLink M.1.cls idx RX2 ∈ q_gd) (hcR : M.2.2.2.2.cells = cR) (hsR : M.2.2.2.2.slots = sR) : q_OK E tg mt M pc (pc + 3) (o_newa 4 cR sR) := by
  intro Q B lo st ce sl h ks kj kr kc hB hs hj hr hc e
  replace e := e_pi_ok hB e
  obtain ⟨w, st1, n, B1, rfl, hB1, e, hw'⟩ := e
  replace e := e_cnd e
  obtain ⟨e0, e⟩ := e
  replace e0 := e_and e0
  obtain ⟨e0, e1⟩ := e0
  replace e1 := e_and e1
  obtain ⟨e1, e2⟩ := e1
  rw [e_frc_eq] at e
  replace e := e_push_ok (k := fun h' => e_frc (ce + 1) (fun ce => e_frc (sl + n) (fun sl => ks B1 lo (.inr (.inl (q_cnt h)) :: st1) ce sl h'))) e
  rw [e_frc_eq, e_frc_eq] at e
  exact q_conv hw' (q_newq hd hw (e_le e0) (by rw [hcR]; exact e_le e1) (by rw [hsR]; exact e_le e2) (hs _ _ _ _ _ _ hB1 e))
noncomputable def o_objI (lR : Nat) : q_Op := fun B lo st ce sl h ks _ _ _ => e_pop st (fun v st => e_isR v (fun _ => cond (Nat.ble (q_wd st + 12) lR) (ks B lo st ce sl h) false))
theorem o_objI_ok {idx lR : Nat} (hd : decode M.2.1 pc = .ok (.invokespecial idx, 3)) (hw : Cond.methodLink M.1.cls idx Lib.objectInit ∈ q_gd) (hf : 1 ≤ M.2.2.2.2.frames) (hlR : M.2.2.2.2.locals = lR) (hg : Cond.instanceMethod Lib.objectInit ∈ q_gd ∧ Cond.code Lib.objectInit ⟨#[0xb1]⟩ 1 none ∈ q_gd) : q_OK E tg mt M pc (pc + 3) (o_objI lR) := by
  intro Q B lo st ce sl h ks kj kr kc hB hs hj hr hc e
  replace e := e_pop_ok e
  obtain ⟨v, st1, rfl, e⟩ := e
  replace e := e_isR_ok e
  obtain ⟨r, rfl, e⟩ := e
  replace e := e_cnd e
  obtain ⟨e0, e⟩ := e
  exact q_objInit hd hw hf (by rw [hlR]; exact e_le e0) hg (hs _ _ _ _ _ _ hB e)
noncomputable def o_copy (lR : Nat) : q_Op := fun B lo st ce sl h ks _ _ _ => e_pi B st (fun B n st => e_pi B st (fun B dp st => e_pop st (fun v' st => e_isR v' (fun r' => e_pi B st (fun B sp st => e_pop st (fun v st => e_isR v (fun r => e_cel h r (fun t0 n0 d0 => e_cel h r' (fun t1 n1 d1 => cond (and (and (Nat.beq t0 0) (Nat.beq t1 0)) (and (and (Nat.ble (sp + n) n0) (Nat.ble (dp + n) n1)) (and (Nat.ble (q_wd st + 18) lR) (and (Nat.ble (Nat.succ sp) 2147483648) (and (Nat.ble (Nat.succ dp) 2147483648) (Nat.ble (Nat.succ n) 2147483648)))))) (e_put h r' 0 n1 (q_cp d1 d0 sp dp n) (fun h => ks B lo st ce sl h)) false)))))))))
theorem o_copy_ok {idx lR : Nat} (hd : decode M.2.1 pc = .ok (.invokestatic idx, 3)) (hw : Cond.methodLink M.1.cls idx arraycopyName ∈ q_gd) (hg : Cond.native arraycopyName ∈ q_gd ∧ Cond.static arraycopyName ∈ q_gd ∧ Cond.initialized "java/lang/System" ∈ q_gd) (hf : 1 ≤ M.2.2.2.2.frames) (hlR : M.2.2.2.2.locals = lR) : q_OK E tg mt M pc (pc + 3) (o_copy lR) := by
  intro Q B lo st ce sl h ks kj kr kc hB hs hj hr hc e
  replace e := e_pi_ok hB e
  obtain ⟨v1, st1, n, B1, rfl, hB1, e, w1⟩ := e
  replace e := e_pi_ok hB1 e
  obtain ⟨v2, st2, dp, B2, rfl, hB2, e, w2⟩ := e
  replace e := e_pop_ok e
  obtain ⟨v3, st3, rfl, e⟩ := e
  replace e := e_isR_ok e
  obtain ⟨r', rfl, e⟩ := e
  replace e := e_pi_ok hB2 e
  obtain ⟨v4, st4, sp, B4, rfl, hB4, e, w4⟩ := e
  replace e := e_pop_ok e
  obtain ⟨v5, st5, rfl, e⟩ := e
  replace e := e_isR_ok e
  obtain ⟨r, rfl, e⟩ := e
  replace e := e_cel_ok e
  obtain ⟨t0, n0, d0, c0, e⟩ := e
  replace e := e_cel_ok e
  obtain ⟨t1, n1, d1, c1, e⟩ := e
  replace e := e_cnd e
  obtain ⟨e0, e⟩ := e
  replace e0 := e_and e0
  obtain ⟨e0, e1⟩ := e0
  replace e0 := e_and e0
  obtain ⟨e00, e01⟩ := e0
  replace e1 := e_and e1
  obtain ⟨e1, e2⟩ := e1
  replace e1 := e_and e1
  obtain ⟨e10, e11⟩ := e1
  replace e2 := e_and e2
  obtain ⟨e2, e3⟩ := e2
  replace e3 := e_and e3
  obtain ⟨e3, e4⟩ := e3
  replace e4 := e_and e4
  obtain ⟨e4, e5⟩ := e4
  replace e := e_put_ok (k := fun h => ks B4 lo st5 ce sl h) e
  rw [e_eq e00] at c0
  rw [e_eq e01] at c1
  have kz := q_copy hd hw hg hf (by rw [hlR]; exact e_le e2) c0 c1 (e_le e10) (e_le e11) (e_le e3) (e_le e4) (e_le e5) (hs _ _ _ _ _ _ hB4 e)
  refine q_conv2 w1 w2 ?_
  intro p e R s m args below meth c A ad0 Z H locs ls stv C T Rt
  obtain ⟨ad, tys, ws, lv, h1, h2, h3, h4, h5⟩ := T
  match stv, h4 with
  | a1 :: a2 :: a3 :: a4 :: stv, ⟨g1, g2, g3, g4, h4⟩ => exact kz.go C ⟨ad, tys, ws, lv, h1, h2, h3, ⟨g1, g2, g3, w4 _ _ g4, h4⟩, h5⟩ Rt
noncomputable def o_mm (f : Nat → Nat → Nat) (lR cR sR : Nat) : q_Op := fun B lo st ce sl h ks _ _ _ => e_pi B st (fun B b st => e_pi B st (fun B a st => cond (and (Nat.ble (q_wd st + 13) lR) (and (Nat.ble ce cR) (Nat.ble sl sR))) (e_frc (f a b) (fun m => ks B lo (.inl m :: st) ce sl h)) false))
def q_fmax (a b : Nat) : Nat := cond (Nat.ble (Nat.succ (q_bi a)) (q_bi b)) b a
def q_fmin (a b : Nat) : Nat := cond (Nat.ble (Nat.succ (q_bi b)) (q_bi a)) b a
theorem q_fmax_eq (a b : Nat) : q_fmax a b = if q_bi a < q_bi b then b else a := by
  unfold q_fmax
  cases hb : Nat.ble (Nat.succ (q_bi a)) (q_bi b) with
  | true => rw [if_pos (show q_bi a < q_bi b from e_le hb)]; rfl
  | false => rw [if_neg (show ¬ q_bi a < q_bi b from e_nle hb)]; rfl
theorem q_fmin_eq (a b : Nat) : q_fmin a b = if q_bi b < q_bi a then b else a := by
  unfold q_fmin
  cases hb : Nat.ble (Nat.succ (q_bi b)) (q_bi a) with
  | true => rw [if_pos (show q_bi b < q_bi a from e_le hb)]; rfl
  | false => rw [if_neg (show ¬ q_bi b < q_bi a from e_nle hb)]; rfl

theorem o_max_ok {idx lR cR sR : Nat} (hd : decode M.2.1 pc = .ok (.invokestatic idx, 3)) (hw : Cond.methodLink M.1.cls idx Lib.Math.max.name ∈ q_gd) (hg : Cond.static Lib.Math.max.name ∈ q_gd ∧ Cond.initialized "java/lang/Math" ∈ q_gd ∧ Cond.code Lib.Math.max.name Lib.Math.max.code 2 (some .int) ∈ q_gd) (hf : 1 ≤ M.2.2.2.2.frames) (hlR : M.2.2.2.2.locals = lR) (hcR : M.2.2.2.2.cells = cR) (hsR : M.2.2.2.2.slots = sR) : q_OK E tg mt M pc (pc + 3) (o_mm q_fmax lR cR sR) := by
  intro Q B lo st ce sl h ks kj kr kc hB hs hj hr hc e
  replace e := e_pi_ok hB e
  obtain ⟨v1, st1, b, B1, rfl, hB1, e, w1⟩ := e
  replace e := e_pi_ok hB1 e
  obtain ⟨v2, st2, a, B2, rfl, hB2, e, w2⟩ := e
  replace e := e_cnd e
  obtain ⟨e0, e⟩ := e
  replace e0 := e_and e0
  obtain ⟨e0, e1⟩ := e0
  replace e1 := e_and e1
  obtain ⟨e1, e2⟩ := e1
  rw [e_frc_eq, q_fmax_eq] at e
  exact q_conv2 w1 w2 (q_max hd hw hg hf (by rw [hlR]; exact e_le e0) (by rw [hcR]; exact e_le e1) (by rw [hsR]; exact e_le e2) (hs _ _ _ _ _ _ hB2 e))

theorem o_min_ok {idx lR cR sR : Nat} (hd : decode M.2.1 pc = .ok (.invokestatic idx, 3)) (hw : Cond.methodLink M.1.cls idx Lib.Math.min.name ∈ q_gd) (hg : Cond.static Lib.Math.min.name ∈ q_gd ∧ Cond.initialized "java/lang/Math" ∈ q_gd ∧ Cond.code Lib.Math.min.name Lib.Math.min.code 2 (some .int) ∈ q_gd) (hf : 1 ≤ M.2.2.2.2.frames) (hlR : M.2.2.2.2.locals = lR) (hcR : M.2.2.2.2.cells = cR) (hsR : M.2.2.2.2.slots = sR) : q_OK E tg mt M pc (pc + 3) (o_mm q_fmin lR cR sR) := by
  intro Q B lo st ce sl h ks kj kr kc hB hs hj hr hc e
  replace e := e_pi_ok hB e
  obtain ⟨v1, st1, b, B1, rfl, hB1, e, w1⟩ := e
  replace e := e_pi_ok hB1 e
  obtain ⟨v2, st2, a, B2, rfl, hB2, e, w2⟩ := e
  replace e := e_cnd e
  obtain ⟨e0, e⟩ := e
  replace e0 := e_and e0
  obtain ⟨e0, e1⟩ := e0
  replace e1 := e_and e1
  obtain ⟨e1, e2⟩ := e1
  rw [e_frc_eq, q_fmin_eq] at e
  exact q_conv2 w1 w2 (q_min hd hw hg hf (by rw [hlR]; exact e_le e0) (by rw [hcR]; exact e_le e1) (by rw [hsR]; exact e_le e2) (hs _ _ _ _ _ _ hB2 e))

noncomputable def o_abs (lR cR sR : Nat) : q_Op := fun B lo st ce sl h ks _ _ _ => e_pi B st (fun B a st => cond (and (Nat.ble (q_wd st + 13) lR) (and (Nat.ble ce cR) (Nat.ble sl sR))) (e_frc (cond (Nat.ble 2147483648 (q_bi a)) a ((4294967296 - a % 4294967296) % 4294967296)) (fun m => ks B lo (.inl m :: st) ce sl h)) false)
theorem o_abs_ok {idx lR cR sR : Nat} (hd : decode M.2.1 pc = .ok (.invokestatic idx, 3)) (hw : Cond.methodLink M.1.cls idx Lib.Math.abs.name ∈ q_gd) (hg : Cond.static Lib.Math.abs.name ∈ q_gd ∧ Cond.initialized "java/lang/Math" ∈ q_gd ∧ Cond.code Lib.Math.abs.name Lib.Math.abs.code 1 (some .int) ∈ q_gd) (hf : 1 ≤ M.2.2.2.2.frames) (hlR : M.2.2.2.2.locals = lR) (hcR : M.2.2.2.2.cells = cR) (hsR : M.2.2.2.2.slots = sR) : q_OK E tg mt M pc (pc + 3) (o_abs lR cR sR) := by
  intro Q B lo st ce sl h ks kj kr kc hB hs hj hr hc e
  replace e := e_pi_ok hB e
  obtain ⟨v1, st1, a, B1, rfl, hB1, e, w1⟩ := e
  replace e := e_cnd e
  obtain ⟨e0, e⟩ := e
  replace e0 := e_and e0
  obtain ⟨e0, e1⟩ := e0
  replace e1 := e_and e1
  obtain ⟨e1, e2⟩ := e1
  rw [e_frc_eq] at e
  refine q_conv w1 (q_abs hd hw hg hf (by rw [hlR]; exact e_le e0) (by rw [hcR]; exact e_le e1) (by rw [hsR]; exact e_le e2) (hs _ _ _ _ _ _ hB1 ?_))
  cases hb : Nat.ble 2147483648 (q_bi a) with
  | true => rw [hb] at e; rw [if_pos (e_le hb)]; exact e
  | false => rw [hb] at e; rw [if_neg (e_nle hb)]; exact e
noncomputable def e_nil (st : List q_V) (k : Bool) : Bool := List.rec (motive := fun _ => Bool) k (fun _ _ _ => false) st
theorem e_nil_ok {st : List q_V} {k : Bool} (h : e_nil st k = true) : st = [] ∧ k = true := by
  cases st with
  | nil => exact ⟨rfl, h⟩
  | cons v t => cases h
/-- returns: nothing, an int (below top, where it is a boolean's), a ref, a long -/
noncomputable def o_vret (cR sR : Nat) : q_Op := fun B _ st ce sl h _ _ kr _ => e_nil st (cond (and (Nat.ble ce cR) (Nat.ble sl sR)) (kr B none h) false)
theorem o_vret_ok {cR sR : Nat} (hd : decode M.2.1 pc = .ok (.return_, 1)) (hrt : M.2.2.2.1 = none) (hcR : M.2.2.2.2.cells = cR) (hsR : M.2.2.2.2.slots = sR) : q_OK E tg mt M pc pc' (o_vret cR sR) := by
  intro Q B lo st ce sl h ks kj kr kc hB hs hj hr hc e
  replace e := e_nil_ok e
  obtain ⟨rfl, e⟩ := e
  replace e := e_cnd e
  obtain ⟨e0, e⟩ := e
  replace e0 := e_and e0
  obtain ⟨e0, e1⟩ := e0
  exact q_ret (r := none) ⟨hd, hrt⟩ (by rw [hcR]; exact e_le e0) (by rw [hsR]; exact e_le e1) (hr _ _ _ hB e)
noncomputable def o_iret (cR sR : Nat) : q_Op := fun B _ st ce sl h _ _ kr _ => e_pop st (fun v st => e_nil st (cond (and (Nat.ble ce cR) (Nat.ble sl sR)) (e_is v (fun n => kr B (some (.inl n)) h) (fun s => kr B (some (.inr (.inr (.inr (.inl s))))) h)) false))
theorem o_iret_ok {cR sR : Nat} (hd : decode M.2.1 pc = .ok (.ireturn, 1)) (hrt : M.2.2.2.1 = some .int) (hcR : M.2.2.2.2.cells = cR) (hsR : M.2.2.2.2.slots = sR) : q_OK E tg mt M pc pc' (o_iret cR sR) := by
  intro Q B lo st ce sl h ks kj kr kc hB hs hj hr hc e
  replace e := e_pop_ok e
  obtain ⟨v, st1, rfl, e⟩ := e
  replace e := e_nil_ok e
  obtain ⟨rfl, e⟩ := e
  replace e := e_cnd e
  obtain ⟨e0, e⟩ := e
  replace e0 := e_and e0
  obtain ⟨e0, e1⟩ := e0
  replace e := e_is_ok e
  rcases e with ⟨n, rfl, e⟩ | ⟨s, rfl, e⟩
  · exact q_ret (r := some (.inl n)) ⟨hd, Or.inl hrt⟩ (by rw [hcR]; exact e_le e0) (by rw [hsR]; exact e_le e1) (hr _ _ _ hB e)
  · exact q_ret (r := some (.inr (.inr (.inr (.inl s))))) ⟨hd, hrt⟩ (by rw [hcR]; exact e_le e0) (by rw [hsR]; exact e_le e1) (hr _ _ _ hB e)
noncomputable def o_zret (cR sR : Nat) : q_Op := fun B _ st ce sl h _ _ kr _ => e_pop st (fun v st => e_nil st (cond (and (Nat.ble ce cR) (Nat.ble sl sR)) (e_is v (fun n => cond (Nat.ble (Nat.succ n) 2) (kr B (some (.inl n)) h) false) (fun _ => false)) false))
theorem o_zret_ok {cR sR : Nat} (hd : decode M.2.1 pc = .ok (.ireturn, 1)) (hrt : M.2.2.2.1 = some .boolean) (hcR : M.2.2.2.2.cells = cR) (hsR : M.2.2.2.2.slots = sR) : q_OK E tg mt M pc pc' (o_zret cR sR) := by
  intro Q B lo st ce sl h ks kj kr kc hB hs hj hr hc e
  replace e := e_pop_ok e
  obtain ⟨v, st1, rfl, e⟩ := e
  replace e := e_nil_ok e
  obtain ⟨rfl, e⟩ := e
  replace e := e_cnd e
  obtain ⟨e0, e⟩ := e
  replace e0 := e_and e0
  obtain ⟨e0, e1⟩ := e0
  replace e := e_is_ok e
  rcases e with ⟨n, rfl, e⟩ | ⟨s, rfl, e⟩
  · obtain ⟨e2, e⟩ := e_cnd e
    exact q_ret (r := some (.inl n)) ⟨hd, Or.inr ⟨_, hrt, (q_nar_bool (e_le e2)).2.1⟩⟩ (by rw [hcR]; exact e_le e0) (by rw [hsR]; exact e_le e1) (hr _ _ _ hB e)
  · cases e
noncomputable def o_aret (cR sR : Nat) : q_Op := fun B _ st ce sl h _ _ kr _ => e_pop st (fun v st => e_nil st (cond (and (Nat.ble ce cR) (Nat.ble sl sR)) (e_isR v (fun n => kr B (some (.inr (.inl n))) h)) false))
theorem o_aret_ok {cR sR : Nat} {nm : String} (hd : decode M.2.1 pc = .ok (.areturn, 1)) (hrt : M.2.2.2.1 = some (.object nm)) (hcR : M.2.2.2.2.cells = cR) (hsR : M.2.2.2.2.slots = sR) : q_OK E tg mt M pc pc' (o_aret cR sR) := by
  intro Q B lo st ce sl h ks kj kr kc hB hs hj hr hc e
  replace e := e_pop_ok e
  obtain ⟨v, st1, rfl, e⟩ := e
  replace e := e_nil_ok e
  obtain ⟨rfl, e⟩ := e
  replace e := e_cnd e
  obtain ⟨e0, e⟩ := e
  replace e0 := e_and e0
  obtain ⟨e0, e1⟩ := e0
  replace e := e_isR_ok e
  obtain ⟨n, rfl, e⟩ := e
  exact q_ret (r := some (.inr (.inl n))) ⟨hd, nm, hrt⟩ (by rw [hcR]; exact e_le e0) (by rw [hsR]; exact e_le e1) (hr _ _ _ hB e)
noncomputable def o_lret (cR sR : Nat) : q_Op := fun B _ st ce sl h _ _ kr _ => e_pop st (fun v st => e_nil st (cond (and (Nat.ble ce cR) (Nat.ble sl sR)) (e_isL v (fun n => kr B (some (.inr (.inr (.inl n)))) h)) false))
theorem o_lret_ok {cR sR : Nat} (hd : decode M.2.1 pc = .ok (.lreturn, 1)) (hrt : M.2.2.2.1 = some .long) (hcR : M.2.2.2.2.cells = cR) (hsR : M.2.2.2.2.slots = sR) : q_OK E tg mt M pc pc' (o_lret cR sR) := by
  intro Q B lo st ce sl h ks kj kr kc hB hs hj hr hc e
  replace e := e_pop_ok e
  obtain ⟨v, st1, rfl, e⟩ := e
  replace e := e_nil_ok e
  obtain ⟨rfl, e⟩ := e
  replace e := e_cnd e
  obtain ⟨e0, e⟩ := e
  replace e0 := e_and e0
  obtain ⟨e0, e1⟩ := e0
  replace e := e_isL_ok e
  obtain ⟨n, rfl, e⟩ := e
  exact q_ret (r := some (.inr (.inr (.inl n)))) ⟨hd, hrt⟩ (by rw [hcR]; exact e_le e0) (by rw [hsR]; exact e_le e1) (hr _ _ _ hB e)
/-- behind a call: what came back goes on the stack -/
noncomputable def e_res (r : Option q_V) (st : List q_V) (k : List q_V → Bool) : Bool := Option.rec (motive := fun _ => Bool) (k st) (fun v => k (v :: st)) r
theorem e_res_eq {r : Option q_V} {st : List q_V} {k : List q_V → Bool} : e_res r st k = k (r.toList ++ st) := by cases r <;> rfl
noncomputable def e_call (j mc ms cR sR : Nat) (B : q_B) (lo : q_Lo) (as st : List q_V) (ce sl : Nat) (h : q_H) (ks : q_K) (kc : Nat → q_B → List q_V → q_H → q_KR → Bool) : Bool := cond (and (Nat.ble (q_wd st) 8) (and (Nat.ble (ce + mc) cR) (Nat.ble (sl + ms) sR))) (kc j B as h (fun B r h => e_res r st (fun st => e_frc (ce + mc) (fun ce => e_frc (sl + ms) (fun sl => ks B lo st ce sl h))))) false

noncomputable def o_cS (j n mc ms cR sR : Nat) : q_Op := fun B lo st ce sl h ks _ _ kc => e_args n st [] (fun as st => e_call j mc ms cR sR B lo as st ce sl h ks kc)
theorem o_cS_ok {j n mc ms cR sR idx : Nat} (hd : decode M.2.1 pc = .ok (.invokestatic idx, 3)) (ho : q_ok M (mt j) n) (hw : Cond.methodLink M.1.cls idx (mt j).1 ∈ q_gd) (hx : Cond.static (mt j).1 ∈ q_gd) (hmc : (mt j).2.2.2.2.cells = mc) (hms : (mt j).2.2.2.2.slots = ms) (hcR : M.2.2.2.2.cells = cR) (hsR : M.2.2.2.2.slots = sR) : q_OK E tg mt M pc (pc + 3) (o_cS j n mc ms cR sR) := by
  intro Q B lo st ce sl h ks kj kr kc hB hs hj hr hc e
  replace e := e_args_ok e
  obtain ⟨as, st1, rfl, hn, e⟩ := e
  rw [List.append_nil] at e
  replace e := e_cnd e
  obtain ⟨e0, e⟩ := e
  replace e0 := e_and e0
  obtain ⟨e0, e1⟩ := e0
  replace e1 := e_and e1
  obtain ⟨e1, e2⟩ := e1
  subst hmc
  subst hms
  have hP := hc _ _ _ _ _ hB e
  refine q_callS hd ho hw hx hn (e_le e0) (by rw [hcR]; exact e_le e1) (by rw [hsR]; exact e_le e2) hP (fun r' h' z => ?_)
  obtain ⟨B', z1, z2⟩ := z
  rw [e_res_eq, e_frc_eq, e_frc_eq] at z2
  exact hs _ _ _ _ _ _ z1 z2

theorem o_cSN_ok {j n mc ms cR sR idx : Nat} (hd : decode M.2.1 pc = .ok (.invokestatic idx, 3)) (ho : q_ok M (mt j) n) {host : String} (hw : Cond.methodLinkNest M.1.cls idx (mt j).1 host ∈ q_nst) (hx : Cond.static (mt j).1 ∈ q_gd) (hmc : (mt j).2.2.2.2.cells = mc) (hms : (mt j).2.2.2.2.slots = ms) (hcR : M.2.2.2.2.cells = cR) (hsR : M.2.2.2.2.slots = sR) : q_OK E tg mt M pc (pc + 3) (o_cS j n mc ms cR sR) := by
  intro Q B lo st ce sl h ks kj kr kc hB hs hj hr hc e
  replace e := e_args_ok e
  obtain ⟨as, st1, rfl, hn, e⟩ := e
  rw [List.append_nil] at e
  replace e := e_cnd e
  obtain ⟨e0, e⟩ := e
  replace e0 := e_and e0
  obtain ⟨e0, e1⟩ := e0
  replace e1 := e_and e1
  obtain ⟨e1, e2⟩ := e1
  subst hmc
  subst hms
  have hP := hc _ _ _ _ _ hB e
  refine q_callSN hd ho hw hx hn (e_le e0) (by rw [hcR]; exact e_le e1) (by rw [hsR]; exact e_le e2) hP (fun r' h' z => ?_)
  obtain ⟨B', z1, z2⟩ := z
  rw [e_res_eq, e_frc_eq, e_frc_eq] at z2
  exact hs _ _ _ _ _ _ z1 z2

noncomputable def o_cI (j n mc ms cR sR : Nat) : q_Op := fun B lo st ce sl h ks _ _ kc => e_args n st [] (fun as st => e_pop st (fun v st => e_isR v (fun r => e_call j mc ms cR sR B lo (.inr (.inl r) :: as) st ce sl h ks kc)))
theorem o_cI_ok {j n mc ms cR sR idx : Nat} (hd : decode M.2.1 pc = .ok (.invokespecial idx, 3)) (ho : q_ok M (mt j) n) (hw : Cond.methodLink M.1.cls idx (mt j).1 ∈ q_gd) (hx : Cond.instanceMethod (mt j).1 ∈ q_gd) (hi : (mt j).1.name = "<init>" ∧ (mt j).2.2.2.1 = none) (hmc : (mt j).2.2.2.2.cells = mc) (hms : (mt j).2.2.2.2.slots = ms) (hcR : M.2.2.2.2.cells = cR) (hsR : M.2.2.2.2.slots = sR) : q_OK E tg mt M pc (pc + 3) (o_cI j n mc ms cR sR) := by
  intro Q B lo st ce sl h ks kj kr kc hB hs hj hr hc e
  replace e := e_args_ok e
  obtain ⟨as, st1, rfl, hn, e⟩ := e
  rw [List.append_nil] at e
  replace e := e_pop_ok e
  obtain ⟨v, st2, rfl, e⟩ := e
  replace e := e_isR_ok e
  obtain ⟨r, rfl, e⟩ := e
  replace e := e_cnd e
  obtain ⟨e0, e⟩ := e
  replace e0 := e_and e0
  obtain ⟨e0, e1⟩ := e0
  replace e1 := e_and e1
  obtain ⟨e1, e2⟩ := e1
  subst hmc
  subst hms
  have hP := hc _ _ _ _ _ hB e
  refine q_callI hd ho hw hx hi hn (e_le e0) (by rw [hcR]; exact e_le e1) (by rw [hsR]; exact e_le e2) hP (fun r' h' z => ?_)
  obtain ⟨B', z1, z2⟩ := z
  rw [e_res_eq, e_frc_eq, e_frc_eq] at z2
  exact hs _ _ _ _ _ _ z1 z2

theorem o_cIN_ok {j n mc ms cR sR idx : Nat} (hd : decode M.2.1 pc = .ok (.invokespecial idx, 3)) (ho : q_ok M (mt j) n) {host : String} (hw : Cond.methodLinkNest M.1.cls idx (mt j).1 host ∈ q_nst) (hx : Cond.instanceMethod (mt j).1 ∈ q_gd) (hi : (mt j).1.name = "<init>" ∧ (mt j).2.2.2.1 = none) (hmc : (mt j).2.2.2.2.cells = mc) (hms : (mt j).2.2.2.2.slots = ms) (hcR : M.2.2.2.2.cells = cR) (hsR : M.2.2.2.2.slots = sR) : q_OK E tg mt M pc (pc + 3) (o_cI j n mc ms cR sR) := by
  intro Q B lo st ce sl h ks kj kr kc hB hs hj hr hc e
  replace e := e_args_ok e
  obtain ⟨as, st1, rfl, hn, e⟩ := e
  rw [List.append_nil] at e
  replace e := e_pop_ok e
  obtain ⟨v, st2, rfl, e⟩ := e
  replace e := e_isR_ok e
  obtain ⟨r, rfl, e⟩ := e
  replace e := e_cnd e
  obtain ⟨e0, e⟩ := e
  replace e0 := e_and e0
  obtain ⟨e0, e1⟩ := e0
  replace e1 := e_and e1
  obtain ⟨e1, e2⟩ := e1
  subst hmc
  subst hms
  have hP := hc _ _ _ _ _ hB e
  refine q_callIN hd ho hw hx hi hn (e_le e0) (by rw [hcR]; exact e_le e1) (by rw [hsR]; exact e_le e2) hP (fun r' h' z => ?_)
  obtain ⟨B', z1, z2⟩ := z
  rw [e_res_eq, e_frc_eq, e_frc_eq] at z2
  exact hs _ _ _ _ _ _ z1 z2

noncomputable def o_cV (t j n mc ms cR sR : Nat) : q_Op := fun B lo st ce sl h ks _ _ kc => e_args n st [] (fun as st => e_pop st (fun v st => e_isR v (fun r => e_cel h r (fun t' _ _ => cond (Nat.beq t' t) (e_call j mc ms cR sR B lo (.inr (.inl r) :: as) st ce sl h ks kc) false))))
theorem o_cV_ok {j n mc ms cR sR idx ci : Nat} (hd : decode M.2.1 pc = .ok (.invokevirtual idx, 3)) (ho : q_ok M (mt j) n) (hw : Cond.methodLink M.1.cls idx (mt j).1 ∈ q_gd) (hx : Cond.instanceMethod (mt j).1 ∈ q_gd ∧ Cond.selects (mt j).1.cls (mt j).1 (mt j).1 ∈ q_gd) (hcl : ∀ q : vw_C, q_cl[ci]? = some q → q.1 = (mt j).1.cls) (hmc : (mt j).2.2.2.2.cells = mc) (hms : (mt j).2.2.2.2.slots = ms) (hcR : M.2.2.2.2.cells = cR) (hsR : M.2.2.2.2.slots = sR) : q_OK E tg mt M pc (pc + 3) (o_cV (ci + 5) j n mc ms cR sR) := by
  intro Q B lo st ce sl h ks kj kr kc hB hs hj hr hc e
  replace e := e_args_ok e
  obtain ⟨as, st1, rfl, hn, e⟩ := e
  rw [List.append_nil] at e
  replace e := e_pop_ok e
  obtain ⟨v, st2, rfl, e⟩ := e
  replace e := e_isR_ok e
  obtain ⟨r, rfl, e⟩ := e
  replace e := e_cel_ok e
  obtain ⟨t', n', d', hq, e⟩ := e
  replace e := e_cnd e
  obtain ⟨ez, e⟩ := e
  rw [e_eq ez] at hq
  replace e := e_cnd e
  obtain ⟨e0, e⟩ := e
  replace e0 := e_and e0
  obtain ⟨e0, e1⟩ := e0
  replace e1 := e_and e1
  obtain ⟨e1, e2⟩ := e1
  subst hmc
  subst hms
  have hP := hc _ _ _ _ _ hB e
  refine q_callV hd ho hw hx hq hcl hn (e_le e0) (by rw [hcR]; exact e_le e1) (by rw [hsR]; exact e_le e2) hP (fun r' h' z => ?_)
  obtain ⟨B', z1, z2⟩ := z
  rw [e_res_eq, e_frc_eq, e_frc_eq] at z2
  exact hs _ _ _ _ _ _ z1 z2

theorem o_cVN_ok {j n mc ms cR sR idx ci : Nat} (hd : decode M.2.1 pc = .ok (.invokevirtual idx, 3)) (ho : q_ok M (mt j) n) {host : String} (hw : Cond.methodLinkNest M.1.cls idx (mt j).1 host ∈ q_nst) (hx : Cond.instanceMethod (mt j).1 ∈ q_gd ∧ Cond.selects (mt j).1.cls (mt j).1 (mt j).1 ∈ q_gd) (hcl : ∀ q : vw_C, q_cl[ci]? = some q → q.1 = (mt j).1.cls) (hmc : (mt j).2.2.2.2.cells = mc) (hms : (mt j).2.2.2.2.slots = ms) (hcR : M.2.2.2.2.cells = cR) (hsR : M.2.2.2.2.slots = sR) : q_OK E tg mt M pc (pc + 3) (o_cV (ci + 5) j n mc ms cR sR) := by
  intro Q B lo st ce sl h ks kj kr kc hB hs hj hr hc e
  replace e := e_args_ok e
  obtain ⟨as, st1, rfl, hn, e⟩ := e
  rw [List.append_nil] at e
  replace e := e_pop_ok e
  obtain ⟨v, st2, rfl, e⟩ := e
  replace e := e_isR_ok e
  obtain ⟨r, rfl, e⟩ := e
  replace e := e_cel_ok e
  obtain ⟨t', n', d', hq, e⟩ := e
  replace e := e_cnd e
  obtain ⟨ez, e⟩ := e
  rw [e_eq ez] at hq
  replace e := e_cnd e
  obtain ⟨e0, e⟩ := e
  replace e0 := e_and e0
  obtain ⟨e0, e1⟩ := e0
  replace e1 := e_and e1
  obtain ⟨e1, e2⟩ := e1
  subst hmc
  subst hms
  have hP := hc _ _ _ _ _ hB e
  refine q_callVN hd ho hw hx hq hcl hn (e_le e0) (by rw [hcR]; exact e_le e1) (by rw [hsR]; exact e_le e2) hP (fun r' h' z => ?_)
  obtain ⟨B', z1, z2⟩ := z
  rw [e_res_eq, e_frc_eq, e_frc_eq] at z2
  exact hs _ _ _ _ _ _ z1 z2

noncomputable def o_cU (n : Nat) (t1 j1 t2 j2 cR sR : Nat) : q_Op := fun B lo st ce sl h ks _ _ kc => e_args n st [] (fun as st => e_pop st (fun v st => e_isR v (fun r => e_cel h r (fun t _ _ => cond (Nat.beq t t1) (e_call j1 0 0 cR sR B lo (.inr (.inl r) :: as) st ce sl h ks kc) (cond (Nat.beq t t2) (e_call j2 0 0 cR sR B lo (.inr (.inl r) :: as) st ce sl h ks kc) false)))))
def q_okU (M M' : q_M) (x : MethodName) (n ci : Nat) : Prop := q_ok M M' n ∧ (Cond.instanceMethod M'.1 ∈ q_gd ∧ Cond.selects M'.1.cls x M'.1 ∈ q_gd ∧ Cond.sameMethod x.cls x.cls x.name x.desc ∈ q_gd ∧ Cond.declares x ∈ q_nst) ∧ (x.desc = M'.1.desc ∧ x.cls ≠ "java/lang/invoke/MethodHandle" ∧ x.cls ≠ "java/lang/invoke/VarHandle") ∧ (∀ q : vw_C, q_cl[ci]? = some q → q.1 = M'.1.cls) ∧ M'.2.2.2.2.cells = 0 ∧ M'.2.2.2.2.slots = 0
theorem o_cU_ok {n ci1 j1 ci2 j2 cR sR idx : Nat} {x : MethodName} (hd : decode M.2.1 pc = .ok (.invokevirtual idx, 3)) (hw : Cond.methodLink M.1.cls idx x ∈ q_gd) (h1 : q_okU M (mt j1) x n ci1) (h2 : q_okU M (mt j2) x n ci2) (hcR : M.2.2.2.2.cells = cR) (hsR : M.2.2.2.2.slots = sR) : q_OK E tg mt M pc (pc + 3) (o_cU n (ci1 + 5) j1 (ci2 + 5) j2 cR sR) := by
  intro Q B lo st ce sl h ks kj kr kc hB hs hj hr hc e
  replace e := e_args_ok e
  obtain ⟨as, st1, rfl, hn, e⟩ := e
  rw [List.append_nil] at e
  replace e := e_pop_ok e
  obtain ⟨v, st2, rfl, e⟩ := e
  replace e := e_isR_ok e
  obtain ⟨r, rfl, e⟩ := e
  replace e := e_cel_ok e
  obtain ⟨t', n', d', hq, e⟩ := e
  have key : ∀ (j ci : Nat), t' = ci + 5 → q_okU M (mt j) x n ci → e_call j 0 0 cR sR B lo (.inr (.inl r) :: as) st2 ce sl h ks kc = true → q_W E M Q pc lo (as.reverse ++ .inr (.inl r) :: st2) ce sl h := by
    intro j ci ht hu e
    rw [ht] at hq
    obtain ⟨u1, u2, u3, u4, u5, u6⟩ := hu
    replace e := e_cnd e
    obtain ⟨e0, e⟩ := e
    replace e0 := e_and e0
    obtain ⟨e0, e1⟩ := e0
    replace e1 := e_and e1
    obtain ⟨e1, e2⟩ := e1
    have hP := hc _ _ _ _ _ hB e
    refine q_callU hd u1 hw u2 u3 hq u4 hn (e_le e0) (by rw [hcR, u5]; exact e_le e1) (by rw [hsR, u6]; exact e_le e2) hP (fun r' h' z => ?_)
    obtain ⟨B', z1, z2⟩ := z
    rw [e_res_eq, e_frc_eq, e_frc_eq] at z2
    rw [u5, u6]
    exact hs _ _ _ _ _ _ z1 z2
  cases b1 : Nat.beq t' (ci1 + 5) with
  | true => rw [b1] at e; exact key j1 ci1 (e_eq b1) h1 e
  | false =>
    rw [b1] at e
    replace e := e_cnd e
    obtain ⟨b2, e⟩ := e
    exact key j2 ci2 (e_eq b2) h2 e
end
/-- the run of a method's blocks: fuel, the table of all methods' blocks, this one's, the code from here on -/
noncomputable def q_go (P : List (Nat × List (List q_Op))) : Nat → List (List q_Op) → List q_Op → q_B → q_Lo → List q_V → Nat → Nat → q_H → q_KR → Bool := fun n => Nat.rec (motive := fun _ => List (List q_Op) → List q_Op → q_B → q_Lo → List q_V → Nat → Nat → q_H → q_KR → Bool) (fun _ _ _ _ _ _ _ _ _ => false)
  (fun _ ih bl cs B lo st ce sl h kr => e_pop cs (fun op cs => op B lo st ce sl h (fun B lo st ce sl h => ih bl cs B lo st ce sl h kr) (fun b B lo st ce sl h => e_nth bl b (fun cs => ih bl cs B lo st ce sl h kr)) kr (fun j B as h kc => e_nth P j (fun p => cond (Nat.ble (q_wd as) p.1) (e_pop p.2 (fun cs _ => ih p.2 cs B (q_args 0 as) [] 0 0 h kc)) false)))) n
def q_okC (E : q_E) (tg : Nat → Nat) (mt : Nat → q_M) (M : q_M) : Nat → List q_Op → Prop
  | _, [] => True
  | pc, op :: cs => ∃ pc', q_OK E tg mt M pc pc' op ∧ q_okC E tg mt M pc' cs
/-- a method's blocks are its bytecode -/
def q_okM (E : q_E) (mt : Nat → q_M) (M : q_M) (p : Nat × List (List q_Op)) : Prop := ∃ tg : Nat → Nat, tg 0 = 0 ∧ p.1 = M.2.2.1 ∧ (∀ (b : Nat) (cs : List q_Op), p.2[b]? = some cs → q_okC E tg mt M (tg b) cs) ∧ plainName M.1.cls = true
theorem q_go_ok {E : q_E} {mt : Nat → q_M} {P : List (Nat × List (List q_Op))} (hP : ∀ (j : Nat) (p : Nat × List (List q_Op)), P[j]? = some p → q_okM E mt (mt j) p) :
    ∀ (n : Nat) (M : q_M) (tg : Nat → Nat) (bl : List (List q_Op)) (pc : Nat) (cs : List q_Op) (B : q_B) (lo : q_Lo) (st : List q_V) (ce sl : Nat) (h : q_H) (kr : q_KR) (Q : Option q_V → q_H → Prop), (∀ (b : Nat) (cs : List q_Op), bl[b]? = some cs → q_okC E tg mt M (tg b) cs) → q_okC E tg mt M pc cs → q_inB E B → (∀ B r h, q_inB E B → kr B r h = true → Q r h) → q_go P n bl cs B lo st ce sl h kr = true → q_W E M Q pc lo st ce sl h := by
  intro n
  induction n with
  | zero => intro M tg bl pc cs B lo st ce sl h kr Q hbl hcs hB hkr e; cases e
  | succ n ih =>
    intro M tg bl pc cs B lo st ce sl h kr Q hbl hcs hB hkr e
    replace e := e_pop_ok e
    obtain ⟨op, cs', rfl, e⟩ := e
    obtain ⟨pc', hop, hcs'⟩ := hcs
    refine hop Q B lo st ce sl h _ _ _ _ hB ?_ ?_ hkr ?_ e
    · intro B lo st ce sl h hB e
      exact ih M tg bl pc' cs' B lo st ce sl h kr Q hbl hcs' hB hkr e
    · intro b B lo st ce sl h hB e
      replace e := e_nth_ok e
      obtain ⟨cs2, e1, e⟩ := e
      exact ih M tg bl (tg b) cs2 B lo st ce sl h kr Q hbl (hbl b cs2 e1) hB hkr e
    · intro j B as h kc' hB e
      replace e := e_nth_ok e
      obtain ⟨⟨ml, bl2⟩, e1, e⟩ := e
      replace e := e_cnd e
      obtain ⟨e0, e⟩ := e
      replace e := e_pop_ok e
      obtain ⟨cs2, bl3, e2, e⟩ := e
      obtain ⟨tg2, t0, tm, t1, t2⟩ := hP j _ e1
      have e2 : bl2 = cs2 :: bl3 := e2
      have tm : ml = (mt j).2.2.1 := tm
      have hW : q_W E (mt j) (fun r h' => ∃ B', q_inB E B' ∧ kc' B' r h' = true) 0 (q_args 0 as) [] 0 0 h := by
        have hz := t1 0 cs2 (by rw [e2]; rfl)
        rw [t0] at hz
        exact ih (mt j) tg2 bl2 0 cs2 B (q_args 0 as) [] 0 0 h kc' _ t1 hz hB (fun B r h z1 z2 => ⟨B, z1, z2⟩) e
      exact q_Pof t2 (by rw [← tm]; exact e_le e0) hW
end
section
theorem q_nar_char2 {x : Nat} (h : x < 65536) : narrow .char (.int (nI x)) = .int (nI x) := by
  have h1 := q_nar_char h
  have h2 : narrow .char (.int (nI x)) = .int (vp_nar .char (nI x)) := rfl
  rw [h2, h1]
theorem q_let_len : q_let.length = 184 := by decide +kernel
section
variable {E : q_E} {M : q_M} {Q : Option q_V → q_H → Prop} {pc : Nat} {lo : q_Lo} {st : List q_V} {ce sl : Nat} {h : q_H}
theorem q_tval {idx : Nat} (hd : decode M.2.1 pc = .ok (.getfield idx, 3)) (hf : Cond.fieldLink M.1.cls idx "java/lang/String" "value" "[B" ∈ q_gd)
    (k : q_W E M Q (pc + 3) lo (.inr (.inr (.inr (.inr (.inr (.inl 4))))) :: st) ce sl h) : q_W E M Q pc lo (.inr (.inr (.inr (.inr (.inr (.inl 3))))) :: st) ce sl h := by
  intro p e R s m args below meth c A ad0 Z H locs ls stv C T Rt
  obtain ⟨ad, tys, ws, lv, h1', h2', h3, h4, h5⟩ := T
  match stv, h4 with
  | v0 :: stv, ⟨ey, h4⟩ =>
    cases ey
    exact vk_getf C.1.1 C.1.2 ((C.2.2.2.2.2.2.2.2.1.2.2.2.1.2.1).1 0 (by decide)).2.2.1 h5.2.2.2 C.2.2.2.2.1 (C.2.2.2.2.2.1 _ hf) (fun _ z => z) hd (k.go C ⟨ad, tys, ws, lv, h1', h2', h3, ⟨rfl, h4⟩, h5⟩ Rt)
theorem q_tcod {idx : Nat} (hd : decode M.2.1 pc = .ok (.getfield idx, 3)) (hf : Cond.fieldLink M.1.cls idx "java/lang/String" "coder" "B" ∈ q_gd)
    (k : q_W E M Q (pc + 3) lo (.inl 0 :: st) ce sl h) : q_W E M Q pc lo (.inr (.inr (.inr (.inr (.inr (.inl 3))))) :: st) ce sl h := by
  intro p e R s m args below meth c A ad0 Z H locs ls stv C T Rt
  obtain ⟨ad, tys, ws, lv, h1', h2', h3, h4, h5⟩ := T
  match stv, h4 with
  | v0 :: stv, ⟨ey, h4⟩ =>
    cases ey
    exact vk_getf C.1.1 C.1.2 ((C.2.2.2.2.2.2.2.2.1.2.2.2.1.2.1).1 0 (by decide)).2.1 h5.2.2.2 C.2.2.2.2.1 (C.2.2.2.2.2.1 _ hf) (fun _ z => z) hd (k.go C ⟨ad, tys, ws, lv, h1', h2', h3, ⟨rfl, h4⟩, h5⟩ Rt)
theorem q_tcmp {idx : Nat} (hd : decode M.2.1 pc = .ok (.getstatic idx, 3)) (hf : Cond.fieldLink M.1.cls idx "java/lang/String" "COMPACT_STRINGS" "Z" ∈ q_gd)
    (k : q_W E M Q (pc + 3) lo (.inl 1 :: st) ce sl h) : q_W E M Q pc lo st ce sl h := by
  intro p e R s m args below meth c A ad0 Z H locs ls stv C T Rt
  obtain ⟨ad, tys, ws, lv, h1', h2', h3, h4, h5⟩ := T
  exact va_gets C.1.1 C.1.2 C.2.2.2.2.2.2.2.2.1.2.2.2.1.2.2.1 h5.2.2.2 C.2.2.2.2.1 (C.2.2.2.2.2.1 _ hf) (fun _ z => z) hd (k.go C ⟨ad, tys, ws, lv, h1', h2', h3, ⟨rfl, h4⟩, h5⟩ Rt)
theorem q_tfmt {idx : Nat} (hd : decode M.2.1 pc = .ok (.getstatic idx, 3)) (hf : Cond.fieldLink M.1.cls idx "jdk/internal/util/Preconditions" "SIOOBE_FORMATTER" "Ljava/util/function/BiFunction;" ∈ q_gd)
    (k : q_W E M Q (pc + 3) lo (.inr (.inr (.inr (.inr (.inr (.inr ()))))) :: st) ce sl h) : q_W E M Q pc lo st ce sl h := by
  intro p e R s m args below meth c A ad0 Z H locs ls stv C T Rt
  obtain ⟨ad, tys, ws, lv, h1', h2', h3, h4, h5⟩ := T
  rcases C.2.2.2.2.2.2.2.2.1.2.2.2.1.2.2.2 with z | ⟨t, z⟩
  · exact va_gets C.1.1 C.1.2 z h5.2.2.2 C.2.2.2.2.1 (C.2.2.2.2.2.1 _ hf) (fun _ z => z) hd (k.go C ⟨ad, tys, ws, lv, h1', h2', h3, ⟨Or.inl rfl, h4⟩, h5⟩ Rt)
  · exact va_gets C.1.1 C.1.2 z h5.2.2.2 C.2.2.2.2.1 (C.2.2.2.2.2.1 _ hf) (fun _ z => z) hd (k.go C ⟨ad, tys, ws, lv, h1', h2', h3, ⟨Or.inr ⟨t, rfl⟩, h4⟩, h5⟩ Rt)
theorem q_tlen (hd : decode M.2.1 pc = .ok (.arraylength, 1))
    (k : q_W E M Q (pc + 1) lo (.inl 184 :: st) ce sl h) : q_W E M Q pc lo (.inr (.inr (.inr (.inr (.inr (.inl 4))))) :: st) ce sl h := by
  intro p e R s m args below meth c A ad0 Z H locs ls stv C T Rt
  obtain ⟨ad, tys, ws, lv, h1', h2', h3, h4, h5⟩ := T
  match stv, h4 with
  | v0 :: stv, ⟨ey, h4⟩ =>
    cases ey
    exact va_tlen (v := nI 184) C.1.1 C.1.2 ((C.2.2.2.2.2.2.2.2.1.2.2.2.1.2.1).1 0 (by decide)).2.2.2 h5.2.2.2 (by rw [show [q_let.length].getD 0 0 = q_let.length from rfl, q_let_len]; rfl) hd (k.go C ⟨ad, tys, ws, lv, h1', h2', h3, ⟨rfl, h4⟩, h5⟩ Rt)
theorem q_tld {i x : Nat} (hd : decode M.2.1 pc = .ok (.baload, 1)) (hx : q_let[i]? = some x)
    (k : q_W E M Q (pc + 1) lo (.inl x :: st) ce sl h) : q_W E M Q pc lo (.inl i :: .inr (.inr (.inr (.inr (.inr (.inl 4))))) :: st) ce sl h := by
  intro p e R s m args below meth c A ad0 Z H locs ls stv C T Rt
  obtain ⟨ad, tys, ws, lv, h1', h2', h3, h4, h5⟩ := T
  match stv, h4 with
  | v :: v0 :: stv, ⟨ex, ey, h4⟩ =>
    cases ex; cases ey
    have hi : i < q_let.length := (List.getElem?_eq_some_iff.mp hx).1
    have hi2 : i < 184 := by rw [← q_let_len]; exact hi
    have ec : (nI i).toNatClampNeg = i := nI_clamp (by omega)
    refine va_tb (v := .int (nI x)) C.1.1 C.1.2 ((C.2.2.2.2.2.2.2.2.1.2.2.2.1.2.1).1 0 (by decide)).2.2.2 h5.2.2.2 (q_in hi (by omega)) ?_ hd (k.go C ⟨ad, tys, ws, lv, h1', h2', h3, ⟨rfl, h4⟩, h5⟩ Rt)
    rw [ec]
    show Value.int ((q_let.map nI).getD i 0) = _
    rw [List.getD_eq_getElem?_getD, List.getElem?_map, hx]
    rfl
/-- a call on the text -/
theorem q_callT {M' : q_M} {Q' : Option q_V → q_H → Prop} {as : List q_V} {idx n : Nat} (hd : decode M.2.1 pc = .ok (.invokevirtual idx, 3)) (ho : q_ok M M' n) (hw : Cond.methodLink M.1.cls idx M'.1 ∈ q_gd) (hx : Cond.instanceMethod M'.1 ∈ q_gd ∧ Cond.selects M'.1.cls M'.1 M'.1 ∈ q_gd) (hcl : M'.1.cls = "java/lang/String") (hn : as.length = n) (hwd : q_wd st ≤ 8) (hc : ce + M'.2.2.2.2.cells ≤ M.2.2.2.2.cells) (hs : sl + M'.2.2.2.2.slots ≤ M.2.2.2.2.slots) (hP : q_P E M' (.inr (.inr (.inr (.inr (.inr (.inl 3))))) :: as) h Q')
    (k : ∀ r h', Q' r h' → q_W E M Q (pc + 3) lo (r.toList ++ st) (ce + M'.2.2.2.2.cells) (sl + M'.2.2.2.2.slots) h') : q_W E M Q pc lo (as.reverse ++ .inr (.inr (.inr (.inr (.inr (.inl 3))))) :: st) ce sl h := by
  intro p e R s m args below meth c A ad0 Z H locs ls stv C T Rt
  obtain ⟨ad, tys, ws, lv, h1, h2, h3, h4, h5⟩ := T
  have hR := C.2.2.2.2.2.2.2.1
  have hts := C.2.2.2.2.2.1
  have hown := C.2.2.2.2.1
  obtain ⟨us, rest, rfl, g1, g2⟩ := q_sr_split h4
  have g3 := q_sr_rev g1
  rw [List.reverse_reverse] at g3
  have glen : us.reverse.length = n := by rw [← q_sr_len g3]; exact hn
  match rest, g2 with
  | v0 :: rest, ⟨e1, g2⟩ =>
    cases e1
    have gst : q_sr E ad (.inr (.inr (.inr (.inr (.inr (.inl 3))))) :: as) (.ref (E.2.2.1 3) :: us.reverse) := ⟨rfl, g3⟩
    have rv := vk_recv C.2.2.2.2.2.2.2.2.1.2.2.2.1.2.1 (i := 0) (by decide) h5.2.2.2
    rw [← hcl] at rv
    exact q_after C h1 h3 g2 h5.1 h5.2.2.1 h5.2.2.2 Rt (va_runV (As := us.reverse) (rest := rest) ⟨C.1.1, C.1.2, C.2.1, hown, hts⟩ (hP ad H.size) ⟨(callB_of n hts (q_good ho.2.1) rfl rfl rfl (hts _ ho.2.2.1) (hts _ hw) ho.2.2.2 (by rw [hR]; exact ho.1)), hts _ hx.1, hts _ hx.2⟩ ⟨q_blind, rv, q_start C h2 h5.1 h5.2.1 h5.2.2.1 h5.2.2.2 gst⟩ rfl glen (h3.1.1) (by show us ++ .ref (E.2.2.1 3) :: rest = us.reverse.reverse ++ .ref (E.2.2.1 3) :: rest; rw [List.reverse_reverse]) (lv_room (by rw [q_wd_sr g2]; exact hwd)) hd (by rw [hR]; exact ⟨hc, hs⟩)) k
end
section
variable {E : q_E} {tg : Nat → Nat} {mt : Nat → q_M} {M : q_M} {pc pc' : Nat}
noncomputable def o_tval : q_Op := fun B lo st ce sl h ks _ _ _ => e_pop st (fun v st => e_ra v (fun _ => false) (fun q => cond (Nat.beq q 3) (ks B lo (.inr (.inr (.inr (.inr (.inr (.inl 4))))) :: st) ce sl h) false))
theorem o_tval_ok {idx : Nat} (hd : decode M.2.1 pc = .ok (.getfield idx, 3)) (hf : Cond.fieldLink M.1.cls idx "java/lang/String" "value" "[B" ∈ q_gd) : q_OK E tg mt M pc (pc + 3) o_tval := by
  intro Q B lo st ce sl h ks kj kr kc hB hs hj hr hc e
  replace e := e_pop_ok e
  obtain ⟨v, st1, rfl, e⟩ := e
  replace e := e_ra_ok e
  rcases e with ⟨r, rfl, e⟩ | ⟨q, rfl, e⟩
  · cases e
  · replace e := e_cnd e
    obtain ⟨e0, e⟩ := e
    rw [e_eq e0]
    exact q_tval hd hf (hs _ _ _ _ _ _ hB e)
noncomputable def o_tcod : q_Op := fun B lo st ce sl h ks _ _ _ => e_pop st (fun v st => e_ra v (fun _ => false) (fun q => cond (Nat.beq q 3) (ks B lo (.inl 0 :: st) ce sl h) false))
theorem o_tcod_ok {idx : Nat} (hd : decode M.2.1 pc = .ok (.getfield idx, 3)) (hf : Cond.fieldLink M.1.cls idx "java/lang/String" "coder" "B" ∈ q_gd) : q_OK E tg mt M pc (pc + 3) o_tcod := by
  intro Q B lo st ce sl h ks kj kr kc hB hs hj hr hc e
  replace e := e_pop_ok e
  obtain ⟨v, st1, rfl, e⟩ := e
  replace e := e_ra_ok e
  rcases e with ⟨r, rfl, e⟩ | ⟨q, rfl, e⟩
  · cases e
  · replace e := e_cnd e
    obtain ⟨e0, e⟩ := e
    rw [e_eq e0]
    exact q_tcod hd hf (hs _ _ _ _ _ _ hB e)
noncomputable def o_tlen : q_Op := fun B lo st ce sl h ks _ _ _ => e_pop st (fun v st => e_ra v (fun _ => false) (fun q => cond (Nat.beq q 4) (ks B lo (.inl 184 :: st) ce sl h) false))
theorem o_tlen_ok (hd : decode M.2.1 pc = .ok (.arraylength, 1)) : q_OK E tg mt M pc (pc + 1) o_tlen := by
  intro Q B lo st ce sl h ks kj kr kc hB hs hj hr hc e
  replace e := e_pop_ok e
  obtain ⟨v, st1, rfl, e⟩ := e
  replace e := e_ra_ok e
  rcases e with ⟨r, rfl, e⟩ | ⟨q, rfl, e⟩
  · cases e
  · replace e := e_cnd e
    obtain ⟨e0, e⟩ := e
    rw [e_eq e0]
    exact q_tlen hd (hs _ _ _ _ _ _ hB e)
noncomputable def o_tld : q_Op := fun B lo st ce sl h ks _ _ _ => e_pi B st (fun B i st => e_pop st (fun v st => e_ra v (fun _ => false) (fun q => cond (Nat.beq q 4) (e_nth q_let i (fun m => ks B lo (.inl m :: st) ce sl h)) false)))
theorem o_tld_ok (hd : decode M.2.1 pc = .ok (.baload, 1)) : q_OK E tg mt M pc (pc + 1) o_tld := by
  intro Q B lo st ce sl h ks kj kr kc hB hs hj hr hc e
  replace e := e_pi_ok hB e
  obtain ⟨w, st1, i, B1, rfl, hB1, e, hw⟩ := e
  replace e := e_pop_ok e
  obtain ⟨v, st2, rfl, e⟩ := e
  refine q_conv hw ?_
  replace e := e_ra_ok e
  rcases e with ⟨r, rfl, e⟩ | ⟨q, rfl, e⟩
  · cases e
  · replace e := e_cnd e
    obtain ⟨e0, e⟩ := e
    replace e := e_nth_ok e
    obtain ⟨x, e1, e⟩ := e
    rw [e_eq e0]
    exact q_tld hd e1 (hs _ _ _ _ _ _ hB1 e)
/-- an int of a byte's or a char's -/
noncomputable def o_cret (top cR sR : Nat) : q_Op := fun B _ st ce sl h _ _ kr _ => e_pop st (fun v st => e_nil st (cond (and (Nat.ble ce cR) (Nat.ble sl sR)) (e_is v (fun n => cond (Nat.ble (Nat.succ n) top) (kr B (some (.inl n)) h) false) (fun _ => false)) false))
theorem o_cret_ok {top cR sR : Nat} (hd : decode M.2.1 pc = .ok (.ireturn, 1)) (hrt : (M.2.2.2.1 = some .char ∧ top = 65536) ∨ (M.2.2.2.1 = some .byte ∧ top = 1)) (hcR : M.2.2.2.2.cells = cR) (hsR : M.2.2.2.2.slots = sR) : q_OK E tg mt M pc pc' (o_cret top cR sR) := by
  intro Q B lo st ce sl h ks kj kr kc hB hs hj hr hc e
  replace e := e_pop_ok e
  obtain ⟨v, st1, rfl, e⟩ := e
  replace e := e_nil_ok e
  obtain ⟨rfl, e⟩ := e
  replace e := e_cnd e
  obtain ⟨e0, e⟩ := e
  replace e0 := e_and e0
  obtain ⟨e0, e1⟩ := e0
  replace e := e_is_ok e
  rcases e with ⟨n, rfl, e⟩ | ⟨s, rfl, e⟩
  · replace e := e_cnd e
    obtain ⟨e2, e⟩ := e
    have e2 := e_le e2
    refine q_ret (r := some (.inl n)) ⟨hd, Or.inr ?_⟩ (by rw [hcR]; exact e_le e0) (by rw [hsR]; exact e_le e1) (hr _ _ _ hB e)
    rcases hrt with ⟨z, z2⟩ | ⟨z, z2⟩
    · exact ⟨_, z, q_nar_char2 (by omega)⟩
    · have : n = 0 := by omega
      subst this
      exact ⟨_, z, by decide +kernel⟩
  · cases e
noncomputable def o_cT (j n mc ms cR sR : Nat) : q_Op := fun B lo st ce sl h ks _ _ kc => e_args n st [] (fun as st => e_pop st (fun v st => e_ra v (fun _ => false) (fun q => cond (Nat.beq q 3) (e_call j mc ms cR sR B lo (.inr (.inr (.inr (.inr (.inr (.inl 3))))) :: as) st ce sl h ks kc) false)))
theorem o_cT_ok {j n mc ms cR sR idx : Nat} (hd : decode M.2.1 pc = .ok (.invokevirtual idx, 3)) (ho : q_ok M (mt j) n) (hw : Cond.methodLink M.1.cls idx (mt j).1 ∈ q_gd) (hx : Cond.instanceMethod (mt j).1 ∈ q_gd ∧ Cond.selects (mt j).1.cls (mt j).1 (mt j).1 ∈ q_gd) (hcl : (mt j).1.cls = "java/lang/String") (hmc : (mt j).2.2.2.2.cells = mc) (hms : (mt j).2.2.2.2.slots = ms) (hcR : M.2.2.2.2.cells = cR) (hsR : M.2.2.2.2.slots = sR) : q_OK E tg mt M pc (pc + 3) (o_cT j n mc ms cR sR) := by
  intro Q B lo st ce sl h ks kj kr kc hB hs hj hr hc e
  replace e := e_args_ok e
  obtain ⟨as, st1, rfl, hn, e⟩ := e
  rw [List.append_nil] at e
  replace e := e_pop_ok e
  obtain ⟨v, st2, rfl, e⟩ := e
  replace e := e_ra_ok e
  rcases e with ⟨r, rfl, e⟩ | ⟨q, rfl, e⟩
  · cases e
  · replace e := e_cnd e
    obtain ⟨ez, e⟩ := e
    rw [e_eq ez]
    replace e := e_cnd e
    obtain ⟨e0, e⟩ := e
    replace e0 := e_and e0
    obtain ⟨e0, e1⟩ := e0
    replace e1 := e_and e1
    obtain ⟨e1, e2⟩ := e1
    subst hmc
    subst hms
    have hP := hc _ _ _ _ _ hB e
    refine q_callT hd ho hw hx hcl hn (e_le e0) (by rw [hcR]; exact e_le e1) (by rw [hsR]; exact e_le e2) hP (fun r' h' z => ?_)
    obtain ⟨B', z1, z2⟩ := z
    rw [e_res_eq, e_frc_eq, e_frc_eq] at z2
    exact hs _ _ _ _ _ _ z1 z2
end
end
section
theorem q_wg {i : Nat} {w : Cond} (h : tables_1[i]? = some w) (hg : goodWord w = true) : w ∈ q_gd := List.mem_filter.mpr ⟨List.mem_append_right _ (List.mem_of_getElem? h), hg⟩
theorem q_wn {i : Nat} {w : Cond} (h : tables_1[i]? = some w) (hg : q_isN w = true) : w ∈ q_nst := List.mem_filter.mpr ⟨List.mem_append_right _ (List.mem_of_getElem? h), hg⟩
theorem q_wp {i : Nat} {q : MethodName × Nat} (h : lw_privs[i]? = some q) : Cond.selects q.1.cls q.1 q.1 ∈ q_gd := List.mem_filter.mpr ⟨List.mem_append_left _ (List.mem_map.mpr ⟨q, List.mem_of_getElem? h, rfl⟩), rfl⟩
theorem w_1 : Cond.initialized "TreePasses" ∈ q_gd := q_wg (i := 1) (by decide +kernel) (by decide +kernel)
theorem w_2 : Cond.initialized "TreePasses$Scroll" ∈ q_gd := q_wg (i := 2) (by decide +kernel) (by decide +kernel)
theorem w_4 : Cond.initialized "TreePasses$Program" ∈ q_gd := q_wg (i := 4) (by decide +kernel) (by decide +kernel)
theorem w_5 : Cond.initialized "TreePasses$Shelf" ∈ q_gd := q_wg (i := 5) (by decide +kernel) (by decide +kernel)
theorem w_6 : Cond.initialized "TreePasses$Ground" ∈ q_gd := q_wg (i := 6) (by decide +kernel) (by decide +kernel)
theorem w_7 : Cond.initialized "TreePasses$Standing" ∈ q_gd := q_wg (i := 7) (by decide +kernel) (by decide +kernel)
theorem w_8 : Cond.initialized "TreePasses$Unmade" ∈ q_gd := q_wg (i := 8) (by decide +kernel) (by decide +kernel)
theorem w_9 : Cond.initialized "TreePasses$Walk" ∈ q_gd := q_wg (i := 9) (by decide +kernel) (by decide +kernel)
theorem w_10 : Cond.initialized "TreePasses$Census" ∈ q_gd := q_wg (i := 10) (by decide +kernel) (by decide +kernel)
theorem w_11 : Cond.initialized "java/lang/String" ∈ q_gd := q_wg (i := 11) (by decide +kernel) (by decide +kernel)
theorem w_12 : Cond.initialized "java/lang/StringLatin1" ∈ q_gd := q_wg (i := 12) (by decide +kernel) (by decide +kernel)
theorem w_13 : Cond.initialized "jdk/internal/util/Preconditions" ∈ q_gd := q_wg (i := 13) (by decide +kernel) (by decide +kernel)
theorem w_15 : Cond.initialized "java/util/Arrays" ∈ q_gd := q_wg (i := 15) (by decide +kernel) (by decide +kernel)
theorem w_17 : Cond.initialized "TreePassesModel" ∈ q_gd := q_wg (i := 17) (by decide +kernel) (by decide +kernel)
theorem w_18 : Cond.classLink "TreePassesLaw" 7 "TreePasses" ∈ q_gd := q_wg (i := 18) (by decide +kernel) (by decide +kernel)
theorem w_19 : Cond.instantiable "TreePasses" 12 ∈ q_gd := q_wg (i := 19) (by decide +kernel) (by decide +kernel)
theorem w_20 : Cond.methodLink "TreePassesLaw" 9 ⟨"TreePasses", "<init>", "()V"⟩ ∈ q_gd := q_wg (i := 20) (by decide +kernel) (by decide +kernel)
theorem w_21 : Cond.instanceMethod ⟨"TreePasses", "<init>", "()V"⟩ ∈ q_gd := q_wg (i := 21) (by decide +kernel) (by decide +kernel)
theorem w_23 : Cond.methodLink "TreePasses" 3 ⟨"java/lang/Object", "<init>", "()V"⟩ ∈ q_gd := q_wg (i := 23) (by decide +kernel) (by decide +kernel)
theorem w_26 : Cond.classLink "TreePasses" 9 "TreePasses$Scroll" ∈ q_gd := q_wg (i := 26) (by decide +kernel) (by decide +kernel)
theorem w_27 : Cond.instantiable "TreePasses$Scroll" 5 ∈ q_gd := q_wg (i := 27) (by decide +kernel) (by decide +kernel)
theorem w_28 : Cond.methodLinkNest "TreePasses" 11 ⟨"TreePasses$Scroll", "<init>", "()V"⟩ "TreePasses" ∈ q_nst := q_wn (i := 28) (by decide +kernel) (by decide +kernel)
theorem w_29 : Cond.instanceMethod ⟨"TreePasses$Scroll", "<init>", "()V"⟩ ∈ q_gd := q_wg (i := 29) (by decide +kernel) (by decide +kernel)
theorem w_31 : Cond.methodLink "TreePasses$Scroll" 3 ⟨"java/lang/Object", "<init>", "()V"⟩ ∈ q_gd := q_wg (i := 31) (by decide +kernel) (by decide +kernel)
theorem w_32 : Cond.methodLink "TreePasses$Scroll" 15 ⟨"java/lang/Math", "max", "(II)I"⟩ ∈ q_gd := q_wg (i := 32) (by decide +kernel) (by decide +kernel)
theorem w_35 : Cond.fieldLink "TreePasses$Scroll" 9 "TreePasses$Scroll" "text" "[C" ∈ q_gd := q_wg (i := 35) (by decide +kernel) (by decide +kernel)
theorem w_36 : Cond.fieldLink "TreePasses$Scroll" 21 "TreePasses$Scroll" "row" "[I" ∈ q_gd := q_wg (i := 36) (by decide +kernel) (by decide +kernel)
theorem w_37 : Cond.fieldLink "TreePasses$Scroll" 25 "TreePasses$Scroll" "size" "I" ∈ q_gd := q_wg (i := 37) (by decide +kernel) (by decide +kernel)
theorem w_38 : Cond.fieldLink "TreePasses$Scroll" 37 "TreePasses$Scroll" "at" "I" ∈ q_gd := q_wg (i := 38) (by decide +kernel) (by decide +kernel)
theorem w_39 : Cond.fieldLink "TreePasses$Scroll" 48 "TreePasses$Scroll" "stopped" "Z" ∈ q_gd := q_wg (i := 39) (by decide +kernel) (by decide +kernel)
theorem w_51 : Cond.arrayClass FieldType.char ∈ q_gd := q_wg (i := 51) (by decide +kernel) (by decide +kernel)
theorem w_52 : Cond.arrayClass FieldType.int ∈ q_gd := q_wg (i := 52) (by decide +kernel) (by decide +kernel)
theorem w_53 : Cond.classLink "TreePasses" 16 "TreePasses$Program" ∈ q_gd := q_wg (i := 53) (by decide +kernel) (by decide +kernel)
theorem w_54 : Cond.instantiable "TreePasses$Program" 7 ∈ q_gd := q_wg (i := 54) (by decide +kernel) (by decide +kernel)
theorem w_55 : Cond.methodLinkNest "TreePasses" 18 ⟨"TreePasses$Program", "<init>", "()V"⟩ "TreePasses" ∈ q_nst := q_wn (i := 55) (by decide +kernel) (by decide +kernel)
theorem w_56 : Cond.instanceMethod ⟨"TreePasses$Program", "<init>", "()V"⟩ ∈ q_gd := q_wg (i := 56) (by decide +kernel) (by decide +kernel)
theorem w_58 : Cond.methodLink "TreePasses$Program" 3 ⟨"java/lang/Object", "<init>", "()V"⟩ ∈ q_gd := q_wg (i := 58) (by decide +kernel) (by decide +kernel)
theorem w_59 : Cond.fieldLink "TreePasses$Program" 9 "TreePasses$Program" "letters" "[I" ∈ q_gd := q_wg (i := 59) (by decide +kernel) (by decide +kernel)
theorem w_60 : Cond.fieldLink "TreePasses$Program" 15 "TreePasses$Program" "sizes" "[I" ∈ q_gd := q_wg (i := 60) (by decide +kernel) (by decide +kernel)
theorem w_61 : Cond.fieldLink "TreePasses$Program" 18 "TreePasses$Program" "kinds" "[I" ∈ q_gd := q_wg (i := 61) (by decide +kernel) (by decide +kernel)
theorem w_62 : Cond.fieldLink "TreePasses$Program" 21 "TreePasses$Program" "entries" "[I" ∈ q_gd := q_wg (i := 62) (by decide +kernel) (by decide +kernel)
theorem w_63 : Cond.fieldLink "TreePasses$Program" 24 "TreePasses$Program" "rules" "[I" ∈ q_gd := q_wg (i := 63) (by decide +kernel) (by decide +kernel)
theorem w_64 : Cond.fieldLink "TreePasses$Program" 27 "TreePasses$Program" "chosen" "[I" ∈ q_gd := q_wg (i := 64) (by decide +kernel) (by decide +kernel)
theorem w_65 : Cond.fieldLink "TreePasses$Program" 36 "TreePasses$Program" "ruled" "I" ∈ q_gd := q_wg (i := 65) (by decide +kernel) (by decide +kernel)
theorem w_66 : Cond.fieldLinkNest "TreePasses" 100 "TreePasses$Program" "ruled" "I" "TreePasses" ∈ q_nst := q_wn (i := 66) (by decide +kernel) (by decide +kernel)
theorem w_67 : Cond.fieldLinkNest "TreePasses$Scroll" 72 "TreePasses$Program" "ruled" "I" "TreePasses" ∈ q_nst := q_wn (i := 67) (by decide +kernel) (by decide +kernel)
theorem w_83 : Cond.classLink "TreePasses" 26 "TreePasses$Shelf" ∈ q_gd := q_wg (i := 83) (by decide +kernel) (by decide +kernel)
theorem w_84 : Cond.instantiable "TreePasses$Shelf" 3 ∈ q_gd := q_wg (i := 84) (by decide +kernel) (by decide +kernel)
theorem w_85 : Cond.methodLink "TreePasses" 28 ⟨"TreePasses$Shelf", "<init>", "(I)V"⟩ ∈ q_gd := q_wg (i := 85) (by decide +kernel) (by decide +kernel)
theorem w_86 : Cond.instanceMethod ⟨"TreePasses$Shelf", "<init>", "(I)V"⟩ ∈ q_gd := q_wg (i := 86) (by decide +kernel) (by decide +kernel)
theorem w_88 : Cond.methodLink "TreePasses$Shelf" 1 ⟨"java/lang/Object", "<init>", "()V"⟩ ∈ q_gd := q_wg (i := 88) (by decide +kernel) (by decide +kernel)
theorem w_89 : Cond.methodLink "TreePasses$Shelf" 7 ⟨"java/lang/Math", "max", "(II)I"⟩ ∈ q_gd := q_wg (i := 89) (by decide +kernel) (by decide +kernel)
theorem w_90 : Cond.classLink "TreePasses$Shelf" 13 "TreePasses$Program" ∈ q_gd := q_wg (i := 90) (by decide +kernel) (by decide +kernel)
theorem w_92 : Cond.methodLinkNest "TreePasses$Shelf" 21 ⟨"TreePasses$Program", "<init>", "()V"⟩ "TreePasses" ∈ q_nst := q_wn (i := 92) (by decide +kernel) (by decide +kernel)
theorem w_93 : Cond.fieldLink "TreePasses$Shelf" 15 "TreePasses$Shelf" "programs" "[LTreePasses$Program;" ∈ q_gd := q_wg (i := 93) (by decide +kernel) (by decide +kernel)
theorem w_94 : Cond.fieldLink "TreePasses$Shelf" 30 "TreePasses$Shelf" "first" "I" ∈ q_gd := q_wg (i := 94) (by decide +kernel) (by decide +kernel)
theorem w_95 : Cond.fieldLink "TreePasses$Shelf" 22 "TreePasses$Shelf" "held" "I" ∈ q_gd := q_wg (i := 95) (by decide +kernel) (by decide +kernel)
theorem w_96 : Cond.fieldLinkNest "TreePasses" 195 "TreePasses$Shelf" "held" "I" "TreePasses" ∈ q_nst := q_wn (i := 96) (by decide +kernel) (by decide +kernel)
theorem w_104 : Cond.classLink "TreePasses" 38 "TreePasses$Standing" ∈ q_gd := q_wg (i := 104) (by decide +kernel) (by decide +kernel)
theorem w_105 : Cond.instantiable "TreePasses$Standing" 4 ∈ q_gd := q_wg (i := 105) (by decide +kernel) (by decide +kernel)
theorem w_106 : Cond.methodLinkNest "TreePasses" 40 ⟨"TreePasses$Standing", "<init>", "()V"⟩ "TreePasses" ∈ q_nst := q_wn (i := 106) (by decide +kernel) (by decide +kernel)
theorem w_107 : Cond.instanceMethod ⟨"TreePasses$Standing", "<init>", "()V"⟩ ∈ q_gd := q_wg (i := 107) (by decide +kernel) (by decide +kernel)
theorem w_109 : Cond.methodLinkNest "TreePasses$Standing" 3 ⟨"TreePasses$Ground", "<init>", "()V"⟩ "TreePasses" ∈ q_nst := q_wn (i := 109) (by decide +kernel) (by decide +kernel)
theorem w_110 : Cond.instanceMethod ⟨"TreePasses$Ground", "<init>", "()V"⟩ ∈ q_gd := q_wg (i := 110) (by decide +kernel) (by decide +kernel)
theorem w_112 : Cond.methodLink "TreePasses$Ground" 1 ⟨"java/lang/Object", "<init>", "()V"⟩ ∈ q_gd := q_wg (i := 112) (by decide +kernel) (by decide +kernel)
theorem w_113 : Cond.fieldLink "TreePasses$Standing" 9 "TreePasses$Standing" "letters" "[I" ∈ q_gd := q_wg (i := 113) (by decide +kernel) (by decide +kernel)
theorem w_114 : Cond.fieldLink "TreePasses$Standing" 15 "TreePasses$Standing" "spans" "[I" ∈ q_gd := q_wg (i := 114) (by decide +kernel) (by decide +kernel)
theorem w_115 : Cond.fieldLink "TreePasses$Standing" 18 "TreePasses$Standing" "values" "[I" ∈ q_gd := q_wg (i := 115) (by decide +kernel) (by decide +kernel)
theorem w_116 : Cond.fieldLink "TreePasses$Standing" 33 "TreePasses$Standing" "nodes" "I" ∈ q_gd := q_wg (i := 116) (by decide +kernel) (by decide +kernel)
theorem w_126 : Cond.classLink "TreePasses" 48 "TreePasses$Unmade" ∈ q_gd := q_wg (i := 126) (by decide +kernel) (by decide +kernel)
theorem w_127 : Cond.instantiable "TreePasses$Unmade" 1 ∈ q_gd := q_wg (i := 127) (by decide +kernel) (by decide +kernel)
theorem w_128 : Cond.methodLinkNest "TreePasses" 50 ⟨"TreePasses$Unmade", "<init>", "()V"⟩ "TreePasses" ∈ q_nst := q_wn (i := 128) (by decide +kernel) (by decide +kernel)
theorem w_129 : Cond.instanceMethod ⟨"TreePasses$Unmade", "<init>", "()V"⟩ ∈ q_gd := q_wg (i := 129) (by decide +kernel) (by decide +kernel)
theorem w_131 : Cond.methodLinkNest "TreePasses$Unmade" 3 ⟨"TreePasses$Ground", "<init>", "()V"⟩ "TreePasses" ∈ q_nst := q_wn (i := 131) (by decide +kernel) (by decide +kernel)
theorem w_132 : Cond.classLink "TreePasses$Unmade" 9 "TreePasses$Standing" ∈ q_gd := q_wg (i := 132) (by decide +kernel) (by decide +kernel)
theorem w_133 : Cond.methodLinkNest "TreePasses$Unmade" 11 ⟨"TreePasses$Standing", "<init>", "()V"⟩ "TreePasses" ∈ q_nst := q_wn (i := 133) (by decide +kernel) (by decide +kernel)
theorem w_134 : Cond.fieldLink "TreePasses$Unmade" 12 "TreePasses$Unmade" "tree" "LTreePasses$Standing;" ∈ q_gd := q_wg (i := 134) (by decide +kernel) (by decide +kernel)
theorem w_138 : Cond.classLink "TreePasses" 55 "TreePasses$Walk" ∈ q_gd := q_wg (i := 138) (by decide +kernel) (by decide +kernel)
theorem w_139 : Cond.instantiable "TreePasses$Walk" 7 ∈ q_gd := q_wg (i := 139) (by decide +kernel) (by decide +kernel)
theorem w_140 : Cond.methodLinkNest "TreePasses" 57 ⟨"TreePasses$Walk", "<init>", "()V"⟩ "TreePasses" ∈ q_nst := q_wn (i := 140) (by decide +kernel) (by decide +kernel)
theorem w_141 : Cond.instanceMethod ⟨"TreePasses$Walk", "<init>", "()V"⟩ ∈ q_gd := q_wg (i := 141) (by decide +kernel) (by decide +kernel)
theorem w_143 : Cond.methodLink "TreePasses$Walk" 3 ⟨"java/lang/Object", "<init>", "()V"⟩ ∈ q_gd := q_wg (i := 143) (by decide +kernel) (by decide +kernel)
theorem w_144 : Cond.fieldLink "TreePasses$Walk" 9 "TreePasses$Walk" "output" "[I" ∈ q_gd := q_wg (i := 144) (by decide +kernel) (by decide +kernel)
theorem w_145 : Cond.fieldLinkNest "TreePasses" 208 "TreePasses$Walk" "output" "[I" "TreePasses" ∈ q_nst := q_wn (i := 145) (by decide +kernel) (by decide +kernel)
theorem w_146 : Cond.fieldLink "TreePasses$Walk" 15 "TreePasses$Walk" "comings" "[I" ∈ q_gd := q_wg (i := 146) (by decide +kernel) (by decide +kernel)
theorem w_147 : Cond.fieldLink "TreePasses$Walk" 18 "TreePasses$Walk" "places" "[I" ∈ q_gd := q_wg (i := 147) (by decide +kernel) (by decide +kernel)
theorem w_148 : Cond.fieldLink "TreePasses$Walk" 21 "TreePasses$Walk" "rules" "[I" ∈ q_gd := q_wg (i := 148) (by decide +kernel) (by decide +kernel)
theorem w_149 : Cond.fieldLink "TreePasses$Walk" 24 "TreePasses$Walk" "nexts" "[I" ∈ q_gd := q_wg (i := 149) (by decide +kernel) (by decide +kernel)
theorem w_150 : Cond.fieldLink "TreePasses$Walk" 33 "TreePasses$Walk" "made" "I" ∈ q_gd := q_wg (i := 150) (by decide +kernel) (by decide +kernel)
theorem w_151 : Cond.fieldLinkNest "TreePasses" 211 "TreePasses$Walk" "made" "I" "TreePasses" ∈ q_nst := q_wn (i := 151) (by decide +kernel) (by decide +kernel)
theorem w_152 : Cond.fieldLink "TreePasses$Walk" 37 "TreePasses$Walk" "depth" "I" ∈ q_gd := q_wg (i := 152) (by decide +kernel) (by decide +kernel)
theorem w_168 : Cond.classLink "TreePasses" 62 "TreePasses$Census" ∈ q_gd := q_wg (i := 168) (by decide +kernel) (by decide +kernel)
theorem w_169 : Cond.instantiable "TreePasses$Census" 15 ∈ q_gd := q_wg (i := 169) (by decide +kernel) (by decide +kernel)
theorem w_170 : Cond.methodLink "TreePasses" 64 ⟨"TreePasses$Census", "<init>", "(I)V"⟩ ∈ q_gd := q_wg (i := 170) (by decide +kernel) (by decide +kernel)
theorem w_171 : Cond.instanceMethod ⟨"TreePasses$Census", "<init>", "(I)V"⟩ ∈ q_gd := q_wg (i := 171) (by decide +kernel) (by decide +kernel)
theorem w_173 : Cond.methodLink "TreePasses$Census" 3 ⟨"java/lang/Object", "<init>", "()V"⟩ ∈ q_gd := q_wg (i := 173) (by decide +kernel) (by decide +kernel)
theorem w_174 : Cond.fieldLink "TreePasses$Census" 50 "TreePasses$Census" "pass" "I" ∈ q_gd := q_wg (i := 174) (by decide +kernel) (by decide +kernel)
theorem w_175 : Cond.fieldLink "TreePasses$Census" 9 "TreePasses$Census" "heads" "[I" ∈ q_gd := q_wg (i := 175) (by decide +kernel) (by decide +kernel)
theorem w_176 : Cond.fieldLink "TreePasses$Census" 15 "TreePasses$Census" "lefts" "[I" ∈ q_gd := q_wg (i := 176) (by decide +kernel) (by decide +kernel)
theorem w_177 : Cond.fieldLink "TreePasses$Census" 18 "TreePasses$Census" "rights" "[I" ∈ q_gd := q_wg (i := 177) (by decide +kernel) (by decide +kernel)
theorem w_178 : Cond.fieldLink "TreePasses$Census" 21 "TreePasses$Census" "sizes" "[I" ∈ q_gd := q_wg (i := 178) (by decide +kernel) (by decide +kernel)
theorem w_179 : Cond.fieldLink "TreePasses$Census" 24 "TreePasses$Census" "order" "[I" ∈ q_gd := q_wg (i := 179) (by decide +kernel) (by decide +kernel)
theorem w_180 : Cond.fieldLink "TreePasses$Census" 27 "TreePasses$Census" "settled" "[Z" ∈ q_gd := q_wg (i := 180) (by decide +kernel) (by decide +kernel)
theorem w_181 : Cond.fieldLink "TreePasses$Census" 31 "TreePasses$Census" "ones" "[I" ∈ q_gd := q_wg (i := 181) (by decide +kernel) (by decide +kernel)
theorem w_182 : Cond.fieldLink "TreePasses$Census" 34 "TreePasses$Census" "lacks" "[I" ∈ q_gd := q_wg (i := 182) (by decide +kernel) (by decide +kernel)
theorem w_183 : Cond.fieldLink "TreePasses$Census" 37 "TreePasses$Census" "taken" "[I" ∈ q_gd := q_wg (i := 183) (by decide +kernel) (by decide +kernel)
theorem w_184 : Cond.fieldLink "TreePasses$Census" 40 "TreePasses$Census" "calls" "[I" ∈ q_gd := q_wg (i := 184) (by decide +kernel) (by decide +kernel)
theorem w_185 : Cond.fieldLink "TreePasses$Census" 43 "TreePasses$Census" "types" "[J" ∈ q_gd := q_wg (i := 185) (by decide +kernel) (by decide +kernel)
theorem w_186 : Cond.fieldLink "TreePasses$Census" 47 "TreePasses$Census" "stack" "[J" ∈ q_gd := q_wg (i := 186) (by decide +kernel) (by decide +kernel)
theorem w_187 : Cond.fieldLink "TreePasses$Census" 78 "TreePasses$Census" "met" "I" ∈ q_gd := q_wg (i := 187) (by decide +kernel) (by decide +kernel)
theorem w_188 : Cond.fieldLinkNest "TreePasses" 235 "TreePasses$Census" "met" "I" "TreePasses" ∈ q_nst := q_wn (i := 188) (by decide +kernel) (by decide +kernel)
theorem w_189 : Cond.fieldLink "TreePasses$Census" 54 "TreePasses$Census" "fresh" "Z" ∈ q_gd := q_wg (i := 189) (by decide +kernel) (by decide +kernel)
theorem w_221 : Cond.arrayClass FieldType.boolean ∈ q_gd := q_wg (i := 221) (by decide +kernel) (by decide +kernel)
theorem w_222 : Cond.arrayClass FieldType.long ∈ q_gd := q_wg (i := 222) (by decide +kernel) (by decide +kernel)
theorem w_224 : Cond.methodLink "TreePasses" 78 ⟨"java/lang/String", "length", "()I"⟩ ∈ q_gd := q_wg (i := 224) (by decide +kernel) (by decide +kernel)
theorem w_225 : Cond.instanceMethod ⟨"java/lang/String", "length", "()I"⟩ ∈ q_gd := q_wg (i := 225) (by decide +kernel) (by decide +kernel)
theorem w_226 : Cond.selects "java/lang/String" ⟨"java/lang/String", "length", "()I"⟩ ⟨"java/lang/String", "length", "()I"⟩ ∈ q_gd := q_wg (i := 226) (by decide +kernel) (by decide +kernel)
theorem w_228 : Cond.methodLink "java/lang/String" 335 ⟨"java/lang/String", "coder", "()B"⟩ ∈ q_gd := q_wg (i := 228) (by decide +kernel) (by decide +kernel)
theorem w_229 : Cond.instanceMethod ⟨"java/lang/String", "coder", "()B"⟩ ∈ q_gd := q_wg (i := 229) (by decide +kernel) (by decide +kernel)
theorem w_230 : Cond.selects "java/lang/String" ⟨"java/lang/String", "coder", "()B"⟩ ⟨"java/lang/String", "coder", "()B"⟩ ∈ q_gd := q_wg (i := 230) (by decide +kernel) (by decide +kernel)
theorem w_232 : Cond.fieldLink "java/lang/String" 38 "java/lang/String" "COMPACT_STRINGS" "Z" ∈ q_gd := q_wg (i := 232) (by decide +kernel) (by decide +kernel)
theorem w_234 : Cond.methodLink "TreePasses" 84 ⟨"java/lang/String", "charAt", "(I)C"⟩ ∈ q_gd := q_wg (i := 234) (by decide +kernel) (by decide +kernel)
theorem w_235 : Cond.instanceMethod ⟨"java/lang/String", "charAt", "(I)C"⟩ ∈ q_gd := q_wg (i := 235) (by decide +kernel) (by decide +kernel)
theorem w_236 : Cond.selects "java/lang/String" ⟨"java/lang/String", "charAt", "(I)C"⟩ ⟨"java/lang/String", "charAt", "(I)C"⟩ ∈ q_gd := q_wg (i := 236) (by decide +kernel) (by decide +kernel)
theorem w_238 : Cond.methodLink "java/lang/String" 492 ⟨"java/lang/String", "isLatin1", "()Z"⟩ ∈ q_gd := q_wg (i := 238) (by decide +kernel) (by decide +kernel)
theorem w_239 : Cond.instanceMethod ⟨"java/lang/String", "isLatin1", "()Z"⟩ ∈ q_gd := q_wg (i := 239) (by decide +kernel) (by decide +kernel)
theorem w_240 : Cond.selects "java/lang/String" ⟨"java/lang/String", "isLatin1", "()Z"⟩ ⟨"java/lang/String", "isLatin1", "()Z"⟩ ∈ q_gd := q_wg (i := 240) (by decide +kernel) (by decide +kernel)
theorem w_242 : Cond.methodLink "java/lang/String" 495 ⟨"java/lang/StringLatin1", "charAt", "([BI)C"⟩ ∈ q_gd := q_wg (i := 242) (by decide +kernel) (by decide +kernel)
theorem w_243 : Cond.static ⟨"java/lang/StringLatin1", "charAt", "([BI)C"⟩ ∈ q_gd := q_wg (i := 243) (by decide +kernel) (by decide +kernel)
theorem w_245 : Cond.methodLink "java/lang/StringLatin1" 9 ⟨"java/lang/String", "checkIndex", "(II)V"⟩ ∈ q_gd := q_wg (i := 245) (by decide +kernel) (by decide +kernel)
theorem w_246 : Cond.static ⟨"java/lang/String", "checkIndex", "(II)V"⟩ ∈ q_gd := q_wg (i := 246) (by decide +kernel) (by decide +kernel)
theorem w_248 : Cond.fieldLink "java/lang/String" 1053 "jdk/internal/util/Preconditions" "SIOOBE_FORMATTER" "Ljava/util/function/BiFunction;" ∈ q_gd := q_wg (i := 248) (by decide +kernel) (by decide +kernel)
theorem w_250 : Cond.methodLink "java/lang/String" 1059 ⟨"jdk/internal/util/Preconditions", "checkIndex", "(IILjava/util/function/BiFunction;)I"⟩ ∈ q_gd := q_wg (i := 250) (by decide +kernel) (by decide +kernel)
theorem w_251 : Cond.static ⟨"jdk/internal/util/Preconditions", "checkIndex", "(IILjava/util/function/BiFunction;)I"⟩ ∈ q_gd := q_wg (i := 251) (by decide +kernel) (by decide +kernel)
theorem w_272 : Cond.methodLink "TreePasses" 88 ⟨"TreePasses$Scroll", "add", "(I)Z"⟩ ∈ q_gd := q_wg (i := 272) (by decide +kernel) (by decide +kernel)
theorem w_273 : Cond.instanceMethod ⟨"TreePasses$Scroll", "add", "(I)Z"⟩ ∈ q_gd := q_wg (i := 273) (by decide +kernel) (by decide +kernel)
theorem w_274 : Cond.selects "TreePasses$Scroll" ⟨"TreePasses$Scroll", "add", "(I)Z"⟩ ⟨"TreePasses$Scroll", "add", "(I)Z"⟩ ∈ q_gd := q_wg (i := 274) (by decide +kernel) (by decide +kernel)
theorem w_276 : Cond.methodLink "TreePasses" 92 ⟨"TreePasses$Scroll", "readProgram", "(LTreePasses$Program;)I"⟩ ∈ q_gd := q_wg (i := 276) (by decide +kernel) (by decide +kernel)
theorem w_277 : Cond.instanceMethod ⟨"TreePasses$Scroll", "readProgram", "(LTreePasses$Program;)I"⟩ ∈ q_gd := q_wg (i := 277) (by decide +kernel) (by decide +kernel)
theorem w_278 : Cond.selects "TreePasses$Scroll" ⟨"TreePasses$Scroll", "readProgram", "(LTreePasses$Program;)I"⟩ ⟨"TreePasses$Scroll", "readProgram", "(LTreePasses$Program;)I"⟩ ∈ q_gd := q_wg (i := 278) (by decide +kernel) (by decide +kernel)
theorem w_280 : Cond.methodLink "TreePasses$Scroll" 29 ⟨"TreePasses$Program", "clear", "()V"⟩ ∈ q_gd := q_wg (i := 280) (by decide +kernel) (by decide +kernel)
theorem w_281 : Cond.instanceMethod ⟨"TreePasses$Program", "clear", "()V"⟩ ∈ q_gd := q_wg (i := 281) (by decide +kernel) (by decide +kernel)
theorem w_282 : Cond.selects "TreePasses$Program" ⟨"TreePasses$Program", "clear", "()V"⟩ ⟨"TreePasses$Program", "clear", "()V"⟩ ∈ q_gd := q_wg (i := 282) (by decide +kernel) (by decide +kernel)
theorem w_284 : Cond.methodLink "TreePasses$Program" 30 ⟨"java/util/Arrays", "fill", "([II)V"⟩ ∈ q_gd := q_wg (i := 284) (by decide +kernel) (by decide +kernel)
theorem w_285 : Cond.static ⟨"java/util/Arrays", "fill", "([II)V"⟩ ∈ q_gd := q_wg (i := 285) (by decide +kernel) (by decide +kernel)
theorem w_287 : Cond.methodLink "TreePasses$Scroll" 34 ⟨"TreePasses$Scroll", "begin", "()V"⟩ ∈ q_gd := q_wg (i := 287) (by decide +kernel) (by decide +kernel)
theorem w_289 : Cond.instanceMethod ⟨"TreePasses$Scroll", "begin", "()V"⟩ ∈ q_gd := q_wg (i := 289) (by decide +kernel) (by decide +kernel)
theorem w_291 : Cond.methodLink "TreePasses$Scroll" 40 ⟨"TreePasses$Scroll", "readItem", "(LTreePasses$Program;)V"⟩ ∈ q_gd := q_wg (i := 291) (by decide +kernel) (by decide +kernel)
theorem w_293 : Cond.instanceMethod ⟨"TreePasses$Scroll", "readItem", "(LTreePasses$Program;)V"⟩ ∈ q_gd := q_wg (i := 293) (by decide +kernel) (by decide +kernel)
theorem w_295 : Cond.methodLink "TreePasses$Scroll" 59 ⟨"TreePasses$Scroll", "next", "()I"⟩ ∈ q_gd := q_wg (i := 295) (by decide +kernel) (by decide +kernel)
theorem w_297 : Cond.instanceMethod ⟨"TreePasses$Scroll", "next", "()I"⟩ ∈ q_gd := q_wg (i := 297) (by decide +kernel) (by decide +kernel)
theorem w_299 : Cond.methodLink "TreePasses$Scroll" 63 ⟨"TreePasses$Scroll", "readTree", "(LTreePasses$Program;)V"⟩ ∈ q_gd := q_wg (i := 299) (by decide +kernel) (by decide +kernel)
theorem w_301 : Cond.instanceMethod ⟨"TreePasses$Scroll", "readTree", "(LTreePasses$Program;)V"⟩ ∈ q_gd := q_wg (i := 301) (by decide +kernel) (by decide +kernel)
theorem w_303 : Cond.methodLink "TreePasses$Scroll" 79 ⟨"TreePasses$Scroll", "figure", "(I)I"⟩ ∈ q_gd := q_wg (i := 303) (by decide +kernel) (by decide +kernel)
theorem w_305 : Cond.instanceMethod ⟨"TreePasses$Scroll", "figure", "(I)I"⟩ ∈ q_gd := q_wg (i := 305) (by decide +kernel) (by decide +kernel)
theorem w_307 : Cond.methodLinkNest "TreePasses$Scroll" 114 ⟨"TreePasses", "within", "(II)Z"⟩ "TreePasses" ∈ q_nst := q_wn (i := 307) (by decide +kernel) (by decide +kernel)
theorem w_308 : Cond.static ⟨"TreePasses", "within", "(II)Z"⟩ ∈ q_gd := q_wg (i := 308) (by decide +kernel) (by decide +kernel)
theorem w_310 : Cond.methodLink "TreePasses$Scroll" 44 ⟨"TreePasses$Scroll", "expect", "(C)V"⟩ ∈ q_gd := q_wg (i := 310) (by decide +kernel) (by decide +kernel)
theorem w_312 : Cond.instanceMethod ⟨"TreePasses$Scroll", "expect", "(C)V"⟩ ∈ q_gd := q_wg (i := 312) (by decide +kernel) (by decide +kernel)
theorem w_314 : Cond.methodLink "TreePasses$Scroll" 83 ⟨"TreePasses$Scroll", "readRow", "([IIII)I"⟩ ∈ q_gd := q_wg (i := 314) (by decide +kernel) (by decide +kernel)
theorem w_316 : Cond.instanceMethod ⟨"TreePasses$Scroll", "readRow", "([IIII)I"⟩ ∈ q_gd := q_wg (i := 316) (by decide +kernel) (by decide +kernel)
theorem w_318 : Cond.methodLink "TreePasses$Scroll" 108 ⟨"TreePasses$Scroll", "readPiece", "(II)I"⟩ ∈ q_gd := q_wg (i := 318) (by decide +kernel) (by decide +kernel)
theorem w_320 : Cond.instanceMethod ⟨"TreePasses$Scroll", "readPiece", "(II)I"⟩ ∈ q_gd := q_wg (i := 320) (by decide +kernel) (by decide +kernel)
theorem w_322 : Cond.methodLinkNest "TreePasses$Scroll" 98 ⟨"TreePasses", "childrenOf", "(I)I"⟩ "TreePasses" ∈ q_nst := q_wn (i := 322) (by decide +kernel) (by decide +kernel)
theorem w_323 : Cond.static ⟨"TreePasses", "childrenOf", "(I)I"⟩ ∈ q_gd := q_wg (i := 323) (by decide +kernel) (by decide +kernel)
theorem w_325 : Cond.fieldLink "TreePasses" 249 "TreePasses" "CHILDREN" "[I" ∈ q_gd := q_wg (i := 325) (by decide +kernel) (by decide +kernel)
theorem w_327 : Cond.methodLink "TreePasses$Scroll" 111 ⟨"TreePasses$Scroll", "callSign", "(I)I"⟩ ∈ q_gd := q_wg (i := 327) (by decide +kernel) (by decide +kernel)
theorem w_329 : Cond.instanceMethod ⟨"TreePasses$Scroll", "callSign", "(I)I"⟩ ∈ q_gd := q_wg (i := 329) (by decide +kernel) (by decide +kernel)
theorem w_331 : Cond.methodLink "TreePasses$Scroll" 87 ⟨"TreePasses$Program", "setTree", "(I[II)V"⟩ ∈ q_gd := q_wg (i := 331) (by decide +kernel) (by decide +kernel)
theorem w_332 : Cond.instanceMethod ⟨"TreePasses$Program", "setTree", "(I[II)V"⟩ ∈ q_gd := q_wg (i := 332) (by decide +kernel) (by decide +kernel)
theorem w_333 : Cond.selects "TreePasses$Program" ⟨"TreePasses$Program", "setTree", "(I[II)V"⟩ ⟨"TreePasses$Program", "setTree", "(I[II)V"⟩ ∈ q_gd := q_wg (i := 333) (by decide +kernel) (by decide +kernel)
theorem w_335 : Cond.methodLinkNest "TreePasses$Program" 46 ⟨"TreePasses", "within", "(II)Z"⟩ "TreePasses" ∈ q_nst := q_wn (i := 335) (by decide +kernel) (by decide +kernel)
theorem w_336 : Cond.methodLink "TreePasses$Program" 40 ⟨"java/lang/System", "arraycopy", "(Ljava/lang/Object;ILjava/lang/Object;II)V"⟩ ∈ q_gd := q_wg (i := 336) (by decide +kernel) (by decide +kernel)
theorem w_339 : Cond.methodLink "TreePasses$Scroll" 66 ⟨"TreePasses$Scroll", "readKind", "(LTreePasses$Program;)V"⟩ ∈ q_gd := q_wg (i := 339) (by decide +kernel) (by decide +kernel)
theorem w_341 : Cond.instanceMethod ⟨"TreePasses$Scroll", "readKind", "(LTreePasses$Program;)V"⟩ ∈ q_gd := q_wg (i := 341) (by decide +kernel) (by decide +kernel)
theorem w_343 : Cond.methodLink "TreePasses$Scroll" 91 ⟨"TreePasses$Program", "setKind", "(II)V"⟩ ∈ q_gd := q_wg (i := 343) (by decide +kernel) (by decide +kernel)
theorem w_344 : Cond.instanceMethod ⟨"TreePasses$Program", "setKind", "(II)V"⟩ ∈ q_gd := q_wg (i := 344) (by decide +kernel) (by decide +kernel)
theorem w_345 : Cond.selects "TreePasses$Program" ⟨"TreePasses$Program", "setKind", "(II)V"⟩ ⟨"TreePasses$Program", "setKind", "(II)V"⟩ ∈ q_gd := q_wg (i := 345) (by decide +kernel) (by decide +kernel)
theorem w_347 : Cond.methodLink "TreePasses$Scroll" 69 ⟨"TreePasses$Scroll", "readEntries", "(LTreePasses$Program;)V"⟩ ∈ q_gd := q_wg (i := 347) (by decide +kernel) (by decide +kernel)
theorem w_349 : Cond.instanceMethod ⟨"TreePasses$Scroll", "readEntries", "(LTreePasses$Program;)V"⟩ ∈ q_gd := q_wg (i := 349) (by decide +kernel) (by decide +kernel)
theorem w_351 : Cond.methodLink "TreePasses$Scroll" 95 ⟨"TreePasses$Scroll", "letter", "()I"⟩ ∈ q_gd := q_wg (i := 351) (by decide +kernel) (by decide +kernel)
theorem w_353 : Cond.instanceMethod ⟨"TreePasses$Scroll", "letter", "()I"⟩ ∈ q_gd := q_wg (i := 353) (by decide +kernel) (by decide +kernel)
theorem w_355 : Cond.methodLink "TreePasses$Scroll" 101 ⟨"TreePasses$Program", "setEntry", "(IIII)V"⟩ ∈ q_gd := q_wg (i := 355) (by decide +kernel) (by decide +kernel)
theorem w_356 : Cond.instanceMethod ⟨"TreePasses$Program", "setEntry", "(IIII)V"⟩ ∈ q_gd := q_wg (i := 356) (by decide +kernel) (by decide +kernel)
theorem w_357 : Cond.selects "TreePasses$Program" ⟨"TreePasses$Program", "setEntry", "(IIII)V"⟩ ⟨"TreePasses$Program", "setEntry", "(IIII)V"⟩ ∈ q_gd := q_wg (i := 357) (by decide +kernel) (by decide +kernel)
theorem w_359 : Cond.methodLinkNest "TreePasses$Program" 53 ⟨"TreePasses", "hasEntry", "(III)Z"⟩ "TreePasses" ∈ q_nst := q_wn (i := 359) (by decide +kernel) (by decide +kernel)
theorem w_360 : Cond.static ⟨"TreePasses", "hasEntry", "(III)Z"⟩ ∈ q_gd := q_wg (i := 360) (by decide +kernel) (by decide +kernel)
theorem w_362 : Cond.methodLink "TreePasses" 112 ⟨"TreePasses", "within", "(II)Z"⟩ ∈ q_gd := q_wg (i := 362) (by decide +kernel) (by decide +kernel)
theorem w_363 : Cond.methodLink "TreePasses" 177 ⟨"TreePasses", "childrenOf", "(I)I"⟩ ∈ q_gd := q_wg (i := 363) (by decide +kernel) (by decide +kernel)
theorem w_364 : Cond.methodLink "TreePasses$Scroll" 55 ⟨"TreePasses$Scroll", "readRule", "([I)V"⟩ ∈ q_gd := q_wg (i := 364) (by decide +kernel) (by decide +kernel)
theorem w_366 : Cond.instanceMethod ⟨"TreePasses$Scroll", "readRule", "([I)V"⟩ ∈ q_gd := q_wg (i := 366) (by decide +kernel) (by decide +kernel)
theorem w_368 : Cond.methodLink "TreePasses$Scroll" 105 ⟨"TreePasses$Scroll", "sight", "()I"⟩ ∈ q_gd := q_wg (i := 368) (by decide +kernel) (by decide +kernel)
theorem w_370 : Cond.instanceMethod ⟨"TreePasses$Scroll", "sight", "()I"⟩ ∈ q_gd := q_wg (i := 370) (by decide +kernel) (by decide +kernel)
theorem w_372 : Cond.methodLink "TreePasses$Scroll" 75 ⟨"TreePasses$Program", "setRule", "(I[I)V"⟩ ∈ q_gd := q_wg (i := 372) (by decide +kernel) (by decide +kernel)
theorem w_373 : Cond.instanceMethod ⟨"TreePasses$Program", "setRule", "(I[I)V"⟩ ∈ q_gd := q_wg (i := 373) (by decide +kernel) (by decide +kernel)
theorem w_374 : Cond.selects "TreePasses$Program" ⟨"TreePasses$Program", "setRule", "(I[I)V"⟩ ⟨"TreePasses$Program", "setRule", "(I[I)V"⟩ ∈ q_gd := q_wg (i := 374) (by decide +kernel) (by decide +kernel)
theorem w_376 : Cond.methodLink "TreePasses$Scroll" 52 ⟨"TreePasses$Program", "choose", "()V"⟩ ∈ q_gd := q_wg (i := 376) (by decide +kernel) (by decide +kernel)
theorem w_377 : Cond.instanceMethod ⟨"TreePasses$Program", "choose", "()V"⟩ ∈ q_gd := q_wg (i := 377) (by decide +kernel) (by decide +kernel)
theorem w_378 : Cond.selects "TreePasses$Program" ⟨"TreePasses$Program", "choose", "()V"⟩ ⟨"TreePasses$Program", "choose", "()V"⟩ ∈ q_gd := q_wg (i := 378) (by decide +kernel) (by decide +kernel)
theorem w_380 : Cond.methodLink "TreePasses$Program" 57 ⟨"TreePasses$Program", "cell", "(II)I"⟩ ∈ q_gd := q_wg (i := 380) (by decide +kernel) (by decide +kernel)
theorem w_381 : Cond.instanceMethod ⟨"TreePasses$Program", "cell", "(II)I"⟩ ∈ q_gd := q_wg (i := 381) (by decide +kernel) (by decide +kernel)
theorem w_382 : Cond.selects "TreePasses$Program" ⟨"TreePasses$Program", "cell", "(II)I"⟩ ⟨"TreePasses$Program", "cell", "(II)I"⟩ ∈ q_gd := q_wg (i := 382) (by decide +kernel) (by decide +kernel)
theorem w_384 : Cond.methodLink "TreePasses$Program" 65 ⟨"TreePasses$Program", "offerRule", "(II)V"⟩ ∈ q_gd := q_wg (i := 384) (by decide +kernel) (by decide +kernel)
theorem w_386 : Cond.instanceMethod ⟨"TreePasses$Program", "offerRule", "(II)V"⟩ ∈ q_gd := q_wg (i := 386) (by decide +kernel) (by decide +kernel)
theorem w_388 : Cond.methodLink "TreePasses$Program" 69 ⟨"TreePasses$Program", "choiceAt", "(IIII)I"⟩ ∈ q_gd := q_wg (i := 388) (by decide +kernel) (by decide +kernel)
theorem w_389 : Cond.static ⟨"TreePasses$Program", "choiceAt", "(IIII)I"⟩ ∈ q_gd := q_wg (i := 389) (by decide +kernel) (by decide +kernel)
theorem w_391 : Cond.methodLink "TreePasses$Program" 73 ⟨"TreePasses$Program", "kindOf", "(I)I"⟩ ∈ q_gd := q_wg (i := 391) (by decide +kernel) (by decide +kernel)
theorem w_392 : Cond.instanceMethod ⟨"TreePasses$Program", "kindOf", "(I)I"⟩ ∈ q_gd := q_wg (i := 392) (by decide +kernel) (by decide +kernel)
theorem w_393 : Cond.selects "TreePasses$Program" ⟨"TreePasses$Program", "kindOf", "(I)I"⟩ ⟨"TreePasses$Program", "kindOf", "(I)I"⟩ ∈ q_gd := q_wg (i := 393) (by decide +kernel) (by decide +kernel)
theorem w_395 : Cond.methodLink "TreePasses" 96 ⟨"TreePasses$Scroll", "clear", "()V"⟩ ∈ q_gd := q_wg (i := 395) (by decide +kernel) (by decide +kernel)
theorem w_396 : Cond.instanceMethod ⟨"TreePasses$Scroll", "clear", "()V"⟩ ∈ q_gd := q_wg (i := 396) (by decide +kernel) (by decide +kernel)
theorem w_397 : Cond.selects "TreePasses$Scroll" ⟨"TreePasses$Scroll", "clear", "()V"⟩ ⟨"TreePasses$Scroll", "clear", "()V"⟩ ∈ q_gd := q_wg (i := 397) (by decide +kernel) (by decide +kernel)
theorem w_399 : Cond.fieldLink "TreePasses" 12 "TreePasses" "scroll" "LTreePasses$Scroll;" ∈ q_gd := q_wg (i := 399) (by decide +kernel) (by decide +kernel)
theorem w_400 : Cond.fieldLink "TreePasses" 19 "TreePasses" "now" "LTreePasses$Program;" ∈ q_gd := q_wg (i := 400) (by decide +kernel) (by decide +kernel)
theorem w_401 : Cond.fieldLink "TreePasses" 23 "TreePasses" "draft" "LTreePasses$Program;" ∈ q_gd := q_wg (i := 401) (by decide +kernel) (by decide +kernel)
theorem w_402 : Cond.fieldLink "TreePasses" 31 "TreePasses" "past" "LTreePasses$Shelf;" ∈ q_gd := q_wg (i := 402) (by decide +kernel) (by decide +kernel)
theorem w_403 : Cond.fieldLink "TreePasses" 35 "TreePasses" "kept" "LTreePasses$Shelf;" ∈ q_gd := q_wg (i := 403) (by decide +kernel) (by decide +kernel)
theorem w_404 : Cond.fieldLink "TreePasses" 41 "TreePasses" "ground" "LTreePasses$Standing;" ∈ q_gd := q_wg (i := 404) (by decide +kernel) (by decide +kernel)
theorem w_405 : Cond.fieldLink "TreePasses" 45 "TreePasses" "between" "LTreePasses$Standing;" ∈ q_gd := q_wg (i := 405) (by decide +kernel) (by decide +kernel)
theorem w_406 : Cond.fieldLink "TreePasses" 51 "TreePasses" "unmade" "LTreePasses$Unmade;" ∈ q_gd := q_wg (i := 406) (by decide +kernel) (by decide +kernel)
theorem w_407 : Cond.fieldLink "TreePasses" 58 "TreePasses" "walk" "LTreePasses$Walk;" ∈ q_gd := q_wg (i := 407) (by decide +kernel) (by decide +kernel)
theorem w_408 : Cond.fieldLink "TreePasses" 65 "TreePasses" "firstCensus" "LTreePasses$Census;" ∈ q_gd := q_wg (i := 408) (by decide +kernel) (by decide +kernel)
theorem w_409 : Cond.fieldLink "TreePasses" 69 "TreePasses" "secondCensus" "LTreePasses$Census;" ∈ q_gd := q_wg (i := 409) (by decide +kernel) (by decide +kernel)
theorem w_410 : Cond.fieldLink "TreePasses" 72 "TreePasses" "row" "[I" ∈ q_gd := q_wg (i := 410) (by decide +kernel) (by decide +kernel)
theorem w_437 : Cond.methodLink "TreePassesLaw" 13 ⟨"TreePasses", "write", "(I)I"⟩ ∈ q_gd := q_wg (i := 437) (by decide +kernel) (by decide +kernel)
theorem w_438 : Cond.instanceMethod ⟨"TreePasses", "write", "(I)I"⟩ ∈ q_gd := q_wg (i := 438) (by decide +kernel) (by decide +kernel)
theorem w_439 : Cond.selects "TreePasses" ⟨"TreePasses", "write", "(I)I"⟩ ⟨"TreePasses", "write", "(I)I"⟩ ∈ q_gd := q_wg (i := 439) (by decide +kernel) (by decide +kernel)
theorem w_441 : Cond.methodLink "TreePasses" 99 ⟨"TreePasses$Scroll", "length", "()I"⟩ ∈ q_gd := q_wg (i := 441) (by decide +kernel) (by decide +kernel)
theorem w_442 : Cond.instanceMethod ⟨"TreePasses$Scroll", "length", "()I"⟩ ∈ q_gd := q_wg (i := 442) (by decide +kernel) (by decide +kernel)
theorem w_443 : Cond.selects "TreePasses$Scroll" ⟨"TreePasses$Scroll", "length", "()I"⟩ ⟨"TreePasses$Scroll", "length", "()I"⟩ ∈ q_gd := q_wg (i := 443) (by decide +kernel) (by decide +kernel)
theorem w_445 : Cond.methodLink "TreePassesLaw" 18 ⟨"TreePasses", "wipe", "()I"⟩ ∈ q_gd := q_wg (i := 445) (by decide +kernel) (by decide +kernel)
theorem w_446 : Cond.instanceMethod ⟨"TreePasses", "wipe", "()I"⟩ ∈ q_gd := q_wg (i := 446) (by decide +kernel) (by decide +kernel)
theorem w_447 : Cond.selects "TreePasses" ⟨"TreePasses", "wipe", "()I"⟩ ⟨"TreePasses", "wipe", "()I"⟩ ∈ q_gd := q_wg (i := 447) (by decide +kernel) (by decide +kernel)
theorem w_449 : Cond.methodLink "TreePassesLaw" 23 ⟨"TreePasses", "fault", "()I"⟩ ∈ q_gd := q_wg (i := 449) (by decide +kernel) (by decide +kernel)
theorem w_450 : Cond.instanceMethod ⟨"TreePasses", "fault", "()I"⟩ ∈ q_gd := q_wg (i := 450) (by decide +kernel) (by decide +kernel)
theorem w_451 : Cond.selects "TreePasses" ⟨"TreePasses", "fault", "()I"⟩ ⟨"TreePasses", "fault", "()I"⟩ ∈ q_gd := q_wg (i := 451) (by decide +kernel) (by decide +kernel)
theorem w_453 : Cond.methodLink "TreePassesLaw" 27 ⟨"TreePasses", "lay", "()I"⟩ ∈ q_gd := q_wg (i := 453) (by decide +kernel) (by decide +kernel)
theorem w_454 : Cond.instanceMethod ⟨"TreePasses", "lay", "()I"⟩ ∈ q_gd := q_wg (i := 454) (by decide +kernel) (by decide +kernel)
theorem w_455 : Cond.selects "TreePasses" ⟨"TreePasses", "lay", "()I"⟩ ⟨"TreePasses", "lay", "()I"⟩ ∈ q_gd := q_wg (i := 455) (by decide +kernel) (by decide +kernel)
theorem w_457 : Cond.methodLink "TreePasses" 104 ⟨"TreePasses$Program", "copy", "(LTreePasses$Program;)V"⟩ ∈ q_gd := q_wg (i := 457) (by decide +kernel) (by decide +kernel)
theorem w_458 : Cond.instanceMethod ⟨"TreePasses$Program", "copy", "(LTreePasses$Program;)V"⟩ ∈ q_gd := q_wg (i := 458) (by decide +kernel) (by decide +kernel)
theorem w_459 : Cond.selects "TreePasses$Program" ⟨"TreePasses$Program", "copy", "(LTreePasses$Program;)V"⟩ ⟨"TreePasses$Program", "copy", "(LTreePasses$Program;)V"⟩ ∈ q_gd := q_wg (i := 459) (by decide +kernel) (by decide +kernel)
theorem w_461 : Cond.methodLink "TreePasses" 108 ⟨"TreePasses$Shelf", "clear", "()V"⟩ ∈ q_gd := q_wg (i := 461) (by decide +kernel) (by decide +kernel)
theorem w_462 : Cond.instanceMethod ⟨"TreePasses$Shelf", "clear", "()V"⟩ ∈ q_gd := q_wg (i := 462) (by decide +kernel) (by decide +kernel)
theorem w_463 : Cond.selects "TreePasses$Shelf" ⟨"TreePasses$Shelf", "clear", "()V"⟩ ⟨"TreePasses$Shelf", "clear", "()V"⟩ ∈ q_gd := q_wg (i := 463) (by decide +kernel) (by decide +kernel)
theorem w_465 : Cond.methodLink "TreePasses" 109 ⟨"TreePasses", "forgetCensus", "()V"⟩ ∈ q_gd := q_wg (i := 465) (by decide +kernel) (by decide +kernel)
theorem w_467 : Cond.instanceMethod ⟨"TreePasses", "forgetCensus", "()V"⟩ ∈ q_gd := q_wg (i := 467) (by decide +kernel) (by decide +kernel)
theorem w_469 : Cond.methodLink "TreePasses" 255 ⟨"TreePasses$Census", "forget", "()V"⟩ ∈ q_gd := q_wg (i := 469) (by decide +kernel) (by decide +kernel)
theorem w_470 : Cond.instanceMethod ⟨"TreePasses$Census", "forget", "()V"⟩ ∈ q_gd := q_wg (i := 470) (by decide +kernel) (by decide +kernel)
theorem w_471 : Cond.selects "TreePasses$Census" ⟨"TreePasses$Census", "forget", "()V"⟩ ⟨"TreePasses$Census", "forget", "()V"⟩ ∈ q_gd := q_wg (i := 471) (by decide +kernel) (by decide +kernel)
theorem w_473 : Cond.methodLink "TreePassesLaw" 31 ⟨"TreePasses", "tree", "(II)I"⟩ ∈ q_gd := q_wg (i := 473) (by decide +kernel) (by decide +kernel)
theorem w_474 : Cond.instanceMethod ⟨"TreePasses", "tree", "(II)I"⟩ ∈ q_gd := q_wg (i := 474) (by decide +kernel) (by decide +kernel)
theorem w_475 : Cond.selects "TreePasses" ⟨"TreePasses", "tree", "(II)I"⟩ ⟨"TreePasses", "tree", "(II)I"⟩ ∈ q_gd := q_wg (i := 475) (by decide +kernel) (by decide +kernel)
theorem w_477 : Cond.methodLink "TreePasses" 116 ⟨"TreePasses$Program", "nodesOf", "(I)I"⟩ ∈ q_gd := q_wg (i := 477) (by decide +kernel) (by decide +kernel)
theorem w_478 : Cond.instanceMethod ⟨"TreePasses$Program", "nodesOf", "(I)I"⟩ ∈ q_gd := q_wg (i := 478) (by decide +kernel) (by decide +kernel)
theorem w_479 : Cond.selects "TreePasses$Program" ⟨"TreePasses$Program", "nodesOf", "(I)I"⟩ ⟨"TreePasses$Program", "nodesOf", "(I)I"⟩ ∈ q_gd := q_wg (i := 479) (by decide +kernel) (by decide +kernel)
theorem w_481 : Cond.methodLink "TreePasses" 120 ⟨"TreePasses$Program", "hasNode", "(II)Z"⟩ ∈ q_gd := q_wg (i := 481) (by decide +kernel) (by decide +kernel)
theorem w_482 : Cond.instanceMethod ⟨"TreePasses$Program", "hasNode", "(II)Z"⟩ ∈ q_gd := q_wg (i := 482) (by decide +kernel) (by decide +kernel)
theorem w_483 : Cond.selects "TreePasses$Program" ⟨"TreePasses$Program", "hasNode", "(II)Z"⟩ ⟨"TreePasses$Program", "hasNode", "(II)Z"⟩ ∈ q_gd := q_wg (i := 483) (by decide +kernel) (by decide +kernel)
theorem w_485 : Cond.methodLink "TreePasses" 123 ⟨"TreePasses$Program", "letterOf", "(II)I"⟩ ∈ q_gd := q_wg (i := 485) (by decide +kernel) (by decide +kernel)
theorem w_486 : Cond.instanceMethod ⟨"TreePasses$Program", "letterOf", "(II)I"⟩ ∈ q_gd := q_wg (i := 486) (by decide +kernel) (by decide +kernel)
theorem w_487 : Cond.selects "TreePasses$Program" ⟨"TreePasses$Program", "letterOf", "(II)I"⟩ ⟨"TreePasses$Program", "letterOf", "(II)I"⟩ ∈ q_gd := q_wg (i := 487) (by decide +kernel) (by decide +kernel)
theorem w_489 : Cond.methodLink "TreePasses$Program" 50 ⟨"TreePasses$Program", "hasNode", "(II)Z"⟩ ∈ q_gd := q_wg (i := 489) (by decide +kernel) (by decide +kernel)
theorem w_490 : Cond.methodLink "TreePassesLaw" 36 ⟨"TreePasses", "value", "(III)I"⟩ ∈ q_gd := q_wg (i := 490) (by decide +kernel) (by decide +kernel)
theorem w_491 : Cond.instanceMethod ⟨"TreePasses", "value", "(III)I"⟩ ∈ q_gd := q_wg (i := 491) (by decide +kernel) (by decide +kernel)
theorem w_492 : Cond.selects "TreePasses" ⟨"TreePasses", "value", "(III)I"⟩ ⟨"TreePasses", "value", "(III)I"⟩ ∈ q_gd := q_wg (i := 492) (by decide +kernel) (by decide +kernel)
theorem w_494 : Cond.methodLink "TreePasses" 127 ⟨"TreePasses$Standing", "takeTree", "(LTreePasses$Program;II)V"⟩ ∈ q_gd := q_wg (i := 494) (by decide +kernel) (by decide +kernel)
theorem w_495 : Cond.instanceMethod ⟨"TreePasses$Standing", "takeTree", "(LTreePasses$Program;II)V"⟩ ∈ q_gd := q_wg (i := 495) (by decide +kernel) (by decide +kernel)
theorem w_496 : Cond.selects "TreePasses$Standing" ⟨"TreePasses$Standing", "takeTree", "(LTreePasses$Program;II)V"⟩ ⟨"TreePasses$Standing", "takeTree", "(LTreePasses$Program;II)V"⟩ ∈ q_gd := q_wg (i := 496) (by decide +kernel) (by decide +kernel)
theorem w_498 : Cond.methodLink "TreePasses$Standing" 21 ⟨"TreePasses$Program", "nodesOf", "(I)I"⟩ ∈ q_gd := q_wg (i := 498) (by decide +kernel) (by decide +kernel)
theorem w_499 : Cond.methodLink "TreePasses$Standing" 27 ⟨"java/lang/Math", "min", "(II)I"⟩ ∈ q_gd := q_wg (i := 499) (by decide +kernel) (by decide +kernel)
theorem w_502 : Cond.methodLink "TreePasses$Standing" 37 ⟨"TreePasses$Program", "letterOf", "(II)I"⟩ ∈ q_gd := q_wg (i := 502) (by decide +kernel) (by decide +kernel)
theorem w_503 : Cond.methodLink "TreePasses$Standing" 40 ⟨"TreePasses$Standing", "weigh", "(LTreePasses$Program;I)V"⟩ ∈ q_gd := q_wg (i := 503) (by decide +kernel) (by decide +kernel)
theorem w_505 : Cond.instanceMethod ⟨"TreePasses$Standing", "weigh", "(LTreePasses$Program;I)V"⟩ ∈ q_gd := q_wg (i := 505) (by decide +kernel) (by decide +kernel)
theorem w_507 : Cond.methodLinkNest "TreePasses$Standing" 53 ⟨"TreePasses", "childrenOf", "(I)I"⟩ "TreePasses" ∈ q_nst := q_wn (i := 507) (by decide +kernel) (by decide +kernel)
theorem w_508 : Cond.methodLinkNest "TreePasses$Standing" 56 ⟨"TreePasses", "within", "(II)Z"⟩ "TreePasses" ∈ q_nst := q_wn (i := 508) (by decide +kernel) (by decide +kernel)
theorem w_509 : Cond.methodLink "TreePasses$Standing" 60 ⟨"TreePasses$Program", "entry", "(III)I"⟩ ∈ q_gd := q_wg (i := 509) (by decide +kernel) (by decide +kernel)
theorem w_510 : Cond.instanceMethod ⟨"TreePasses$Program", "entry", "(III)I"⟩ ∈ q_gd := q_wg (i := 510) (by decide +kernel) (by decide +kernel)
theorem w_511 : Cond.selects "TreePasses$Program" ⟨"TreePasses$Program", "entry", "(III)I"⟩ ⟨"TreePasses$Program", "entry", "(III)I"⟩ ∈ q_gd := q_wg (i := 511) (by decide +kernel) (by decide +kernel)
theorem w_513 : Cond.methodLink "TreePasses" 131 ⟨"TreePasses$Standing", "sightAt", "(I)I"⟩ ∈ q_gd := q_wg (i := 513) (by decide +kernel) (by decide +kernel)
theorem w_514 : Cond.instanceMethod ⟨"TreePasses$Standing", "sightAt", "(I)I"⟩ ∈ q_gd := q_wg (i := 514) (by decide +kernel) (by decide +kernel)
theorem w_515 : Cond.selects "TreePasses$Standing" ⟨"TreePasses$Standing", "sightAt", "(I)I"⟩ ⟨"TreePasses$Standing", "sightAt", "(I)I"⟩ ∈ q_gd := q_wg (i := 515) (by decide +kernel) (by decide +kernel)
theorem w_517 : Cond.methodLink "TreePassesLaw" 41 ⟨"TreePasses", "table", "(III)I"⟩ ∈ q_gd := q_wg (i := 517) (by decide +kernel) (by decide +kernel)
theorem w_518 : Cond.instanceMethod ⟨"TreePasses", "table", "(III)I"⟩ ∈ q_gd := q_wg (i := 518) (by decide +kernel) (by decide +kernel)
theorem w_519 : Cond.selects "TreePasses" ⟨"TreePasses", "table", "(III)I"⟩ ⟨"TreePasses", "table", "(III)I"⟩ ∈ q_gd := q_wg (i := 519) (by decide +kernel) (by decide +kernel)
theorem w_521 : Cond.methodLink "TreePasses" 134 ⟨"TreePasses", "hasEntry", "(III)Z"⟩ ∈ q_gd := q_wg (i := 521) (by decide +kernel) (by decide +kernel)
theorem w_522 : Cond.methodLink "TreePasses" 138 ⟨"TreePasses$Program", "entry", "(III)I"⟩ ∈ q_gd := q_wg (i := 522) (by decide +kernel) (by decide +kernel)
theorem w_523 : Cond.methodLink "TreePassesLaw" 45 ⟨"TreePasses", "rule", "(II)I"⟩ ∈ q_gd := q_wg (i := 523) (by decide +kernel) (by decide +kernel)
theorem w_524 : Cond.instanceMethod ⟨"TreePasses", "rule", "(II)I"⟩ ∈ q_gd := q_wg (i := 524) (by decide +kernel) (by decide +kernel)
theorem w_525 : Cond.selects "TreePasses" ⟨"TreePasses", "rule", "(II)I"⟩ ⟨"TreePasses", "rule", "(II)I"⟩ ∈ q_gd := q_wg (i := 525) (by decide +kernel) (by decide +kernel)
theorem w_527 : Cond.methodLink "TreePasses" 142 ⟨"TreePasses$Program", "hasRule", "(I)Z"⟩ ∈ q_gd := q_wg (i := 527) (by decide +kernel) (by decide +kernel)
theorem w_528 : Cond.instanceMethod ⟨"TreePasses$Program", "hasRule", "(I)Z"⟩ ∈ q_gd := q_wg (i := 528) (by decide +kernel) (by decide +kernel)
theorem w_529 : Cond.selects "TreePasses$Program" ⟨"TreePasses$Program", "hasRule", "(I)Z"⟩ ⟨"TreePasses$Program", "hasRule", "(I)Z"⟩ ∈ q_gd := q_wg (i := 529) (by decide +kernel) (by decide +kernel)
theorem w_531 : Cond.methodLink "TreePasses" 145 ⟨"TreePasses$Program", "cell", "(II)I"⟩ ∈ q_gd := q_wg (i := 531) (by decide +kernel) (by decide +kernel)
theorem w_532 : Cond.methodLink "TreePassesLaw" 49 ⟨"TreePasses", "piece", "(II)I"⟩ ∈ q_gd := q_wg (i := 532) (by decide +kernel) (by decide +kernel)
theorem w_533 : Cond.instanceMethod ⟨"TreePasses", "piece", "(II)I"⟩ ∈ q_gd := q_wg (i := 533) (by decide +kernel) (by decide +kernel)
theorem w_534 : Cond.selects "TreePasses" ⟨"TreePasses", "piece", "(II)I"⟩ ⟨"TreePasses", "piece", "(II)I"⟩ ∈ q_gd := q_wg (i := 534) (by decide +kernel) (by decide +kernel)
theorem w_536 : Cond.methodLink "TreePasses" 148 ⟨"TreePasses$Program", "pieceOf", "(II)I"⟩ ∈ q_gd := q_wg (i := 536) (by decide +kernel) (by decide +kernel)
theorem w_537 : Cond.instanceMethod ⟨"TreePasses$Program", "pieceOf", "(II)I"⟩ ∈ q_gd := q_wg (i := 537) (by decide +kernel) (by decide +kernel)
theorem w_538 : Cond.selects "TreePasses$Program" ⟨"TreePasses$Program", "pieceOf", "(II)I"⟩ ⟨"TreePasses$Program", "pieceOf", "(II)I"⟩ ∈ q_gd := q_wg (i := 538) (by decide +kernel) (by decide +kernel)
theorem w_540 : Cond.methodLink "TreePassesLaw" 53 ⟨"TreePasses", "enter", "(I)I"⟩ ∈ q_gd := q_wg (i := 540) (by decide +kernel) (by decide +kernel)
theorem w_541 : Cond.instanceMethod ⟨"TreePasses", "enter", "(I)I"⟩ ∈ q_gd := q_wg (i := 541) (by decide +kernel) (by decide +kernel)
theorem w_542 : Cond.selects "TreePasses" ⟨"TreePasses", "enter", "(I)I"⟩ ⟨"TreePasses", "enter", "(I)I"⟩ ∈ q_gd := q_wg (i := 542) (by decide +kernel) (by decide +kernel)
theorem w_544 : Cond.methodLink "TreePasses" 151 ⟨"TreePasses$Scroll", "readRuleAlone", "([I)I"⟩ ∈ q_gd := q_wg (i := 544) (by decide +kernel) (by decide +kernel)
theorem w_545 : Cond.instanceMethod ⟨"TreePasses$Scroll", "readRuleAlone", "([I)I"⟩ ∈ q_gd := q_wg (i := 545) (by decide +kernel) (by decide +kernel)
theorem w_546 : Cond.selects "TreePasses$Scroll" ⟨"TreePasses$Scroll", "readRuleAlone", "([I)I"⟩ ⟨"TreePasses$Scroll", "readRuleAlone", "([I)I"⟩ ∈ q_gd := q_wg (i := 546) (by decide +kernel) (by decide +kernel)
theorem w_548 : Cond.methodLink "TreePasses" 155 ⟨"TreePasses$Shelf", "put", "(LTreePasses$Program;)V"⟩ ∈ q_gd := q_wg (i := 548) (by decide +kernel) (by decide +kernel)
theorem w_549 : Cond.instanceMethod ⟨"TreePasses$Shelf", "put", "(LTreePasses$Program;)V"⟩ ∈ q_gd := q_wg (i := 549) (by decide +kernel) (by decide +kernel)
theorem w_550 : Cond.selects "TreePasses$Shelf" ⟨"TreePasses$Shelf", "put", "(LTreePasses$Program;)V"⟩ ⟨"TreePasses$Shelf", "put", "(LTreePasses$Program;)V"⟩ ∈ q_gd := q_wg (i := 550) (by decide +kernel) (by decide +kernel)
theorem w_552 : Cond.methodLink "TreePasses$Shelf" 26 ⟨"TreePasses$Shelf", "placeOf", "(I)I"⟩ ∈ q_gd := q_wg (i := 552) (by decide +kernel) (by decide +kernel)
theorem w_554 : Cond.instanceMethod ⟨"TreePasses$Shelf", "placeOf", "(I)I"⟩ ∈ q_gd := q_wg (i := 554) (by decide +kernel) (by decide +kernel)
theorem w_556 : Cond.methodLinkNest "TreePasses$Shelf" 33 ⟨"TreePasses", "within", "(II)Z"⟩ "TreePasses" ∈ q_nst := q_wn (i := 556) (by decide +kernel) (by decide +kernel)
theorem w_557 : Cond.methodLink "TreePasses$Shelf" 39 ⟨"TreePasses$Program", "copy", "(LTreePasses$Program;)V"⟩ ∈ q_gd := q_wg (i := 557) (by decide +kernel) (by decide +kernel)
theorem w_558 : Cond.methodLink "TreePasses" 158 ⟨"TreePasses$Program", "setRule", "(I[I)V"⟩ ∈ q_gd := q_wg (i := 558) (by decide +kernel) (by decide +kernel)
theorem w_559 : Cond.methodLink "TreePasses" 162 ⟨"TreePasses", "changed", "()V"⟩ ∈ q_gd := q_wg (i := 559) (by decide +kernel) (by decide +kernel)
theorem w_561 : Cond.instanceMethod ⟨"TreePasses", "changed", "()V"⟩ ∈ q_gd := q_wg (i := 561) (by decide +kernel) (by decide +kernel)
theorem w_563 : Cond.methodLink "TreePasses" 252 ⟨"TreePasses$Program", "choose", "()V"⟩ ∈ q_gd := q_wg (i := 563) (by decide +kernel) (by decide +kernel)
theorem w_564 : Cond.methodLink "TreePassesLaw" 57 ⟨"TreePasses", "cut", "(I)I"⟩ ∈ q_gd := q_wg (i := 564) (by decide +kernel) (by decide +kernel)
theorem w_565 : Cond.instanceMethod ⟨"TreePasses", "cut", "(I)I"⟩ ∈ q_gd := q_wg (i := 565) (by decide +kernel) (by decide +kernel)
theorem w_566 : Cond.selects "TreePasses" ⟨"TreePasses", "cut", "(I)I"⟩ ⟨"TreePasses", "cut", "(I)I"⟩ ∈ q_gd := q_wg (i := 566) (by decide +kernel) (by decide +kernel)
theorem w_568 : Cond.methodLink "TreePasses" 165 ⟨"TreePasses$Program", "removeRule", "(I)V"⟩ ∈ q_gd := q_wg (i := 568) (by decide +kernel) (by decide +kernel)
theorem w_569 : Cond.instanceMethod ⟨"TreePasses$Program", "removeRule", "(I)V"⟩ ∈ q_gd := q_wg (i := 569) (by decide +kernel) (by decide +kernel)
theorem w_570 : Cond.selects "TreePasses$Program" ⟨"TreePasses$Program", "removeRule", "(I)V"⟩ ⟨"TreePasses$Program", "removeRule", "(I)V"⟩ ∈ q_gd := q_wg (i := 570) (by decide +kernel) (by decide +kernel)
theorem w_572 : Cond.methodLink "TreePasses$Program" 61 ⟨"TreePasses$Program", "hasRule", "(I)Z"⟩ ∈ q_gd := q_wg (i := 572) (by decide +kernel) (by decide +kernel)
theorem w_573 : Cond.methodLink "TreePassesLaw" 61 ⟨"TreePasses", "shift", "(II)I"⟩ ∈ q_gd := q_wg (i := 573) (by decide +kernel) (by decide +kernel)
theorem w_574 : Cond.instanceMethod ⟨"TreePasses", "shift", "(II)I"⟩ ∈ q_gd := q_wg (i := 574) (by decide +kernel) (by decide +kernel)
theorem w_575 : Cond.selects "TreePasses" ⟨"TreePasses", "shift", "(II)I"⟩ ⟨"TreePasses", "shift", "(II)I"⟩ ∈ q_gd := q_wg (i := 575) (by decide +kernel) (by decide +kernel)
theorem w_577 : Cond.methodLink "TreePasses" 168 ⟨"TreePasses$Program", "moveRule", "(II[I)V"⟩ ∈ q_gd := q_wg (i := 577) (by decide +kernel) (by decide +kernel)
theorem w_578 : Cond.instanceMethod ⟨"TreePasses$Program", "moveRule", "(II[I)V"⟩ ∈ q_gd := q_wg (i := 578) (by decide +kernel) (by decide +kernel)
theorem w_579 : Cond.selects "TreePasses$Program" ⟨"TreePasses$Program", "moveRule", "(II[I)V"⟩ ⟨"TreePasses$Program", "moveRule", "(II[I)V"⟩ ∈ q_gd := q_wg (i := 579) (by decide +kernel) (by decide +kernel)
theorem w_581 : Cond.methodLink "TreePasses" 172 ⟨"java/lang/Math", "abs", "(I)I"⟩ ∈ q_gd := q_wg (i := 581) (by decide +kernel) (by decide +kernel)
theorem w_584 : Cond.methodLink "TreePassesLaw" 65 ⟨"TreePasses", "leaf", "(III)I"⟩ ∈ q_gd := q_wg (i := 584) (by decide +kernel) (by decide +kernel)
theorem w_585 : Cond.instanceMethod ⟨"TreePasses", "leaf", "(III)I"⟩ ∈ q_gd := q_wg (i := 585) (by decide +kernel) (by decide +kernel)
theorem w_586 : Cond.selects "TreePasses" ⟨"TreePasses", "leaf", "(III)I"⟩ ⟨"TreePasses", "leaf", "(III)I"⟩ ∈ q_gd := q_wg (i := 586) (by decide +kernel) (by decide +kernel)
theorem w_588 : Cond.methodLink "TreePasses" 180 ⟨"TreePasses$Program", "setLetter", "(III)V"⟩ ∈ q_gd := q_wg (i := 588) (by decide +kernel) (by decide +kernel)
theorem w_589 : Cond.instanceMethod ⟨"TreePasses$Program", "setLetter", "(III)V"⟩ ∈ q_gd := q_wg (i := 589) (by decide +kernel) (by decide +kernel)
theorem w_590 : Cond.selects "TreePasses$Program" ⟨"TreePasses$Program", "setLetter", "(III)V"⟩ ⟨"TreePasses$Program", "setLetter", "(III)V"⟩ ∈ q_gd := q_wg (i := 590) (by decide +kernel) (by decide +kernel)
theorem w_592 : Cond.methodLink "TreePassesLaw" 69 ⟨"TreePasses", "flip", "(III)I"⟩ ∈ q_gd := q_wg (i := 592) (by decide +kernel) (by decide +kernel)
theorem w_593 : Cond.instanceMethod ⟨"TreePasses", "flip", "(III)I"⟩ ∈ q_gd := q_wg (i := 593) (by decide +kernel) (by decide +kernel)
theorem w_594 : Cond.selects "TreePasses" ⟨"TreePasses", "flip", "(III)I"⟩ ⟨"TreePasses", "flip", "(III)I"⟩ ∈ q_gd := q_wg (i := 594) (by decide +kernel) (by decide +kernel)
theorem w_596 : Cond.methodLink "TreePasses" 184 ⟨"TreePasses$Program", "setEntry", "(IIII)V"⟩ ∈ q_gd := q_wg (i := 596) (by decide +kernel) (by decide +kernel)
theorem w_597 : Cond.methodLink "TreePassesLaw" 73 ⟨"TreePasses", "rename", "(II)I"⟩ ∈ q_gd := q_wg (i := 597) (by decide +kernel) (by decide +kernel)
theorem w_598 : Cond.instanceMethod ⟨"TreePasses", "rename", "(II)I"⟩ ∈ q_gd := q_wg (i := 598) (by decide +kernel) (by decide +kernel)
theorem w_599 : Cond.selects "TreePasses" ⟨"TreePasses", "rename", "(II)I"⟩ ⟨"TreePasses", "rename", "(II)I"⟩ ∈ q_gd := q_wg (i := 599) (by decide +kernel) (by decide +kernel)
theorem w_601 : Cond.methodLink "TreePasses" 188 ⟨"TreePasses$Program", "kindOf", "(I)I"⟩ ∈ q_gd := q_wg (i := 601) (by decide +kernel) (by decide +kernel)
theorem w_602 : Cond.methodLink "TreePasses" 191 ⟨"TreePasses$Program", "setKind", "(II)V"⟩ ∈ q_gd := q_wg (i := 602) (by decide +kernel) (by decide +kernel)
theorem w_603 : Cond.methodLink "TreePassesLaw" 77 ⟨"TreePasses", "undo", "()I"⟩ ∈ q_gd := q_wg (i := 603) (by decide +kernel) (by decide +kernel)
theorem w_604 : Cond.instanceMethod ⟨"TreePasses", "undo", "()I"⟩ ∈ q_gd := q_wg (i := 604) (by decide +kernel) (by decide +kernel)
theorem w_605 : Cond.selects "TreePasses" ⟨"TreePasses", "undo", "()I"⟩ ⟨"TreePasses", "undo", "()I"⟩ ∈ q_gd := q_wg (i := 605) (by decide +kernel) (by decide +kernel)
theorem w_607 : Cond.methodLink "TreePasses" 198 ⟨"TreePasses$Shelf", "take", "(LTreePasses$Program;)V"⟩ ∈ q_gd := q_wg (i := 607) (by decide +kernel) (by decide +kernel)
theorem w_608 : Cond.instanceMethod ⟨"TreePasses$Shelf", "take", "(LTreePasses$Program;)V"⟩ ∈ q_gd := q_wg (i := 608) (by decide +kernel) (by decide +kernel)
theorem w_609 : Cond.selects "TreePasses$Shelf" ⟨"TreePasses$Shelf", "take", "(LTreePasses$Program;)V"⟩ ⟨"TreePasses$Shelf", "take", "(LTreePasses$Program;)V"⟩ ∈ q_gd := q_wg (i := 609) (by decide +kernel) (by decide +kernel)
theorem w_611 : Cond.methodLink "TreePassesLaw" 81 ⟨"TreePasses", "out", "(IIII)I"⟩ ∈ q_gd := q_wg (i := 611) (by decide +kernel) (by decide +kernel)
theorem w_612 : Cond.instanceMethod ⟨"TreePasses", "out", "(IIII)I"⟩ ∈ q_gd := q_wg (i := 612) (by decide +kernel) (by decide +kernel)
theorem w_613 : Cond.selects "TreePasses" ⟨"TreePasses", "out", "(IIII)I"⟩ ⟨"TreePasses", "out", "(IIII)I"⟩ ∈ q_gd := q_wg (i := 613) (by decide +kernel) (by decide +kernel)
theorem w_615 : Cond.methodLink "TreePasses" 201 ⟨"TreePasses$Walk", "go", "(LTreePasses$Program;LTreePasses$Ground;II)I"⟩ ∈ q_gd := q_wg (i := 615) (by decide +kernel) (by decide +kernel)
theorem w_616 : Cond.instanceMethod ⟨"TreePasses$Walk", "go", "(LTreePasses$Program;LTreePasses$Ground;II)I"⟩ ∈ q_gd := q_wg (i := 616) (by decide +kernel) (by decide +kernel)
theorem w_617 : Cond.selects "TreePasses$Walk" ⟨"TreePasses$Walk", "go", "(LTreePasses$Program;LTreePasses$Ground;II)I"⟩ ⟨"TreePasses$Walk", "go", "(LTreePasses$Program;LTreePasses$Ground;II)I"⟩ ∈ q_gd := q_wg (i := 617) (by decide +kernel) (by decide +kernel)
theorem w_619 : Cond.methodLink "TreePasses$Walk" 27 ⟨"java/util/Arrays", "fill", "([II)V"⟩ ∈ q_gd := q_wg (i := 619) (by decide +kernel) (by decide +kernel)
theorem w_620 : Cond.methodLink "TreePasses$Walk" 40 ⟨"TreePasses$Ground", "topPlace", "(LTreePasses$Program;)I"⟩ ∈ q_gd := q_wg (i := 620) (by decide +kernel) (by decide +kernel)
theorem w_621 : Cond.declares ⟨"TreePasses$Ground", "topPlace", "(LTreePasses$Program;)I"⟩ ∈ q_nst := q_wn (i := 621) (by decide +kernel) (by decide +kernel)
theorem w_622 : Cond.sameMethod "TreePasses$Ground" "TreePasses$Ground" "topPlace" "(LTreePasses$Program;)I" ∈ q_gd := q_wg (i := 622) (by decide +kernel) (by decide +kernel)
theorem w_623 : Cond.selects "TreePasses$Standing" ⟨"TreePasses$Ground", "topPlace", "(LTreePasses$Program;)I"⟩ ⟨"TreePasses$Standing", "topPlace", "(LTreePasses$Program;)I"⟩ ∈ q_gd := q_wg (i := 623) (by decide +kernel) (by decide +kernel)
theorem w_624 : Cond.instanceMethod ⟨"TreePasses$Standing", "topPlace", "(LTreePasses$Program;)I"⟩ ∈ q_gd := q_wg (i := 624) (by decide +kernel) (by decide +kernel)
theorem w_626 : Cond.selects "TreePasses$Unmade" ⟨"TreePasses$Ground", "topPlace", "(LTreePasses$Program;)I"⟩ ⟨"TreePasses$Unmade", "topPlace", "(LTreePasses$Program;)I"⟩ ∈ q_gd := q_wg (i := 626) (by decide +kernel) (by decide +kernel)
theorem w_627 : Cond.instanceMethod ⟨"TreePasses$Unmade", "topPlace", "(LTreePasses$Program;)I"⟩ ∈ q_gd := q_wg (i := 627) (by decide +kernel) (by decide +kernel)
theorem w_629 : Cond.methodLink "TreePasses$Unmade" 22 ⟨"TreePasses$Unmade", "make", "(LTreePasses$Program;II)I"⟩ ∈ q_gd := q_wg (i := 629) (by decide +kernel) (by decide +kernel)
theorem w_631 : Cond.instanceMethod ⟨"TreePasses$Unmade", "make", "(LTreePasses$Program;II)I"⟩ ∈ q_gd := q_wg (i := 631) (by decide +kernel) (by decide +kernel)
theorem w_633 : Cond.methodLink "TreePasses$Unmade" 49 ⟨"TreePasses$Standing", "letterAt", "(LTreePasses$Program;I)I"⟩ ∈ q_gd := q_wg (i := 633) (by decide +kernel) (by decide +kernel)
theorem w_634 : Cond.instanceMethod ⟨"TreePasses$Standing", "letterAt", "(LTreePasses$Program;I)I"⟩ ∈ q_gd := q_wg (i := 634) (by decide +kernel) (by decide +kernel)
theorem w_635 : Cond.selects "TreePasses$Standing" ⟨"TreePasses$Standing", "letterAt", "(LTreePasses$Program;I)I"⟩ ⟨"TreePasses$Standing", "letterAt", "(LTreePasses$Program;I)I"⟩ ∈ q_gd := q_wg (i := 635) (by decide +kernel) (by decide +kernel)
theorem w_637 : Cond.methodLink "TreePasses$Unmade" 62 ⟨"TreePasses$Standing", "sightAt", "(I)I"⟩ ∈ q_gd := q_wg (i := 637) (by decide +kernel) (by decide +kernel)
theorem w_638 : Cond.methodLink "TreePasses$Unmade" 65 ⟨"TreePasses$Program", "chosenRule", "(IIII)I"⟩ ∈ q_gd := q_wg (i := 638) (by decide +kernel) (by decide +kernel)
theorem w_639 : Cond.instanceMethod ⟨"TreePasses$Program", "chosenRule", "(IIII)I"⟩ ∈ q_gd := q_wg (i := 639) (by decide +kernel) (by decide +kernel)
theorem w_640 : Cond.selects "TreePasses$Program" ⟨"TreePasses$Program", "chosenRule", "(IIII)I"⟩ ⟨"TreePasses$Program", "chosenRule", "(IIII)I"⟩ ∈ q_gd := q_wg (i := 640) (by decide +kernel) (by decide +kernel)
theorem w_642 : Cond.methodLink "TreePasses$Unmade" 36 ⟨"TreePasses$Program", "pieceOf", "(II)I"⟩ ∈ q_gd := q_wg (i := 642) (by decide +kernel) (by decide +kernel)
theorem w_643 : Cond.methodLink "TreePasses$Unmade" 45 ⟨"TreePasses$Unmade", "placeOf", "(III)I"⟩ ∈ q_gd := q_wg (i := 643) (by decide +kernel) (by decide +kernel)
theorem w_644 : Cond.static ⟨"TreePasses$Unmade", "placeOf", "(III)I"⟩ ∈ q_gd := q_wg (i := 644) (by decide +kernel) (by decide +kernel)
theorem w_646 : Cond.methodLinkNest "TreePasses$Unmade" 56 ⟨"TreePasses", "stateCalled", "(I)I"⟩ "TreePasses" ∈ q_nst := q_wn (i := 646) (by decide +kernel) (by decide +kernel)
theorem w_647 : Cond.static ⟨"TreePasses", "stateCalled", "(I)I"⟩ ∈ q_gd := q_wg (i := 647) (by decide +kernel) (by decide +kernel)
theorem w_649 : Cond.methodLink "TreePasses$Unmade" 53 ⟨"TreePasses$Program", "childCalled", "(III)I"⟩ ∈ q_gd := q_wg (i := 649) (by decide +kernel) (by decide +kernel)
theorem w_650 : Cond.instanceMethod ⟨"TreePasses$Program", "childCalled", "(III)I"⟩ ∈ q_gd := q_wg (i := 650) (by decide +kernel) (by decide +kernel)
theorem w_651 : Cond.selects "TreePasses$Program" ⟨"TreePasses$Program", "childCalled", "(III)I"⟩ ⟨"TreePasses$Program", "childCalled", "(III)I"⟩ ∈ q_gd := q_wg (i := 651) (by decide +kernel) (by decide +kernel)
theorem w_653 : Cond.methodLinkNest "TreePasses$Program" 77 ⟨"TreePasses", "childrenOf", "(I)I"⟩ "TreePasses" ∈ q_nst := q_wn (i := 653) (by decide +kernel) (by decide +kernel)
theorem w_654 : Cond.methodLink "TreePasses$Unmade" 59 ⟨"TreePasses$Standing", "below", "(LTreePasses$Program;II)I"⟩ ∈ q_gd := q_wg (i := 654) (by decide +kernel) (by decide +kernel)
theorem w_655 : Cond.instanceMethod ⟨"TreePasses$Standing", "below", "(LTreePasses$Program;II)I"⟩ ∈ q_gd := q_wg (i := 655) (by decide +kernel) (by decide +kernel)
theorem w_656 : Cond.selects "TreePasses$Standing" ⟨"TreePasses$Standing", "below", "(LTreePasses$Program;II)I"⟩ ⟨"TreePasses$Standing", "below", "(LTreePasses$Program;II)I"⟩ ∈ q_gd := q_wg (i := 656) (by decide +kernel) (by decide +kernel)
theorem w_658 : Cond.methodLink "TreePasses$Walk" 46 ⟨"TreePasses$Walk", "come", "(LTreePasses$Program;LTreePasses$Ground;III)I"⟩ ∈ q_gd := q_wg (i := 658) (by decide +kernel) (by decide +kernel)
theorem w_660 : Cond.instanceMethod ⟨"TreePasses$Walk", "come", "(LTreePasses$Program;LTreePasses$Ground;III)I"⟩ ∈ q_gd := q_wg (i := 660) (by decide +kernel) (by decide +kernel)
theorem w_662 : Cond.methodLink "TreePasses$Walk" 84 ⟨"TreePasses$Ground", "nodeAt", "(I)I"⟩ ∈ q_gd := q_wg (i := 662) (by decide +kernel) (by decide +kernel)
theorem w_663 : Cond.declares ⟨"TreePasses$Ground", "nodeAt", "(I)I"⟩ ∈ q_nst := q_wn (i := 663) (by decide +kernel) (by decide +kernel)
theorem w_664 : Cond.sameMethod "TreePasses$Ground" "TreePasses$Ground" "nodeAt" "(I)I" ∈ q_gd := q_wg (i := 664) (by decide +kernel) (by decide +kernel)
theorem w_665 : Cond.selects "TreePasses$Standing" ⟨"TreePasses$Ground", "nodeAt", "(I)I"⟩ ⟨"TreePasses$Standing", "nodeAt", "(I)I"⟩ ∈ q_gd := q_wg (i := 665) (by decide +kernel) (by decide +kernel)
theorem w_666 : Cond.instanceMethod ⟨"TreePasses$Standing", "nodeAt", "(I)I"⟩ ∈ q_gd := q_wg (i := 666) (by decide +kernel) (by decide +kernel)
theorem w_668 : Cond.selects "TreePasses$Unmade" ⟨"TreePasses$Ground", "nodeAt", "(I)I"⟩ ⟨"TreePasses$Unmade", "nodeAt", "(I)I"⟩ ∈ q_gd := q_wg (i := 668) (by decide +kernel) (by decide +kernel)
theorem w_669 : Cond.instanceMethod ⟨"TreePasses$Unmade", "nodeAt", "(I)I"⟩ ∈ q_gd := q_wg (i := 669) (by decide +kernel) (by decide +kernel)
theorem w_671 : Cond.methodLinkNest "TreePasses$Walk" 55 ⟨"TreePasses", "within", "(II)Z"⟩ "TreePasses" ∈ q_nst := q_wn (i := 671) (by decide +kernel) (by decide +kernel)
theorem w_672 : Cond.methodLink "TreePasses$Walk" 69 ⟨"TreePasses$Ground", "letterAt", "(LTreePasses$Program;I)I"⟩ ∈ q_gd := q_wg (i := 672) (by decide +kernel) (by decide +kernel)
theorem w_673 : Cond.declares ⟨"TreePasses$Ground", "letterAt", "(LTreePasses$Program;I)I"⟩ ∈ q_nst := q_wn (i := 673) (by decide +kernel) (by decide +kernel)
theorem w_674 : Cond.sameMethod "TreePasses$Ground" "TreePasses$Ground" "letterAt" "(LTreePasses$Program;I)I" ∈ q_gd := q_wg (i := 674) (by decide +kernel) (by decide +kernel)
theorem w_675 : Cond.selects "TreePasses$Standing" ⟨"TreePasses$Ground", "letterAt", "(LTreePasses$Program;I)I"⟩ ⟨"TreePasses$Standing", "letterAt", "(LTreePasses$Program;I)I"⟩ ∈ q_gd := q_wg (i := 675) (by decide +kernel) (by decide +kernel)
theorem w_676 : Cond.selects "TreePasses$Unmade" ⟨"TreePasses$Ground", "letterAt", "(LTreePasses$Program;I)I"⟩ ⟨"TreePasses$Unmade", "letterAt", "(LTreePasses$Program;I)I"⟩ ∈ q_gd := q_wg (i := 676) (by decide +kernel) (by decide +kernel)
theorem w_677 : Cond.instanceMethod ⟨"TreePasses$Unmade", "letterAt", "(LTreePasses$Program;I)I"⟩ ∈ q_gd := q_wg (i := 677) (by decide +kernel) (by decide +kernel)
theorem w_679 : Cond.methodLink "TreePasses$Unmade" 26 ⟨"TreePasses$Unmade", "ruleAt", "(I)I"⟩ ∈ q_gd := q_wg (i := 679) (by decide +kernel) (by decide +kernel)
theorem w_680 : Cond.static ⟨"TreePasses$Unmade", "ruleAt", "(I)I"⟩ ∈ q_gd := q_wg (i := 680) (by decide +kernel) (by decide +kernel)
theorem w_682 : Cond.methodLink "TreePasses$Unmade" 30 ⟨"TreePasses$Unmade", "pieceAt", "(I)I"⟩ ∈ q_gd := q_wg (i := 682) (by decide +kernel) (by decide +kernel)
theorem w_683 : Cond.static ⟨"TreePasses$Unmade", "pieceAt", "(I)I"⟩ ∈ q_gd := q_wg (i := 683) (by decide +kernel) (by decide +kernel)
theorem w_685 : Cond.methodLink "TreePasses$Walk" 87 ⟨"TreePasses$Ground", "sightAt", "(I)I"⟩ ∈ q_gd := q_wg (i := 685) (by decide +kernel) (by decide +kernel)
theorem w_686 : Cond.declares ⟨"TreePasses$Ground", "sightAt", "(I)I"⟩ ∈ q_nst := q_wn (i := 686) (by decide +kernel) (by decide +kernel)
theorem w_687 : Cond.sameMethod "TreePasses$Ground" "TreePasses$Ground" "sightAt" "(I)I" ∈ q_gd := q_wg (i := 687) (by decide +kernel) (by decide +kernel)
theorem w_688 : Cond.selects "TreePasses$Standing" ⟨"TreePasses$Ground", "sightAt", "(I)I"⟩ ⟨"TreePasses$Standing", "sightAt", "(I)I"⟩ ∈ q_gd := q_wg (i := 688) (by decide +kernel) (by decide +kernel)
theorem w_689 : Cond.selects "TreePasses$Unmade" ⟨"TreePasses$Ground", "sightAt", "(I)I"⟩ ⟨"TreePasses$Unmade", "sightAt", "(I)I"⟩ ∈ q_gd := q_wg (i := 689) (by decide +kernel) (by decide +kernel)
theorem w_690 : Cond.instanceMethod ⟨"TreePasses$Unmade", "sightAt", "(I)I"⟩ ∈ q_gd := q_wg (i := 690) (by decide +kernel) (by decide +kernel)
theorem w_692 : Cond.methodLink "TreePasses$Walk" 90 ⟨"TreePasses$Program", "chosenRule", "(IIII)I"⟩ ∈ q_gd := q_wg (i := 692) (by decide +kernel) (by decide +kernel)
theorem w_693 : Cond.constant "TreePasses$Walk" 50 (nI 100000) ∈ q_gd := q_wg (i := 693) (by decide +kernel) (by decide +kernel)
theorem w_694 : Cond.methodLink "TreePasses$Walk" 51 ⟨"TreePasses$Walk", "step", "(LTreePasses$Program;LTreePasses$Ground;I)I"⟩ ∈ q_gd := q_wg (i := 694) (by decide +kernel) (by decide +kernel)
theorem w_696 : Cond.instanceMethod ⟨"TreePasses$Walk", "step", "(LTreePasses$Program;LTreePasses$Ground;I)I"⟩ ∈ q_gd := q_wg (i := 696) (by decide +kernel) (by decide +kernel)
theorem w_698 : Cond.methodLink "TreePasses$Walk" 59 ⟨"TreePasses$Program", "pieceOf", "(II)I"⟩ ∈ q_gd := q_wg (i := 698) (by decide +kernel) (by decide +kernel)
theorem w_699 : Cond.methodLink "TreePasses$Walk" 65 ⟨"TreePasses$Walk", "append", "(I)I"⟩ ∈ q_gd := q_wg (i := 699) (by decide +kernel) (by decide +kernel)
theorem w_701 : Cond.instanceMethod ⟨"TreePasses$Walk", "append", "(I)I"⟩ ∈ q_gd := q_wg (i := 701) (by decide +kernel) (by decide +kernel)
theorem w_703 : Cond.methodLink "TreePasses$Walk" 73 ⟨"TreePasses$Program", "childCalled", "(III)I"⟩ ∈ q_gd := q_wg (i := 703) (by decide +kernel) (by decide +kernel)
theorem w_704 : Cond.methodLinkNest "TreePasses$Walk" 77 ⟨"TreePasses", "stateCalled", "(I)I"⟩ "TreePasses" ∈ q_nst := q_wn (i := 704) (by decide +kernel) (by decide +kernel)
theorem w_705 : Cond.methodLink "TreePasses$Walk" 80 ⟨"TreePasses$Ground", "below", "(LTreePasses$Program;II)I"⟩ ∈ q_gd := q_wg (i := 705) (by decide +kernel) (by decide +kernel)
theorem w_706 : Cond.declares ⟨"TreePasses$Ground", "below", "(LTreePasses$Program;II)I"⟩ ∈ q_nst := q_wn (i := 706) (by decide +kernel) (by decide +kernel)
theorem w_707 : Cond.sameMethod "TreePasses$Ground" "TreePasses$Ground" "below" "(LTreePasses$Program;II)I" ∈ q_gd := q_wg (i := 707) (by decide +kernel) (by decide +kernel)
theorem w_708 : Cond.selects "TreePasses$Standing" ⟨"TreePasses$Ground", "below", "(LTreePasses$Program;II)I"⟩ ⟨"TreePasses$Standing", "below", "(LTreePasses$Program;II)I"⟩ ∈ q_gd := q_wg (i := 708) (by decide +kernel) (by decide +kernel)
theorem w_709 : Cond.selects "TreePasses$Unmade" ⟨"TreePasses$Ground", "below", "(LTreePasses$Program;II)I"⟩ ⟨"TreePasses$Unmade", "below", "(LTreePasses$Program;II)I"⟩ ∈ q_gd := q_wg (i := 709) (by decide +kernel) (by decide +kernel)
theorem w_710 : Cond.instanceMethod ⟨"TreePasses$Unmade", "below", "(LTreePasses$Program;II)I"⟩ ∈ q_gd := q_wg (i := 710) (by decide +kernel) (by decide +kernel)
theorem w_712 : Cond.methodLink "TreePasses$Unmade" 33 ⟨"TreePasses$Unmade", "behind", "(LTreePasses$Program;II)I"⟩ ∈ q_gd := q_wg (i := 712) (by decide +kernel) (by decide +kernel)
theorem w_713 : Cond.static ⟨"TreePasses$Unmade", "behind", "(LTreePasses$Program;II)I"⟩ ∈ q_gd := q_wg (i := 713) (by decide +kernel) (by decide +kernel)
theorem w_715 : Cond.methodLinkNest "TreePasses$Unmade" 69 ⟨"TreePasses", "childrenOf", "(I)I"⟩ "TreePasses" ∈ q_nst := q_wn (i := 715) (by decide +kernel) (by decide +kernel)
theorem w_716 : Cond.methodLink "TreePasses$Unmade" 42 ⟨"TreePasses$Unmade", "nodeAt", "(I)I"⟩ ∈ q_gd := q_wg (i := 716) (by decide +kernel) (by decide +kernel)
theorem w_717 : Cond.methodLink "TreePasses" 205 ⟨"TreePasses", "letterMade", "(II)I"⟩ ∈ q_gd := q_wg (i := 717) (by decide +kernel) (by decide +kernel)
theorem w_719 : Cond.instanceMethod ⟨"TreePasses", "letterMade", "(II)I"⟩ ∈ q_gd := q_wg (i := 719) (by decide +kernel) (by decide +kernel)
theorem w_721 : Cond.methodLink "TreePasses" 258 ⟨"TreePasses$Walk", "letterOf", "(I)I"⟩ ∈ q_gd := q_wg (i := 721) (by decide +kernel) (by decide +kernel)
theorem w_722 : Cond.instanceMethod ⟨"TreePasses$Walk", "letterOf", "(I)I"⟩ ∈ q_gd := q_wg (i := 722) (by decide +kernel) (by decide +kernel)
theorem w_723 : Cond.selects "TreePasses$Walk" ⟨"TreePasses$Walk", "letterOf", "(I)I"⟩ ⟨"TreePasses$Walk", "letterOf", "(I)I"⟩ ∈ q_gd := q_wg (i := 723) (by decide +kernel) (by decide +kernel)
theorem w_725 : Cond.methodLink "TreePassesLaw" 86 ⟨"TreePasses", "both", "(II)I"⟩ ∈ q_gd := q_wg (i := 725) (by decide +kernel) (by decide +kernel)
theorem w_726 : Cond.instanceMethod ⟨"TreePasses", "both", "(II)I"⟩ ∈ q_gd := q_wg (i := 726) (by decide +kernel) (by decide +kernel)
theorem w_727 : Cond.selects "TreePasses" ⟨"TreePasses", "both", "(II)I"⟩ ⟨"TreePasses", "both", "(II)I"⟩ ∈ q_gd := q_wg (i := 727) (by decide +kernel) (by decide +kernel)
theorem w_729 : Cond.methodLink "TreePasses" 214 ⟨"TreePasses$Standing", "takeRow", "(LTreePasses$Program;[II)V"⟩ ∈ q_gd := q_wg (i := 729) (by decide +kernel) (by decide +kernel)
theorem w_730 : Cond.instanceMethod ⟨"TreePasses$Standing", "takeRow", "(LTreePasses$Program;[II)V"⟩ ∈ q_gd := q_wg (i := 730) (by decide +kernel) (by decide +kernel)
theorem w_731 : Cond.selects "TreePasses$Standing" ⟨"TreePasses$Standing", "takeRow", "(LTreePasses$Program;[II)V"⟩ ⟨"TreePasses$Standing", "takeRow", "(LTreePasses$Program;[II)V"⟩ ∈ q_gd := q_wg (i := 731) (by decide +kernel) (by decide +kernel)
theorem w_733 : Cond.methodLink "TreePasses$Standing" 44 ⟨"java/lang/Math", "max", "(II)I"⟩ ∈ q_gd := q_wg (i := 733) (by decide +kernel) (by decide +kernel)
theorem w_734 : Cond.methodLink "TreePasses$Standing" 47 ⟨"java/lang/System", "arraycopy", "(Ljava/lang/Object;ILjava/lang/Object;II)V"⟩ ∈ q_gd := q_wg (i := 734) (by decide +kernel) (by decide +kernel)
theorem w_735 : Cond.methodLink "TreePassesLaw" 90 ⟨"TreePasses", "one", "(II)I"⟩ ∈ q_gd := q_wg (i := 735) (by decide +kernel) (by decide +kernel)
theorem w_736 : Cond.instanceMethod ⟨"TreePasses", "one", "(II)I"⟩ ∈ q_gd := q_wg (i := 736) (by decide +kernel) (by decide +kernel)
theorem w_737 : Cond.selects "TreePasses" ⟨"TreePasses", "one", "(II)I"⟩ ⟨"TreePasses", "one", "(II)I"⟩ ∈ q_gd := q_wg (i := 737) (by decide +kernel) (by decide +kernel)
theorem w_739 : Cond.methodLink "TreePasses" 218 ⟨"TreePasses$Unmade", "takeTree", "(LTreePasses$Program;I)V"⟩ ∈ q_gd := q_wg (i := 739) (by decide +kernel) (by decide +kernel)
theorem w_740 : Cond.instanceMethod ⟨"TreePasses$Unmade", "takeTree", "(LTreePasses$Program;I)V"⟩ ∈ q_gd := q_wg (i := 740) (by decide +kernel) (by decide +kernel)
theorem w_741 : Cond.selects "TreePasses$Unmade" ⟨"TreePasses$Unmade", "takeTree", "(LTreePasses$Program;I)V"⟩ ⟨"TreePasses$Unmade", "takeTree", "(LTreePasses$Program;I)V"⟩ ∈ q_gd := q_wg (i := 741) (by decide +kernel) (by decide +kernel)
theorem w_743 : Cond.methodLink "TreePasses$Unmade" 18 ⟨"TreePasses$Standing", "takeTree", "(LTreePasses$Program;II)V"⟩ ∈ q_gd := q_wg (i := 743) (by decide +kernel) (by decide +kernel)
theorem w_744 : Cond.methodLink "TreePassesLaw" 94 ⟨"TreePasses", "linear", "(II)I"⟩ ∈ q_gd := q_wg (i := 744) (by decide +kernel) (by decide +kernel)
theorem w_745 : Cond.instanceMethod ⟨"TreePasses", "linear", "(II)I"⟩ ∈ q_gd := q_wg (i := 745) (by decide +kernel) (by decide +kernel)
theorem w_746 : Cond.selects "TreePasses" ⟨"TreePasses", "linear", "(II)I"⟩ ⟨"TreePasses", "linear", "(II)I"⟩ ∈ q_gd := q_wg (i := 746) (by decide +kernel) (by decide +kernel)
theorem w_748 : Cond.methodLink "TreePasses" 221 ⟨"TreePasses$Program", "isLinear", "(I)Z"⟩ ∈ q_gd := q_wg (i := 748) (by decide +kernel) (by decide +kernel)
theorem w_749 : Cond.instanceMethod ⟨"TreePasses$Program", "isLinear", "(I)Z"⟩ ∈ q_gd := q_wg (i := 749) (by decide +kernel) (by decide +kernel)
theorem w_750 : Cond.selects "TreePasses$Program" ⟨"TreePasses$Program", "isLinear", "(I)Z"⟩ ⟨"TreePasses$Program", "isLinear", "(I)Z"⟩ ∈ q_gd := q_wg (i := 750) (by decide +kernel) (by decide +kernel)
theorem w_752 : Cond.methodLink "TreePasses$Program" 80 ⟨"TreePasses$Program", "callsFor", "(II)I"⟩ ∈ q_gd := q_wg (i := 752) (by decide +kernel) (by decide +kernel)
theorem w_754 : Cond.instanceMethod ⟨"TreePasses$Program", "callsFor", "(II)I"⟩ ∈ q_gd := q_wg (i := 754) (by decide +kernel) (by decide +kernel)
theorem w_756 : Cond.methodLink "TreePasses$Program" 83 ⟨"TreePasses$Program", "pieceOf", "(II)I"⟩ ∈ q_gd := q_wg (i := 756) (by decide +kernel) (by decide +kernel)
theorem w_757 : Cond.methodLink "TreePasses" 224 ⟨"TreePasses$Program", "isWhole", "(I)Z"⟩ ∈ q_gd := q_wg (i := 757) (by decide +kernel) (by decide +kernel)
theorem w_758 : Cond.instanceMethod ⟨"TreePasses$Program", "isWhole", "(I)Z"⟩ ∈ q_gd := q_wg (i := 758) (by decide +kernel) (by decide +kernel)
theorem w_759 : Cond.selects "TreePasses$Program" ⟨"TreePasses$Program", "isWhole", "(I)Z"⟩ ⟨"TreePasses$Program", "isWhole", "(I)Z"⟩ ∈ q_gd := q_wg (i := 759) (by decide +kernel) (by decide +kernel)
theorem w_761 : Cond.methodLink "TreePassesLaw" 98 ⟨"TreePasses", "visits", "(III)I"⟩ ∈ q_gd := q_wg (i := 761) (by decide +kernel) (by decide +kernel)
theorem w_762 : Cond.instanceMethod ⟨"TreePasses", "visits", "(III)I"⟩ ∈ q_gd := q_wg (i := 762) (by decide +kernel) (by decide +kernel)
theorem w_763 : Cond.selects "TreePasses" ⟨"TreePasses", "visits", "(III)I"⟩ ⟨"TreePasses", "visits", "(III)I"⟩ ∈ q_gd := q_wg (i := 763) (by decide +kernel) (by decide +kernel)
theorem w_765 : Cond.methodLink "TreePasses" 227 ⟨"TreePasses$Walk", "visitsOf", "(I)I"⟩ ∈ q_gd := q_wg (i := 765) (by decide +kernel) (by decide +kernel)
theorem w_766 : Cond.instanceMethod ⟨"TreePasses$Walk", "visitsOf", "(I)I"⟩ ∈ q_gd := q_wg (i := 766) (by decide +kernel) (by decide +kernel)
theorem w_767 : Cond.selects "TreePasses$Walk" ⟨"TreePasses$Walk", "visitsOf", "(I)I"⟩ ⟨"TreePasses$Walk", "visitsOf", "(I)I"⟩ ∈ q_gd := q_wg (i := 767) (by decide +kernel) (by decide +kernel)
theorem w_769 : Cond.methodLink "TreePassesLaw" 102 ⟨"TreePasses", "comes", "(I)I"⟩ ∈ q_gd := q_wg (i := 769) (by decide +kernel) (by decide +kernel)
theorem w_770 : Cond.instanceMethod ⟨"TreePasses", "comes", "(I)I"⟩ ∈ q_gd := q_wg (i := 770) (by decide +kernel) (by decide +kernel)
theorem w_771 : Cond.selects "TreePasses" ⟨"TreePasses", "comes", "(I)I"⟩ ⟨"TreePasses", "comes", "(I)I"⟩ ∈ q_gd := q_wg (i := 771) (by decide +kernel) (by decide +kernel)
theorem w_773 : Cond.methodLink "TreePasses" 230 ⟨"TreePasses", "censusOf", "(I)LTreePasses$Census;"⟩ ∈ q_gd := q_wg (i := 773) (by decide +kernel) (by decide +kernel)
theorem w_775 : Cond.instanceMethod ⟨"TreePasses", "censusOf", "(I)LTreePasses$Census;"⟩ ∈ q_gd := q_wg (i := 775) (by decide +kernel) (by decide +kernel)
theorem w_777 : Cond.methodLink "TreePasses" 234 ⟨"TreePasses$Census", "take", "(LTreePasses$Program;)V"⟩ ∈ q_gd := q_wg (i := 777) (by decide +kernel) (by decide +kernel)
theorem w_778 : Cond.instanceMethod ⟨"TreePasses$Census", "take", "(LTreePasses$Program;)V"⟩ ∈ q_gd := q_wg (i := 778) (by decide +kernel) (by decide +kernel)
theorem w_779 : Cond.selects "TreePasses$Census" ⟨"TreePasses$Census", "take", "(LTreePasses$Program;)V"⟩ ⟨"TreePasses$Census", "take", "(LTreePasses$Program;)V"⟩ ∈ q_gd := q_wg (i := 779) (by decide +kernel) (by decide +kernel)
theorem w_781 : Cond.methodLink "TreePasses$Census" 58 ⟨"TreePasses$Census", "begin", "(LTreePasses$Program;)V"⟩ ∈ q_gd := q_wg (i := 781) (by decide +kernel) (by decide +kernel)
theorem w_783 : Cond.instanceMethod ⟨"TreePasses$Census", "begin", "(LTreePasses$Program;)V"⟩ ∈ q_gd := q_wg (i := 783) (by decide +kernel) (by decide +kernel)
theorem w_785 : Cond.methodLink "TreePasses$Census" 81 ⟨"java/util/Arrays", "fill", "([II)V"⟩ ∈ q_gd := q_wg (i := 785) (by decide +kernel) (by decide +kernel)
theorem w_786 : Cond.methodLink "TreePasses$Census" 87 ⟨"TreePasses$Program", "hasRule", "(I)Z"⟩ ∈ q_gd := q_wg (i := 786) (by decide +kernel) (by decide +kernel)
theorem w_787 : Cond.methodLink "TreePasses$Census" 93 ⟨"TreePasses$Program", "cell", "(II)I"⟩ ∈ q_gd := q_wg (i := 787) (by decide +kernel) (by decide +kernel)
theorem w_788 : Cond.methodLink "TreePasses$Census" 97 ⟨"TreePasses$Census", "workOut", "(LTreePasses$Program;I)V"⟩ ∈ q_gd := q_wg (i := 788) (by decide +kernel) (by decide +kernel)
theorem w_790 : Cond.instanceMethod ⟨"TreePasses$Census", "workOut", "(LTreePasses$Program;I)V"⟩ ∈ q_gd := q_wg (i := 790) (by decide +kernel) (by decide +kernel)
theorem w_792 : Cond.methodLink "TreePasses$Census" 132 ⟨"TreePasses$Program", "pieceOf", "(II)I"⟩ ∈ q_gd := q_wg (i := 792) (by decide +kernel) (by decide +kernel)
theorem w_793 : Cond.methodLink "TreePasses$Census" 135 ⟨"TreePasses$Program", "childCalled", "(III)I"⟩ ∈ q_gd := q_wg (i := 793) (by decide +kernel) (by decide +kernel)
theorem w_794 : Cond.methodLinkNest "TreePasses$Census" 138 ⟨"TreePasses", "stateCalled", "(I)I"⟩ "TreePasses" ∈ q_nst := q_wn (i := 794) (by decide +kernel) (by decide +kernel)
theorem w_795 : Cond.fieldLinkNest "TreePasses$Census" 141 "TreePasses" "WHERE" "[J" "TreePasses" ∈ q_nst := q_wn (i := 795) (by decide +kernel) (by decide +kernel)
theorem w_797 : Cond.methodLinkNest "TreePasses$Census" 70 ⟨"TreePasses", "within", "(II)Z"⟩ "TreePasses" ∈ q_nst := q_wn (i := 797) (by decide +kernel) (by decide +kernel)
theorem w_798 : Cond.methodLink "TreePasses$Census" 144 ⟨"TreePasses$Census", "typeAbove", "(LTreePasses$Program;II)J"⟩ ∈ q_gd := q_wg (i := 798) (by decide +kernel) (by decide +kernel)
theorem w_800 : Cond.instanceMethod ⟨"TreePasses$Census", "typeAbove", "(LTreePasses$Program;II)J"⟩ ∈ q_gd := q_wg (i := 800) (by decide +kernel) (by decide +kernel)
theorem w_802 : Cond.methodLinkNest "TreePasses$Census" 148 ⟨"TreePasses", "childrenOf", "(I)I"⟩ "TreePasses" ∈ q_nst := q_wn (i := 802) (by decide +kernel) (by decide +kernel)
theorem w_803 : Cond.methodLink "TreePasses$Census" 128 ⟨"TreePasses$Program", "entry", "(III)I"⟩ ∈ q_gd := q_wg (i := 803) (by decide +kernel) (by decide +kernel)
theorem w_804 : Cond.constantLong "TreePasses$Census" 151 (lN 18446744073709551615) ∈ q_gd := q_wg (i := 804) (by decide +kernel) (by decide +kernel)
theorem w_805 : Cond.methodLink "TreePasses$Census" 101 ⟨"TreePasses$Program", "chosenRule", "(IIII)I"⟩ ∈ q_gd := q_wg (i := 805) (by decide +kernel) (by decide +kernel)
theorem w_806 : Cond.methodLink "TreePasses$Census" 62 ⟨"TreePasses$Census", "offer", "(LTreePasses$Program;III)V"⟩ ∈ q_gd := q_wg (i := 806) (by decide +kernel) (by decide +kernel)
theorem w_808 : Cond.instanceMethod ⟨"TreePasses$Census", "offer", "(LTreePasses$Program;III)V"⟩ ∈ q_gd := q_wg (i := 808) (by decide +kernel) (by decide +kernel)
theorem w_810 : Cond.methodLink "TreePasses$Census" 116 ⟨"TreePasses$Census", "profileOf", "(LTreePasses$Program;III)I"⟩ ∈ q_gd := q_wg (i := 810) (by decide +kernel) (by decide +kernel)
theorem w_812 : Cond.instanceMethod ⟨"TreePasses$Census", "profileOf", "(LTreePasses$Program;III)I"⟩ ∈ q_gd := q_wg (i := 812) (by decide +kernel) (by decide +kernel)
theorem w_814 : Cond.methodLink "TreePasses$Census" 108 ⟨"TreePasses$Census", "sizeOf", "(I)I"⟩ ∈ q_gd := q_wg (i := 814) (by decide +kernel) (by decide +kernel)
theorem w_815 : Cond.instanceMethod ⟨"TreePasses$Census", "sizeOf", "(I)I"⟩ ∈ q_gd := q_wg (i := 815) (by decide +kernel) (by decide +kernel)
theorem w_816 : Cond.selects "TreePasses$Census" ⟨"TreePasses$Census", "sizeOf", "(I)I"⟩ ⟨"TreePasses$Census", "sizeOf", "(I)I"⟩ ∈ q_gd := q_wg (i := 816) (by decide +kernel) (by decide +kernel)
theorem w_818 : Cond.methodLink "TreePasses$Census" 120 ⟨"java/lang/Math", "min", "(II)I"⟩ ∈ q_gd := q_wg (i := 818) (by decide +kernel) (by decide +kernel)
theorem w_819 : Cond.methodLink "TreePasses$Census" 112 ⟨"TreePasses$Census", "isBefore", "(IIIII)Z"⟩ ∈ q_gd := q_wg (i := 819) (by decide +kernel) (by decide +kernel)
theorem w_821 : Cond.instanceMethod ⟨"TreePasses$Census", "isBefore", "(IIIII)Z"⟩ ∈ q_gd := q_wg (i := 821) (by decide +kernel) (by decide +kernel)
theorem w_823 : Cond.methodLink "TreePasses$Census" 125 ⟨"TreePasses$Census", "precedes", "(II)Z"⟩ ∈ q_gd := q_wg (i := 823) (by decide +kernel) (by decide +kernel)
theorem w_825 : Cond.instanceMethod ⟨"TreePasses$Census", "precedes", "(II)Z"⟩ ∈ q_gd := q_wg (i := 825) (by decide +kernel) (by decide +kernel)
theorem w_827 : Cond.methodLink "TreePasses$Census" 66 ⟨"TreePasses$Census", "nearest", "()I"⟩ ∈ q_gd := q_wg (i := 827) (by decide +kernel) (by decide +kernel)
theorem w_829 : Cond.instanceMethod ⟨"TreePasses$Census", "nearest", "()I"⟩ ∈ q_gd := q_wg (i := 829) (by decide +kernel) (by decide +kernel)
theorem w_831 : Cond.methodLink "TreePasses$Census" 74 ⟨"TreePasses$Census", "settle", "(II)V"⟩ ∈ q_gd := q_wg (i := 831) (by decide +kernel) (by decide +kernel)
theorem w_833 : Cond.instanceMethod ⟨"TreePasses$Census", "settle", "(II)V"⟩ ∈ q_gd := q_wg (i := 833) (by decide +kernel) (by decide +kernel)
theorem w_835 : Cond.methodLink "TreePasses$Census" 105 ⟨"TreePasses$Census", "typeIn", "(II)I"⟩ ∈ q_gd := q_wg (i := 835) (by decide +kernel) (by decide +kernel)
theorem w_836 : Cond.static ⟨"TreePasses$Census", "typeIn", "(II)I"⟩ ∈ q_gd := q_wg (i := 836) (by decide +kernel) (by decide +kernel)
theorem w_838 : Cond.methodLink "TreePassesLaw" 106 ⟨"TreePasses", "least", "(III)I"⟩ ∈ q_gd := q_wg (i := 838) (by decide +kernel) (by decide +kernel)
theorem w_839 : Cond.instanceMethod ⟨"TreePasses", "least", "(III)I"⟩ ∈ q_gd := q_wg (i := 839) (by decide +kernel) (by decide +kernel)
theorem w_840 : Cond.selects "TreePasses" ⟨"TreePasses", "least", "(III)I"⟩ ⟨"TreePasses", "least", "(III)I"⟩ ∈ q_gd := q_wg (i := 840) (by decide +kernel) (by decide +kernel)
theorem w_842 : Cond.methodLink "TreePasses" 238 ⟨"TreePasses$Census", "sizeOf", "(I)I"⟩ ∈ q_gd := q_wg (i := 842) (by decide +kernel) (by decide +kernel)
theorem w_843 : Cond.methodLink "TreePasses" 241 ⟨"TreePasses$Census", "letterOf", "(II)I"⟩ ∈ q_gd := q_wg (i := 843) (by decide +kernel) (by decide +kernel)
theorem w_844 : Cond.instanceMethod ⟨"TreePasses$Census", "letterOf", "(II)I"⟩ ∈ q_gd := q_wg (i := 844) (by decide +kernel) (by decide +kernel)
theorem w_845 : Cond.selects "TreePasses$Census" ⟨"TreePasses$Census", "letterOf", "(II)I"⟩ ⟨"TreePasses$Census", "letterOf", "(II)I"⟩ ∈ q_gd := q_wg (i := 845) (by decide +kernel) (by decide +kernel)
theorem w_847 : Cond.methodLink "TreePassesLaw" 110 ⟨"TreePasses", "total", "(III)I"⟩ ∈ q_gd := q_wg (i := 847) (by decide +kernel) (by decide +kernel)
theorem w_848 : Cond.instanceMethod ⟨"TreePasses", "total", "(III)I"⟩ ∈ q_gd := q_wg (i := 848) (by decide +kernel) (by decide +kernel)
theorem w_849 : Cond.selects "TreePasses" ⟨"TreePasses", "total", "(III)I"⟩ ⟨"TreePasses", "total", "(III)I"⟩ ∈ q_gd := q_wg (i := 849) (by decide +kernel) (by decide +kernel)
theorem w_851 : Cond.methodLink "TreePasses" 242 ⟨"TreePasses", "firstLeast", "(IIII)I"⟩ ∈ q_gd := q_wg (i := 851) (by decide +kernel) (by decide +kernel)
theorem w_853 : Cond.instanceMethod ⟨"TreePasses", "firstLeast", "(IIII)I"⟩ ∈ q_gd := q_wg (i := 853) (by decide +kernel) (by decide +kernel)
theorem w_855 : Cond.methodLink "TreePasses" 260 ⟨"TreePasses$Census", "firstWith", "(II)I"⟩ ∈ q_gd := q_wg (i := 855) (by decide +kernel) (by decide +kernel)
theorem w_856 : Cond.instanceMethod ⟨"TreePasses$Census", "firstWith", "(II)I"⟩ ∈ q_gd := q_wg (i := 856) (by decide +kernel) (by decide +kernel)
theorem w_857 : Cond.selects "TreePasses$Census" ⟨"TreePasses$Census", "firstWith", "(II)I"⟩ ⟨"TreePasses$Census", "firstWith", "(II)I"⟩ ∈ q_gd := q_wg (i := 857) (by decide +kernel) (by decide +kernel)
theorem w_859 : Cond.methodLink "TreePassesLaw" 114 ⟨"TreePasses", "typed", "(III)I"⟩ ∈ q_gd := q_wg (i := 859) (by decide +kernel) (by decide +kernel)
theorem w_860 : Cond.instanceMethod ⟨"TreePasses", "typed", "(III)I"⟩ ∈ q_gd := q_wg (i := 860) (by decide +kernel) (by decide +kernel)
theorem w_861 : Cond.selects "TreePasses" ⟨"TreePasses", "typed", "(III)I"⟩ ⟨"TreePasses", "typed", "(III)I"⟩ ∈ q_gd := q_wg (i := 861) (by decide +kernel) (by decide +kernel)
theorem w_863 : Cond.methodLink "TreePassesLaw" 118 ⟨"TreePasses", "keep", "()I"⟩ ∈ q_gd := q_wg (i := 863) (by decide +kernel) (by decide +kernel)
theorem w_864 : Cond.instanceMethod ⟨"TreePasses", "keep", "()I"⟩ ∈ q_gd := q_wg (i := 864) (by decide +kernel) (by decide +kernel)
theorem w_865 : Cond.selects "TreePasses" ⟨"TreePasses", "keep", "()I"⟩ ⟨"TreePasses", "keep", "()I"⟩ ∈ q_gd := q_wg (i := 865) (by decide +kernel) (by decide +kernel)
theorem w_867 : Cond.methodLink "TreePassesLaw" 122 ⟨"TreePasses", "back", "()I"⟩ ∈ q_gd := q_wg (i := 867) (by decide +kernel) (by decide +kernel)
theorem w_868 : Cond.instanceMethod ⟨"TreePasses", "back", "()I"⟩ ∈ q_gd := q_wg (i := 868) (by decide +kernel) (by decide +kernel)
theorem w_869 : Cond.selects "TreePasses" ⟨"TreePasses", "back", "()I"⟩ ⟨"TreePasses", "back", "()I"⟩ ∈ q_gd := q_wg (i := 869) (by decide +kernel) (by decide +kernel)
theorem w_871 : Cond.methodLink "TreePassesLaw" 126 ⟨"TreePasses", "count", "(I)I"⟩ ∈ q_gd := q_wg (i := 871) (by decide +kernel) (by decide +kernel)
theorem w_872 : Cond.instanceMethod ⟨"TreePasses", "count", "(I)I"⟩ ∈ q_gd := q_wg (i := 872) (by decide +kernel) (by decide +kernel)
theorem w_873 : Cond.selects "TreePasses" ⟨"TreePasses", "count", "(I)I"⟩ ⟨"TreePasses", "count", "(I)I"⟩ ∈ q_gd := q_wg (i := 873) (by decide +kernel) (by decide +kernel)
theorem w_875 : Cond.methodLink "TreePasses" 246 ⟨"TreePasses$Program", "rulesOf", "(I)I"⟩ ∈ q_gd := q_wg (i := 875) (by decide +kernel) (by decide +kernel)
theorem w_876 : Cond.instanceMethod ⟨"TreePasses$Program", "rulesOf", "(I)I"⟩ ∈ q_gd := q_wg (i := 876) (by decide +kernel) (by decide +kernel)
theorem w_877 : Cond.selects "TreePasses$Program" ⟨"TreePasses$Program", "rulesOf", "(I)I"⟩ ⟨"TreePasses$Program", "rulesOf", "(I)I"⟩ ∈ q_gd := q_wg (i := 877) (by decide +kernel) (by decide +kernel)
theorem w_879 : Cond.classLink "TreePassesLaw" 10 "TreePassesModel" ∈ q_gd := q_wg (i := 879) (by decide +kernel) (by decide +kernel)
theorem w_880 : Cond.instantiable "TreePassesModel" 33 ∈ q_gd := q_wg (i := 880) (by decide +kernel) (by decide +kernel)
theorem w_881 : Cond.methodLink "TreePassesLaw" 12 ⟨"TreePassesModel", "<init>", "()V"⟩ ∈ q_gd := q_wg (i := 881) (by decide +kernel) (by decide +kernel)
theorem w_882 : Cond.instanceMethod ⟨"TreePassesModel", "<init>", "()V"⟩ ∈ q_gd := q_wg (i := 882) (by decide +kernel) (by decide +kernel)
theorem w_884 : Cond.methodLink "TreePassesModel" 1 ⟨"java/lang/Object", "<init>", "()V"⟩ ∈ q_gd := q_wg (i := 884) (by decide +kernel) (by decide +kernel)
theorem w_885 : Cond.methodLink "TreePassesModel" 74 ⟨"TreePassesModel", "readNone", "()V"⟩ ∈ q_gd := q_wg (i := 885) (by decide +kernel) (by decide +kernel)
theorem w_887 : Cond.instanceMethod ⟨"TreePassesModel", "readNone", "()V"⟩ ∈ q_gd := q_wg (i := 887) (by decide +kernel) (by decide +kernel)
theorem w_889 : Cond.methodLink "TreePassesModel" 77 ⟨"TreePassesModel", "treeIs", "(IIIIIIII)V"⟩ ∈ q_gd := q_wg (i := 889) (by decide +kernel) (by decide +kernel)
theorem w_891 : Cond.instanceMethod ⟨"TreePassesModel", "treeIs", "(IIIIIIII)V"⟩ ∈ q_gd := q_wg (i := 891) (by decide +kernel) (by decide +kernel)
theorem w_893 : Cond.methodLink "TreePassesModel" 81 ⟨"TreePassesModel", "tableAt", "(III)I"⟩ ∈ q_gd := q_wg (i := 893) (by decide +kernel) (by decide +kernel)
theorem w_894 : Cond.static ⟨"TreePassesModel", "tableAt", "(III)I"⟩ ∈ q_gd := q_wg (i := 894) (by decide +kernel) (by decide +kernel)
theorem w_896 : Cond.methodLink "TreePassesModel" 85 ⟨"TreePassesModel", "ruleIs", "(IIIIIIII)V"⟩ ∈ q_gd := q_wg (i := 896) (by decide +kernel) (by decide +kernel)
theorem w_898 : Cond.instanceMethod ⟨"TreePassesModel", "ruleIs", "(IIIIIIII)V"⟩ ∈ q_gd := q_wg (i := 898) (by decide +kernel) (by decide +kernel)
theorem w_900 : Cond.methodLink "TreePassesModel" 88 ⟨"TreePassesModel", "begin", "()V"⟩ ∈ q_gd := q_wg (i := 900) (by decide +kernel) (by decide +kernel)
theorem w_902 : Cond.instanceMethod ⟨"TreePassesModel", "begin", "()V"⟩ ∈ q_gd := q_wg (i := 902) (by decide +kernel) (by decide +kernel)
theorem w_904 : Cond.fieldLink "TreePassesModel" 99 "TreePassesModel" "length" "I" ∈ q_gd := q_wg (i := 904) (by decide +kernel) (by decide +kernel)
theorem w_905 : Cond.fieldLink "TreePassesModel" 7 "TreePassesModel" "text" "[I" ∈ q_gd := q_wg (i := 905) (by decide +kernel) (by decide +kernel)
theorem w_906 : Cond.fieldLink "TreePassesModel" 13 "TreePassesModel" "now" "[I" ∈ q_gd := q_wg (i := 906) (by decide +kernel) (by decide +kernel)
theorem w_907 : Cond.fieldLink "TreePassesModel" 16 "TreePassesModel" "read" "[I" ∈ q_gd := q_wg (i := 907) (by decide +kernel) (by decide +kernel)
theorem w_908 : Cond.fieldLink "TreePassesModel" 19 "TreePassesModel" "before" "[I" ∈ q_gd := q_wg (i := 908) (by decide +kernel) (by decide +kernel)
theorem w_909 : Cond.fieldLink "TreePassesModel" 140 "TreePassesModel" "undoMany" "I" ∈ q_gd := q_wg (i := 909) (by decide +kernel) (by decide +kernel)
theorem w_910 : Cond.fieldLink "TreePassesModel" 22 "TreePassesModel" "kept" "[I" ∈ q_gd := q_wg (i := 910) (by decide +kernel) (by decide +kernel)
theorem w_911 : Cond.fieldLink "TreePassesModel" 143 "TreePassesModel" "keptMany" "I" ∈ q_gd := q_wg (i := 911) (by decide +kernel) (by decide +kernel)
theorem w_912 : Cond.fieldLink "TreePassesModel" 103 "TreePassesModel" "spot" "I" ∈ q_gd := q_wg (i := 912) (by decide +kernel) (by decide +kernel)
theorem w_913 : Cond.fieldLink "TreePassesModel" 25 "TreePassesModel" "told" "[I" ∈ q_gd := q_wg (i := 913) (by decide +kernel) (by decide +kernel)
theorem w_914 : Cond.fieldLink "TreePassesModel" 152 "TreePassesModel" "ground" "I" ∈ q_gd := q_wg (i := 914) (by decide +kernel) (by decide +kernel)
theorem w_915 : Cond.fieldLink "TreePassesModel" 28 "TreePassesModel" "letters" "[I" ∈ q_gd := q_wg (i := 915) (by decide +kernel) (by decide +kernel)
theorem w_916 : Cond.fieldLink "TreePassesModel" 31 "TreePassesModel" "past" "[I" ∈ q_gd := q_wg (i := 916) (by decide +kernel) (by decide +kernel)
theorem w_917 : Cond.fieldLink "TreePassesModel" 34 "TreePassesModel" "values" "[I" ∈ q_gd := q_wg (i := 917) (by decide +kernel) (by decide +kernel)
theorem w_918 : Cond.fieldLink "TreePassesModel" 195 "TreePassesModel" "high" "I" ∈ q_gd := q_wg (i := 918) (by decide +kernel) (by decide +kernel)
theorem w_919 : Cond.fieldLink "TreePassesModel" 37 "TreePassesModel" "pileRule" "[I" ∈ q_gd := q_wg (i := 919) (by decide +kernel) (by decide +kernel)
theorem w_920 : Cond.fieldLink "TreePassesModel" 40 "TreePassesModel" "pilePiece" "[I" ∈ q_gd := q_wg (i := 920) (by decide +kernel) (by decide +kernel)
theorem w_921 : Cond.fieldLink "TreePassesModel" 43 "TreePassesModel" "pileNode" "[I" ∈ q_gd := q_wg (i := 921) (by decide +kernel) (by decide +kernel)
theorem w_922 : Cond.fieldLink "TreePassesModel" 192 "TreePassesModel" "outs" "I" ∈ q_gd := q_wg (i := 922) (by decide +kernel) (by decide +kernel)
theorem w_923 : Cond.fieldLink "TreePassesModel" 46 "TreePassesModel" "output" "[I" ∈ q_gd := q_wg (i := 923) (by decide +kernel) (by decide +kernel)
theorem w_924 : Cond.fieldLink "TreePassesModel" 49 "TreePassesModel" "visited" "[I" ∈ q_gd := q_wg (i := 924) (by decide +kernel) (by decide +kernel)
theorem w_925 : Cond.fieldLink "TreePassesModel" 209 "TreePassesModel" "stuckAt" "I" ∈ q_gd := q_wg (i := 925) (by decide +kernel) (by decide +kernel)
theorem w_926 : Cond.fieldLink "TreePassesModel" 52 "TreePassesModel" "pileAt" "[I" ∈ q_gd := q_wg (i := 926) (by decide +kernel) (by decide +kernel)
theorem w_927 : Cond.fieldLink "TreePassesModel" 55 "TreePassesModel" "pileBelow" "[I" ∈ q_gd := q_wg (i := 927) (by decide +kernel) (by decide +kernel)
theorem w_928 : Cond.fieldLink "TreePassesModel" 218 "TreePassesModel" "underRule" "I" ∈ q_gd := q_wg (i := 928) (by decide +kernel) (by decide +kernel)
theorem w_929 : Cond.fieldLink "TreePassesModel" 221 "TreePassesModel" "underPiece" "I" ∈ q_gd := q_wg (i := 929) (by decide +kernel) (by decide +kernel)
theorem w_930 : Cond.fieldLink "TreePassesModel" 224 "TreePassesModel" "underNode" "I" ∈ q_gd := q_wg (i := 930) (by decide +kernel) (by decide +kernel)
theorem w_931 : Cond.fieldLink "TreePassesModel" 248 "TreePassesModel" "come" "I" ∈ q_gd := q_wg (i := 931) (by decide +kernel) (by decide +kernel)
theorem w_932 : Cond.fieldLink "TreePassesModel" 58 "TreePassesModel" "comes" "[Z" ∈ q_gd := q_wg (i := 932) (by decide +kernel) (by decide +kernel)
theorem w_933 : Cond.fieldLink "TreePassesModel" 62 "TreePassesModel" "sizes" "[I" ∈ q_gd := q_wg (i := 933) (by decide +kernel) (by decide +kernel)
theorem w_934 : Cond.fieldLink "TreePassesModel" 65 "TreePassesModel" "least" "[I" ∈ q_gd := q_wg (i := 934) (by decide +kernel) (by decide +kernel)
theorem w_935 : Cond.fieldLink "TreePassesModel" 68 "TreePassesModel" "typePile" "[I" ∈ q_gd := q_wg (i := 935) (by decide +kernel) (by decide +kernel)
theorem w_936 : Cond.fieldLink "TreePassesModel" 71 "TreePassesModel" "candidate" "[I" ∈ q_gd := q_wg (i := 936) (by decide +kernel) (by decide +kernel)
theorem w_1004 : Cond.methodLink "TreePassesLaw" 17 ⟨"TreePassesModel", "write", "(I)I"⟩ ∈ q_gd := q_wg (i := 1004) (by decide +kernel) (by decide +kernel)
theorem w_1005 : Cond.instanceMethod ⟨"TreePassesModel", "write", "(I)I"⟩ ∈ q_gd := q_wg (i := 1005) (by decide +kernel) (by decide +kernel)
theorem w_1006 : Cond.selects "TreePassesModel" ⟨"TreePassesModel", "write", "(I)I"⟩ ⟨"TreePassesModel", "write", "(I)I"⟩ ∈ q_gd := q_wg (i := 1006) (by decide +kernel) (by decide +kernel)
theorem w_1008 : Cond.constantLong "TreePassesModel" 91 (lN 32) ∈ q_gd := q_wg (i := 1008) (by decide +kernel) (by decide +kernel)
theorem w_1009 : Cond.constantLong "TreePassesModel" 93 (lN 126) ∈ q_gd := q_wg (i := 1009) (by decide +kernel) (by decide +kernel)
theorem w_1010 : Cond.methodLink "TreePassesModel" 95 ⟨"TreePassesModel", "in", "(JJJ)Z"⟩ ∈ q_gd := q_wg (i := 1010) (by decide +kernel) (by decide +kernel)
theorem w_1011 : Cond.static ⟨"TreePassesModel", "in", "(JJJ)Z"⟩ ∈ q_gd := q_wg (i := 1011) (by decide +kernel) (by decide +kernel)
theorem w_1013 : Cond.methodLink "TreePassesLaw" 22 ⟨"TreePassesModel", "wipe", "()I"⟩ ∈ q_gd := q_wg (i := 1013) (by decide +kernel) (by decide +kernel)
theorem w_1014 : Cond.instanceMethod ⟨"TreePassesModel", "wipe", "()I"⟩ ∈ q_gd := q_wg (i := 1014) (by decide +kernel) (by decide +kernel)
theorem w_1015 : Cond.selects "TreePassesModel" ⟨"TreePassesModel", "wipe", "()I"⟩ ⟨"TreePassesModel", "wipe", "()I"⟩ ∈ q_gd := q_wg (i := 1015) (by decide +kernel) (by decide +kernel)
theorem w_1017 : Cond.methodLink "TreePassesLaw" 26 ⟨"TreePassesModel", "fault", "()I"⟩ ∈ q_gd := q_wg (i := 1017) (by decide +kernel) (by decide +kernel)
theorem w_1018 : Cond.instanceMethod ⟨"TreePassesModel", "fault", "()I"⟩ ∈ q_gd := q_wg (i := 1018) (by decide +kernel) (by decide +kernel)
theorem w_1019 : Cond.selects "TreePassesModel" ⟨"TreePassesModel", "fault", "()I"⟩ ⟨"TreePassesModel", "fault", "()I"⟩ ∈ q_gd := q_wg (i := 1019) (by decide +kernel) (by decide +kernel)
theorem w_1021 : Cond.methodLink "TreePassesModel" 136 ⟨"TreePassesModel", "readAll", "()I"⟩ ∈ q_gd := q_wg (i := 1021) (by decide +kernel) (by decide +kernel)
theorem w_1023 : Cond.instanceMethod ⟨"TreePassesModel", "readAll", "()I"⟩ ∈ q_gd := q_wg (i := 1023) (by decide +kernel) (by decide +kernel)
theorem w_1025 : Cond.methodLink "TreePassesModel" 133 ⟨"TreePassesModel", "item", "()Z"⟩ ∈ q_gd := q_wg (i := 1025) (by decide +kernel) (by decide +kernel)
theorem w_1027 : Cond.instanceMethod ⟨"TreePassesModel", "item", "()Z"⟩ ∈ q_gd := q_wg (i := 1027) (by decide +kernel) (by decide +kernel)
theorem w_1029 : Cond.methodLink "TreePassesModel" 106 ⟨"TreePassesModel", "letterAt", "(I)I"⟩ ∈ q_gd := q_wg (i := 1029) (by decide +kernel) (by decide +kernel)
theorem w_1031 : Cond.instanceMethod ⟨"TreePassesModel", "letterAt", "(I)I"⟩ ∈ q_gd := q_wg (i := 1031) (by decide +kernel) (by decide +kernel)
theorem w_1033 : Cond.methodLink "TreePassesModel" 121 ⟨"TreePassesModel", "treeItem", "()Z"⟩ ∈ q_gd := q_wg (i := 1033) (by decide +kernel) (by decide +kernel)
theorem w_1035 : Cond.instanceMethod ⟨"TreePassesModel", "treeItem", "()Z"⟩ ∈ q_gd := q_wg (i := 1035) (by decide +kernel) (by decide +kernel)
theorem w_1037 : Cond.methodLink "TreePassesModel" 110 ⟨"TreePassesModel", "take", "(II)I"⟩ ∈ q_gd := q_wg (i := 1037) (by decide +kernel) (by decide +kernel)
theorem w_1039 : Cond.instanceMethod ⟨"TreePassesModel", "take", "(II)I"⟩ ∈ q_gd := q_wg (i := 1039) (by decide +kernel) (by decide +kernel)
theorem w_1041 : Cond.methodLink "TreePassesModel" 114 ⟨"TreePassesModel", "childrenOf", "(I)I"⟩ ∈ q_gd := q_wg (i := 1041) (by decide +kernel) (by decide +kernel)
theorem w_1042 : Cond.static ⟨"TreePassesModel", "childrenOf", "(I)I"⟩ ∈ q_gd := q_wg (i := 1042) (by decide +kernel) (by decide +kernel)
theorem w_1044 : Cond.methodLink "TreePassesModel" 124 ⟨"TreePassesModel", "kindItem", "()Z"⟩ ∈ q_gd := q_wg (i := 1044) (by decide +kernel) (by decide +kernel)
theorem w_1046 : Cond.instanceMethod ⟨"TreePassesModel", "kindItem", "()Z"⟩ ∈ q_gd := q_wg (i := 1046) (by decide +kernel) (by decide +kernel)
theorem w_1048 : Cond.methodLink "TreePassesModel" 127 ⟨"TreePassesModel", "tableItem", "()Z"⟩ ∈ q_gd := q_wg (i := 1048) (by decide +kernel) (by decide +kernel)
theorem w_1050 : Cond.instanceMethod ⟨"TreePassesModel", "tableItem", "()Z"⟩ ∈ q_gd := q_wg (i := 1050) (by decide +kernel) (by decide +kernel)
theorem w_1052 : Cond.methodLink "TreePassesModel" 130 ⟨"TreePassesModel", "ruleItem", "()Z"⟩ ∈ q_gd := q_wg (i := 1052) (by decide +kernel) (by decide +kernel)
theorem w_1054 : Cond.instanceMethod ⟨"TreePassesModel", "ruleItem", "()Z"⟩ ∈ q_gd := q_wg (i := 1054) (by decide +kernel) (by decide +kernel)
theorem w_1056 : Cond.methodLink "TreePassesModel" 117 ⟨"TreePassesModel", "isRuleTold", "()Z"⟩ ∈ q_gd := q_wg (i := 1056) (by decide +kernel) (by decide +kernel)
theorem w_1058 : Cond.instanceMethod ⟨"TreePassesModel", "isRuleTold", "()Z"⟩ ∈ q_gd := q_wg (i := 1058) (by decide +kernel) (by decide +kernel)
theorem w_1060 : Cond.methodLink "TreePassesLaw" 30 ⟨"TreePassesModel", "lay", "()I"⟩ ∈ q_gd := q_wg (i := 1060) (by decide +kernel) (by decide +kernel)
theorem w_1061 : Cond.instanceMethod ⟨"TreePassesModel", "lay", "()I"⟩ ∈ q_gd := q_wg (i := 1061) (by decide +kernel) (by decide +kernel)
theorem w_1062 : Cond.selects "TreePassesModel" ⟨"TreePassesModel", "lay", "()I"⟩ ⟨"TreePassesModel", "lay", "()I"⟩ ∈ q_gd := q_wg (i := 1062) (by decide +kernel) (by decide +kernel)
theorem w_1064 : Cond.methodLink "TreePassesLaw" 35 ⟨"TreePassesModel", "tree", "(II)I"⟩ ∈ q_gd := q_wg (i := 1064) (by decide +kernel) (by decide +kernel)
theorem w_1065 : Cond.instanceMethod ⟨"TreePassesModel", "tree", "(II)I"⟩ ∈ q_gd := q_wg (i := 1065) (by decide +kernel) (by decide +kernel)
theorem w_1066 : Cond.selects "TreePassesModel" ⟨"TreePassesModel", "tree", "(II)I"⟩ ⟨"TreePassesModel", "tree", "(II)I"⟩ ∈ q_gd := q_wg (i := 1066) (by decide +kernel) (by decide +kernel)
theorem w_1068 : Cond.methodLink "TreePassesModel" 148 ⟨"TreePassesModel", "isTree", "(I)Z"⟩ ∈ q_gd := q_wg (i := 1068) (by decide +kernel) (by decide +kernel)
theorem w_1069 : Cond.static ⟨"TreePassesModel", "isTree", "(I)Z"⟩ ∈ q_gd := q_wg (i := 1069) (by decide +kernel) (by decide +kernel)
theorem w_1071 : Cond.constantLong "TreePassesModel" 146 (lN 2) ∈ q_gd := q_wg (i := 1071) (by decide +kernel) (by decide +kernel)
theorem w_1072 : Cond.methodLink "TreePassesLaw" 40 ⟨"TreePassesModel", "value", "(III)I"⟩ ∈ q_gd := q_wg (i := 1072) (by decide +kernel) (by decide +kernel)
theorem w_1073 : Cond.instanceMethod ⟨"TreePassesModel", "value", "(III)I"⟩ ∈ q_gd := q_wg (i := 1073) (by decide +kernel) (by decide +kernel)
theorem w_1074 : Cond.selects "TreePassesModel" ⟨"TreePassesModel", "value", "(III)I"⟩ ⟨"TreePassesModel", "value", "(III)I"⟩ ∈ q_gd := q_wg (i := 1074) (by decide +kernel) (by decide +kernel)
theorem w_1076 : Cond.methodLink "TreePassesModel" 159 ⟨"TreePassesModel", "isPass", "(I)Z"⟩ ∈ q_gd := q_wg (i := 1076) (by decide +kernel) (by decide +kernel)
theorem w_1077 : Cond.static ⟨"TreePassesModel", "isPass", "(I)Z"⟩ ∈ q_gd := q_wg (i := 1077) (by decide +kernel) (by decide +kernel)
theorem w_1079 : Cond.methodLink "TreePassesModel" 162 ⟨"TreePassesModel", "isNode", "(II)Z"⟩ ∈ q_gd := q_wg (i := 1079) (by decide +kernel) (by decide +kernel)
theorem w_1081 : Cond.instanceMethod ⟨"TreePassesModel", "isNode", "(II)Z"⟩ ∈ q_gd := q_wg (i := 1081) (by decide +kernel) (by decide +kernel)
theorem w_1083 : Cond.methodLink "TreePassesModel" 166 ⟨"TreePassesModel", "groundIs", "(II)V"⟩ ∈ q_gd := q_wg (i := 1083) (by decide +kernel) (by decide +kernel)
theorem w_1085 : Cond.instanceMethod ⟨"TreePassesModel", "groundIs", "(II)V"⟩ ∈ q_gd := q_wg (i := 1085) (by decide +kernel) (by decide +kernel)
theorem w_1087 : Cond.methodLink "TreePassesModel" 155 ⟨"TreePassesModel", "measure", "(I)V"⟩ ∈ q_gd := q_wg (i := 1087) (by decide +kernel) (by decide +kernel)
theorem w_1089 : Cond.instanceMethod ⟨"TreePassesModel", "measure", "(I)V"⟩ ∈ q_gd := q_wg (i := 1089) (by decide +kernel) (by decide +kernel)
theorem w_1091 : Cond.methodLink "TreePassesLaw" 44 ⟨"TreePassesModel", "table", "(III)I"⟩ ∈ q_gd := q_wg (i := 1091) (by decide +kernel) (by decide +kernel)
theorem w_1092 : Cond.instanceMethod ⟨"TreePassesModel", "table", "(III)I"⟩ ∈ q_gd := q_wg (i := 1092) (by decide +kernel) (by decide +kernel)
theorem w_1093 : Cond.selects "TreePassesModel" ⟨"TreePassesModel", "table", "(III)I"⟩ ⟨"TreePassesModel", "table", "(III)I"⟩ ∈ q_gd := q_wg (i := 1093) (by decide +kernel) (by decide +kernel)
theorem w_1095 : Cond.constantLong "TreePassesModel" 170 (lN 4) ∈ q_gd := q_wg (i := 1095) (by decide +kernel) (by decide +kernel)
theorem w_1096 : Cond.methodLink "TreePassesLaw" 48 ⟨"TreePassesModel", "rule", "(II)I"⟩ ∈ q_gd := q_wg (i := 1096) (by decide +kernel) (by decide +kernel)
theorem w_1097 : Cond.instanceMethod ⟨"TreePassesModel", "rule", "(II)I"⟩ ∈ q_gd := q_wg (i := 1097) (by decide +kernel) (by decide +kernel)
theorem w_1098 : Cond.selects "TreePassesModel" ⟨"TreePassesModel", "rule", "(II)I"⟩ ⟨"TreePassesModel", "rule", "(II)I"⟩ ∈ q_gd := q_wg (i := 1098) (by decide +kernel) (by decide +kernel)
theorem w_1100 : Cond.methodLink "TreePassesModel" 172 ⟨"TreePassesModel", "isRule", "(I)Z"⟩ ∈ q_gd := q_wg (i := 1100) (by decide +kernel) (by decide +kernel)
theorem w_1102 : Cond.instanceMethod ⟨"TreePassesModel", "isRule", "(I)Z"⟩ ∈ q_gd := q_wg (i := 1102) (by decide +kernel) (by decide +kernel)
theorem w_1104 : Cond.methodLink "TreePassesModel" 175 ⟨"TreePassesModel", "ruleAt", "(II)I"⟩ ∈ q_gd := q_wg (i := 1104) (by decide +kernel) (by decide +kernel)
theorem w_1106 : Cond.instanceMethod ⟨"TreePassesModel", "ruleAt", "(II)I"⟩ ∈ q_gd := q_wg (i := 1106) (by decide +kernel) (by decide +kernel)
theorem w_1108 : Cond.methodLink "TreePassesLaw" 52 ⟨"TreePassesModel", "piece", "(II)I"⟩ ∈ q_gd := q_wg (i := 1108) (by decide +kernel) (by decide +kernel)
theorem w_1109 : Cond.instanceMethod ⟨"TreePassesModel", "piece", "(II)I"⟩ ∈ q_gd := q_wg (i := 1109) (by decide +kernel) (by decide +kernel)
theorem w_1110 : Cond.selects "TreePassesModel" ⟨"TreePassesModel", "piece", "(II)I"⟩ ⟨"TreePassesModel", "piece", "(II)I"⟩ ∈ q_gd := q_wg (i := 1110) (by decide +kernel) (by decide +kernel)
theorem w_1112 : Cond.methodLink "TreePassesLaw" 56 ⟨"TreePassesModel", "enter", "(I)I"⟩ ∈ q_gd := q_wg (i := 1112) (by decide +kernel) (by decide +kernel)
theorem w_1113 : Cond.instanceMethod ⟨"TreePassesModel", "enter", "(I)I"⟩ ∈ q_gd := q_wg (i := 1113) (by decide +kernel) (by decide +kernel)
theorem w_1114 : Cond.selects "TreePassesModel" ⟨"TreePassesModel", "enter", "(I)I"⟩ ⟨"TreePassesModel", "enter", "(I)I"⟩ ∈ q_gd := q_wg (i := 1114) (by decide +kernel) (by decide +kernel)
theorem w_1116 : Cond.methodLink "TreePassesModel" 178 ⟨"TreePassesModel", "note", "()V"⟩ ∈ q_gd := q_wg (i := 1116) (by decide +kernel) (by decide +kernel)
theorem w_1118 : Cond.instanceMethod ⟨"TreePassesModel", "note", "()V"⟩ ∈ q_gd := q_wg (i := 1118) (by decide +kernel) (by decide +kernel)
theorem w_1120 : Cond.methodLink "TreePassesModel" 181 ⟨"TreePassesModel", "putRule", "(I)V"⟩ ∈ q_gd := q_wg (i := 1120) (by decide +kernel) (by decide +kernel)
theorem w_1122 : Cond.instanceMethod ⟨"TreePassesModel", "putRule", "(I)V"⟩ ∈ q_gd := q_wg (i := 1122) (by decide +kernel) (by decide +kernel)
theorem w_1124 : Cond.methodLink "TreePassesLaw" 60 ⟨"TreePassesModel", "cut", "(I)I"⟩ ∈ q_gd := q_wg (i := 1124) (by decide +kernel) (by decide +kernel)
theorem w_1125 : Cond.instanceMethod ⟨"TreePassesModel", "cut", "(I)I"⟩ ∈ q_gd := q_wg (i := 1125) (by decide +kernel) (by decide +kernel)
theorem w_1126 : Cond.selects "TreePassesModel" ⟨"TreePassesModel", "cut", "(I)I"⟩ ⟨"TreePassesModel", "cut", "(I)I"⟩ ∈ q_gd := q_wg (i := 1126) (by decide +kernel) (by decide +kernel)
theorem w_1128 : Cond.methodLink "TreePassesModel" 184 ⟨"TreePassesModel", "moveRules", "(II)V"⟩ ∈ q_gd := q_wg (i := 1128) (by decide +kernel) (by decide +kernel)
theorem w_1130 : Cond.instanceMethod ⟨"TreePassesModel", "moveRules", "(II)V"⟩ ∈ q_gd := q_wg (i := 1130) (by decide +kernel) (by decide +kernel)
theorem w_1132 : Cond.methodLink "TreePassesLaw" 64 ⟨"TreePassesModel", "shift", "(II)I"⟩ ∈ q_gd := q_wg (i := 1132) (by decide +kernel) (by decide +kernel)
theorem w_1133 : Cond.instanceMethod ⟨"TreePassesModel", "shift", "(II)I"⟩ ∈ q_gd := q_wg (i := 1133) (by decide +kernel) (by decide +kernel)
theorem w_1134 : Cond.selects "TreePassesModel" ⟨"TreePassesModel", "shift", "(II)I"⟩ ⟨"TreePassesModel", "shift", "(II)I"⟩ ∈ q_gd := q_wg (i := 1134) (by decide +kernel) (by decide +kernel)
theorem w_1136 : Cond.methodLink "TreePassesLaw" 68 ⟨"TreePassesModel", "leaf", "(III)I"⟩ ∈ q_gd := q_wg (i := 1136) (by decide +kernel) (by decide +kernel)
theorem w_1137 : Cond.instanceMethod ⟨"TreePassesModel", "leaf", "(III)I"⟩ ∈ q_gd := q_wg (i := 1137) (by decide +kernel) (by decide +kernel)
theorem w_1138 : Cond.selects "TreePassesModel" ⟨"TreePassesModel", "leaf", "(III)I"⟩ ⟨"TreePassesModel", "leaf", "(III)I"⟩ ∈ q_gd := q_wg (i := 1138) (by decide +kernel) (by decide +kernel)
theorem w_1140 : Cond.methodLink "TreePassesLaw" 72 ⟨"TreePassesModel", "flip", "(III)I"⟩ ∈ q_gd := q_wg (i := 1140) (by decide +kernel) (by decide +kernel)
theorem w_1141 : Cond.instanceMethod ⟨"TreePassesModel", "flip", "(III)I"⟩ ∈ q_gd := q_wg (i := 1141) (by decide +kernel) (by decide +kernel)
theorem w_1142 : Cond.selects "TreePassesModel" ⟨"TreePassesModel", "flip", "(III)I"⟩ ⟨"TreePassesModel", "flip", "(III)I"⟩ ∈ q_gd := q_wg (i := 1142) (by decide +kernel) (by decide +kernel)
theorem w_1144 : Cond.methodLink "TreePassesModel" 187 ⟨"TreePassesModel", "table", "(III)I"⟩ ∈ q_gd := q_wg (i := 1144) (by decide +kernel) (by decide +kernel)
theorem w_1145 : Cond.methodLink "TreePassesLaw" 76 ⟨"TreePassesModel", "rename", "(II)I"⟩ ∈ q_gd := q_wg (i := 1145) (by decide +kernel) (by decide +kernel)
theorem w_1146 : Cond.instanceMethod ⟨"TreePassesModel", "rename", "(II)I"⟩ ∈ q_gd := q_wg (i := 1146) (by decide +kernel) (by decide +kernel)
theorem w_1147 : Cond.selects "TreePassesModel" ⟨"TreePassesModel", "rename", "(II)I"⟩ ⟨"TreePassesModel", "rename", "(II)I"⟩ ∈ q_gd := q_wg (i := 1147) (by decide +kernel) (by decide +kernel)
theorem w_1149 : Cond.constantLong "TreePassesModel" 190 (lN 3) ∈ q_gd := q_wg (i := 1149) (by decide +kernel) (by decide +kernel)
theorem w_1150 : Cond.methodLink "TreePassesLaw" 80 ⟨"TreePassesModel", "undo", "()I"⟩ ∈ q_gd := q_wg (i := 1150) (by decide +kernel) (by decide +kernel)
theorem w_1151 : Cond.instanceMethod ⟨"TreePassesModel", "undo", "()I"⟩ ∈ q_gd := q_wg (i := 1151) (by decide +kernel) (by decide +kernel)
theorem w_1152 : Cond.selects "TreePassesModel" ⟨"TreePassesModel", "undo", "()I"⟩ ⟨"TreePassesModel", "undo", "()I"⟩ ∈ q_gd := q_wg (i := 1152) (by decide +kernel) (by decide +kernel)
theorem w_1154 : Cond.methodLink "TreePassesLaw" 85 ⟨"TreePassesModel", "out", "(IIII)I"⟩ ∈ q_gd := q_wg (i := 1154) (by decide +kernel) (by decide +kernel)
theorem w_1155 : Cond.instanceMethod ⟨"TreePassesModel", "out", "(IIII)I"⟩ ∈ q_gd := q_wg (i := 1155) (by decide +kernel) (by decide +kernel)
theorem w_1156 : Cond.selects "TreePassesModel" ⟨"TreePassesModel", "out", "(IIII)I"⟩ ⟨"TreePassesModel", "out", "(IIII)I"⟩ ∈ q_gd := q_wg (i := 1156) (by decide +kernel) (by decide +kernel)
theorem w_1158 : Cond.methodLink "TreePassesModel" 212 ⟨"TreePassesModel", "go", "(II)I"⟩ ∈ q_gd := q_wg (i := 1158) (by decide +kernel) (by decide +kernel)
theorem w_1160 : Cond.instanceMethod ⟨"TreePassesModel", "go", "(II)I"⟩ ∈ q_gd := q_wg (i := 1160) (by decide +kernel) (by decide +kernel)
theorem w_1162 : Cond.methodLink "TreePassesModel" 198 ⟨"TreePassesModel", "isCome", "(III)Z"⟩ ∈ q_gd := q_wg (i := 1162) (by decide +kernel) (by decide +kernel)
theorem w_1164 : Cond.instanceMethod ⟨"TreePassesModel", "isCome", "(III)Z"⟩ ∈ q_gd := q_wg (i := 1164) (by decide +kernel) (by decide +kernel)
theorem w_1166 : Cond.methodLink "TreePassesModel" 205 ⟨"TreePassesModel", "ruleFor", "(IIII)I"⟩ ∈ q_gd := q_wg (i := 1166) (by decide +kernel) (by decide +kernel)
theorem w_1168 : Cond.instanceMethod ⟨"TreePassesModel", "ruleFor", "(IIII)I"⟩ ∈ q_gd := q_wg (i := 1168) (by decide +kernel) (by decide +kernel)
theorem w_1170 : Cond.methodLink "TreePassesModel" 202 ⟨"TreePassesModel", "isSecond", "(III)Z"⟩ ∈ q_gd := q_wg (i := 1170) (by decide +kernel) (by decide +kernel)
theorem w_1172 : Cond.instanceMethod ⟨"TreePassesModel", "isSecond", "(III)Z"⟩ ∈ q_gd := q_wg (i := 1172) (by decide +kernel) (by decide +kernel)
theorem w_1174 : Cond.methodLink "TreePassesModel" 215 ⟨"TreePassesModel", "answer", "(III)I"⟩ ∈ q_gd := q_wg (i := 1174) (by decide +kernel) (by decide +kernel)
theorem w_1176 : Cond.instanceMethod ⟨"TreePassesModel", "answer", "(III)I"⟩ ∈ q_gd := q_wg (i := 1176) (by decide +kernel) (by decide +kernel)
theorem w_1178 : Cond.methodLink "TreePassesLaw" 89 ⟨"TreePassesModel", "both", "(II)I"⟩ ∈ q_gd := q_wg (i := 1178) (by decide +kernel) (by decide +kernel)
theorem w_1179 : Cond.instanceMethod ⟨"TreePassesModel", "both", "(II)I"⟩ ∈ q_gd := q_wg (i := 1179) (by decide +kernel) (by decide +kernel)
theorem w_1180 : Cond.selects "TreePassesModel" ⟨"TreePassesModel", "both", "(II)I"⟩ ⟨"TreePassesModel", "both", "(II)I"⟩ ∈ q_gd := q_wg (i := 1180) (by decide +kernel) (by decide +kernel)
theorem w_1182 : Cond.methodLink "TreePassesLaw" 93 ⟨"TreePassesModel", "one", "(II)I"⟩ ∈ q_gd := q_wg (i := 1182) (by decide +kernel) (by decide +kernel)
theorem w_1183 : Cond.instanceMethod ⟨"TreePassesModel", "one", "(II)I"⟩ ∈ q_gd := q_wg (i := 1183) (by decide +kernel) (by decide +kernel)
theorem w_1184 : Cond.selects "TreePassesModel" ⟨"TreePassesModel", "one", "(II)I"⟩ ⟨"TreePassesModel", "one", "(II)I"⟩ ∈ q_gd := q_wg (i := 1184) (by decide +kernel) (by decide +kernel)
theorem w_1186 : Cond.methodLink "TreePassesModel" 239 ⟨"TreePassesModel", "goAsOne", "()I"⟩ ∈ q_gd := q_wg (i := 1186) (by decide +kernel) (by decide +kernel)
theorem w_1188 : Cond.instanceMethod ⟨"TreePassesModel", "goAsOne", "()I"⟩ ∈ q_gd := q_wg (i := 1188) (by decide +kernel) (by decide +kernel)
theorem w_1190 : Cond.methodLink "TreePassesModel" 227 ⟨"TreePassesModel", "isBegun", "(II)Z"⟩ ∈ q_gd := q_wg (i := 1190) (by decide +kernel) (by decide +kernel)
theorem w_1192 : Cond.instanceMethod ⟨"TreePassesModel", "isBegun", "(II)Z"⟩ ∈ q_gd := q_wg (i := 1192) (by decide +kernel) (by decide +kernel)
theorem w_1194 : Cond.methodLink "TreePassesModel" 233 ⟨"TreePassesModel", "comesUpon", "(I)Z"⟩ ∈ q_gd := q_wg (i := 1194) (by decide +kernel) (by decide +kernel)
theorem w_1196 : Cond.instanceMethod ⟨"TreePassesModel", "comesUpon", "(I)Z"⟩ ∈ q_gd := q_wg (i := 1196) (by decide +kernel) (by decide +kernel)
theorem w_1198 : Cond.methodLink "TreePassesModel" 230 ⟨"TreePassesModel", "isMade", "()Z"⟩ ∈ q_gd := q_wg (i := 1198) (by decide +kernel) (by decide +kernel)
theorem w_1200 : Cond.instanceMethod ⟨"TreePassesModel", "isMade", "()Z"⟩ ∈ q_gd := q_wg (i := 1200) (by decide +kernel) (by decide +kernel)
theorem w_1202 : Cond.methodLink "TreePassesModel" 236 ⟨"TreePassesModel", "behindPart", "(II)I"⟩ ∈ q_gd := q_wg (i := 1202) (by decide +kernel) (by decide +kernel)
theorem w_1204 : Cond.instanceMethod ⟨"TreePassesModel", "behindPart", "(II)I"⟩ ∈ q_gd := q_wg (i := 1204) (by decide +kernel) (by decide +kernel)
theorem w_1206 : Cond.methodLink "TreePassesLaw" 97 ⟨"TreePassesModel", "linear", "(II)I"⟩ ∈ q_gd := q_wg (i := 1206) (by decide +kernel) (by decide +kernel)
theorem w_1207 : Cond.instanceMethod ⟨"TreePassesModel", "linear", "(II)I"⟩ ∈ q_gd := q_wg (i := 1207) (by decide +kernel) (by decide +kernel)
theorem w_1208 : Cond.selects "TreePassesModel" ⟨"TreePassesModel", "linear", "(II)I"⟩ ⟨"TreePassesModel", "linear", "(II)I"⟩ ∈ q_gd := q_wg (i := 1208) (by decide +kernel) (by decide +kernel)
theorem w_1210 : Cond.methodLink "TreePassesLaw" 101 ⟨"TreePassesModel", "visits", "(III)I"⟩ ∈ q_gd := q_wg (i := 1210) (by decide +kernel) (by decide +kernel)
theorem w_1211 : Cond.instanceMethod ⟨"TreePassesModel", "visits", "(III)I"⟩ ∈ q_gd := q_wg (i := 1211) (by decide +kernel) (by decide +kernel)
theorem w_1212 : Cond.selects "TreePassesModel" ⟨"TreePassesModel", "visits", "(III)I"⟩ ⟨"TreePassesModel", "visits", "(III)I"⟩ ∈ q_gd := q_wg (i := 1212) (by decide +kernel) (by decide +kernel)
theorem w_1214 : Cond.methodLink "TreePassesLaw" 105 ⟨"TreePassesModel", "comes", "(I)I"⟩ ∈ q_gd := q_wg (i := 1214) (by decide +kernel) (by decide +kernel)
theorem w_1215 : Cond.instanceMethod ⟨"TreePassesModel", "comes", "(I)I"⟩ ∈ q_gd := q_wg (i := 1215) (by decide +kernel) (by decide +kernel)
theorem w_1216 : Cond.selects "TreePassesModel" ⟨"TreePassesModel", "comes", "(I)I"⟩ ⟨"TreePassesModel", "comes", "(I)I"⟩ ∈ q_gd := q_wg (i := 1216) (by decide +kernel) (by decide +kernel)
theorem w_1218 : Cond.methodLink "TreePassesModel" 257 ⟨"TreePassesModel", "findComing", "(I)V"⟩ ∈ q_gd := q_wg (i := 1218) (by decide +kernel) (by decide +kernel)
theorem w_1220 : Cond.instanceMethod ⟨"TreePassesModel", "findComing", "(I)V"⟩ ∈ q_gd := q_wg (i := 1220) (by decide +kernel) (by decide +kernel)
theorem w_1222 : Cond.methodLink "TreePassesModel" 251 ⟨"TreePassesModel", "mayBe", "(III)Z"⟩ ∈ q_gd := q_wg (i := 1222) (by decide +kernel) (by decide +kernel)
theorem w_1224 : Cond.instanceMethod ⟨"TreePassesModel", "mayBe", "(III)Z"⟩ ∈ q_gd := q_wg (i := 1224) (by decide +kernel) (by decide +kernel)
theorem w_1226 : Cond.methodLink "TreePassesModel" 254 ⟨"TreePassesModel", "profileOf", "(IIII)I"⟩ ∈ q_gd := q_wg (i := 1226) (by decide +kernel) (by decide +kernel)
theorem w_1228 : Cond.instanceMethod ⟨"TreePassesModel", "profileOf", "(IIII)I"⟩ ∈ q_gd := q_wg (i := 1228) (by decide +kernel) (by decide +kernel)
theorem w_1230 : Cond.methodLink "TreePassesModel" 245 ⟨"TreePassesModel", "typeOf", "(IIII)I"⟩ ∈ q_gd := q_wg (i := 1230) (by decide +kernel) (by decide +kernel)
theorem w_1232 : Cond.instanceMethod ⟨"TreePassesModel", "typeOf", "(IIII)I"⟩ ∈ q_gd := q_wg (i := 1232) (by decide +kernel) (by decide +kernel)
theorem w_1234 : Cond.methodLink "TreePassesModel" 242 ⟨"TreePassesModel", "typeIn", "(II)I"⟩ ∈ q_gd := q_wg (i := 1234) (by decide +kernel) (by decide +kernel)
theorem w_1235 : Cond.static ⟨"TreePassesModel", "typeIn", "(II)I"⟩ ∈ q_gd := q_wg (i := 1235) (by decide +kernel) (by decide +kernel)
theorem w_1237 : Cond.methodLink "TreePassesLaw" 109 ⟨"TreePassesModel", "least", "(III)I"⟩ ∈ q_gd := q_wg (i := 1237) (by decide +kernel) (by decide +kernel)
theorem w_1238 : Cond.instanceMethod ⟨"TreePassesModel", "least", "(III)I"⟩ ∈ q_gd := q_wg (i := 1238) (by decide +kernel) (by decide +kernel)
theorem w_1239 : Cond.selects "TreePassesModel" ⟨"TreePassesModel", "least", "(III)I"⟩ ⟨"TreePassesModel", "least", "(III)I"⟩ ∈ q_gd := q_wg (i := 1239) (by decide +kernel) (by decide +kernel)
theorem w_1241 : Cond.constantLong "TreePassesModel" 269 (lN 53) ∈ q_gd := q_wg (i := 1241) (by decide +kernel) (by decide +kernel)
theorem w_1242 : Cond.methodLink "TreePassesModel" 271 ⟨"TreePassesModel", "findLeast", "(I)V"⟩ ∈ q_gd := q_wg (i := 1242) (by decide +kernel) (by decide +kernel)
theorem w_1244 : Cond.instanceMethod ⟨"TreePassesModel", "findLeast", "(I)V"⟩ ∈ q_gd := q_wg (i := 1244) (by decide +kernel) (by decide +kernel)
theorem w_1246 : Cond.methodLink "TreePassesModel" 260 ⟨"TreePassesModel", "sizeOf", "(III)I"⟩ ∈ q_gd := q_wg (i := 1246) (by decide +kernel) (by decide +kernel)
theorem w_1248 : Cond.instanceMethod ⟨"TreePassesModel", "sizeOf", "(III)I"⟩ ∈ q_gd := q_wg (i := 1248) (by decide +kernel) (by decide +kernel)
theorem w_1250 : Cond.methodLink "TreePassesModel" 263 ⟨"TreePassesModel", "build", "(III)I"⟩ ∈ q_gd := q_wg (i := 1250) (by decide +kernel) (by decide +kernel)
theorem w_1252 : Cond.instanceMethod ⟨"TreePassesModel", "build", "(III)I"⟩ ∈ q_gd := q_wg (i := 1252) (by decide +kernel) (by decide +kernel)
theorem w_1254 : Cond.methodLink "TreePassesModel" 266 ⟨"TreePassesModel", "isFirst", "(II)Z"⟩ ∈ q_gd := q_wg (i := 1254) (by decide +kernel) (by decide +kernel)
theorem w_1256 : Cond.instanceMethod ⟨"TreePassesModel", "isFirst", "(II)Z"⟩ ∈ q_gd := q_wg (i := 1256) (by decide +kernel) (by decide +kernel)
theorem w_1258 : Cond.methodLink "TreePassesLaw" 113 ⟨"TreePassesModel", "total", "(III)I"⟩ ∈ q_gd := q_wg (i := 1258) (by decide +kernel) (by decide +kernel)
theorem w_1259 : Cond.instanceMethod ⟨"TreePassesModel", "total", "(III)I"⟩ ∈ q_gd := q_wg (i := 1259) (by decide +kernel) (by decide +kernel)
theorem w_1260 : Cond.selects "TreePassesModel" ⟨"TreePassesModel", "total", "(III)I"⟩ ⟨"TreePassesModel", "total", "(III)I"⟩ ∈ q_gd := q_wg (i := 1260) (by decide +kernel) (by decide +kernel)
theorem w_1262 : Cond.methodLink "TreePassesModel" 277 ⟨"TreePassesModel", "firstWith", "(IIII)I"⟩ ∈ q_gd := q_wg (i := 1262) (by decide +kernel) (by decide +kernel)
theorem w_1264 : Cond.instanceMethod ⟨"TreePassesModel", "firstWith", "(IIII)I"⟩ ∈ q_gd := q_wg (i := 1264) (by decide +kernel) (by decide +kernel)
theorem w_1266 : Cond.methodLink "TreePassesModel" 274 ⟨"TreePassesModel", "isLess", "(II)Z"⟩ ∈ q_gd := q_wg (i := 1266) (by decide +kernel) (by decide +kernel)
theorem w_1268 : Cond.instanceMethod ⟨"TreePassesModel", "isLess", "(II)Z"⟩ ∈ q_gd := q_wg (i := 1268) (by decide +kernel) (by decide +kernel)
theorem w_1270 : Cond.methodLink "TreePassesLaw" 117 ⟨"TreePassesModel", "typed", "(III)I"⟩ ∈ q_gd := q_wg (i := 1270) (by decide +kernel) (by decide +kernel)
theorem w_1271 : Cond.instanceMethod ⟨"TreePassesModel", "typed", "(III)I"⟩ ∈ q_gd := q_wg (i := 1271) (by decide +kernel) (by decide +kernel)
theorem w_1272 : Cond.selects "TreePassesModel" ⟨"TreePassesModel", "typed", "(III)I"⟩ ⟨"TreePassesModel", "typed", "(III)I"⟩ ∈ q_gd := q_wg (i := 1272) (by decide +kernel) (by decide +kernel)
theorem w_1274 : Cond.methodLink "TreePassesLaw" 121 ⟨"TreePassesModel", "keep", "()I"⟩ ∈ q_gd := q_wg (i := 1274) (by decide +kernel) (by decide +kernel)
theorem w_1275 : Cond.instanceMethod ⟨"TreePassesModel", "keep", "()I"⟩ ∈ q_gd := q_wg (i := 1275) (by decide +kernel) (by decide +kernel)
theorem w_1276 : Cond.selects "TreePassesModel" ⟨"TreePassesModel", "keep", "()I"⟩ ⟨"TreePassesModel", "keep", "()I"⟩ ∈ q_gd := q_wg (i := 1276) (by decide +kernel) (by decide +kernel)
theorem w_1278 : Cond.methodLink "TreePassesLaw" 125 ⟨"TreePassesModel", "back", "()I"⟩ ∈ q_gd := q_wg (i := 1278) (by decide +kernel) (by decide +kernel)
theorem w_1279 : Cond.instanceMethod ⟨"TreePassesModel", "back", "()I"⟩ ∈ q_gd := q_wg (i := 1279) (by decide +kernel) (by decide +kernel)
theorem w_1280 : Cond.selects "TreePassesModel" ⟨"TreePassesModel", "back", "()I"⟩ ⟨"TreePassesModel", "back", "()I"⟩ ∈ q_gd := q_wg (i := 1280) (by decide +kernel) (by decide +kernel)
theorem w_1282 : Cond.methodLink "TreePassesLaw" 129 ⟨"TreePassesModel", "count", "(I)I"⟩ ∈ q_gd := q_wg (i := 1282) (by decide +kernel) (by decide +kernel)
theorem w_1283 : Cond.instanceMethod ⟨"TreePassesModel", "count", "(I)I"⟩ ∈ q_gd := q_wg (i := 1283) (by decide +kernel) (by decide +kernel)
theorem w_1284 : Cond.selects "TreePassesModel" ⟨"TreePassesModel", "count", "(I)I"⟩ ⟨"TreePassesModel", "count", "(I)I"⟩ ∈ q_gd := q_wg (i := 1284) (by decide +kernel) (by decide +kernel)
theorem w_1286 : Cond.methodLink "TreePassesModel" 280 ⟨"TreePassesModel", "rulesOf", "(I)I"⟩ ∈ q_gd := q_wg (i := 1286) (by decide +kernel) (by decide +kernel)
theorem w_1288 : Cond.instanceMethod ⟨"TreePassesModel", "rulesOf", "(I)I"⟩ ∈ q_gd := q_wg (i := 1288) (by decide +kernel) (by decide +kernel)
theorem w_1290 : Cond.selects "TreePasses$Unmade" ⟨"TreePasses$Unmade", "nodeAt", "(I)I"⟩ ⟨"TreePasses$Unmade", "nodeAt", "(I)I"⟩ ∈ q_gd := q_wg (i := 1290) (by decide +kernel) (by decide +kernel)
theorem w_1291 : Cond.fieldLink "java/lang/String" 9 "java/lang/String" "value" "[B" ∈ q_gd := q_wg (i := 1291) (by decide +kernel) (by decide +kernel)
theorem w_1292 : Cond.fieldLink "java/lang/String" 15 "java/lang/String" "coder" "B" ∈ q_gd := q_wg (i := 1292) (by decide +kernel) (by decide +kernel)
theorem wp_0 : Cond.selects "TreePasses$Scroll" ⟨"TreePasses$Scroll", "begin", "()V"⟩ ⟨"TreePasses$Scroll", "begin", "()V"⟩ ∈ q_gd := q_wp (i := 0) (q := (⟨"TreePasses$Scroll", "begin", "()V"⟩, 5)) (by decide +kernel)
theorem wp_1 : Cond.selects "TreePasses$Scroll" ⟨"TreePasses$Scroll", "readItem", "(LTreePasses$Program;)V"⟩ ⟨"TreePasses$Scroll", "readItem", "(LTreePasses$Program;)V"⟩ ∈ q_gd := q_wp (i := 1) (q := (⟨"TreePasses$Scroll", "readItem", "(LTreePasses$Program;)V"⟩, 5)) (by decide +kernel)
theorem wp_2 : Cond.selects "TreePasses$Scroll" ⟨"TreePasses$Scroll", "next", "()I"⟩ ⟨"TreePasses$Scroll", "next", "()I"⟩ ∈ q_gd := q_wp (i := 2) (q := (⟨"TreePasses$Scroll", "next", "()I"⟩, 5)) (by decide +kernel)
theorem wp_3 : Cond.selects "TreePasses$Scroll" ⟨"TreePasses$Scroll", "readTree", "(LTreePasses$Program;)V"⟩ ⟨"TreePasses$Scroll", "readTree", "(LTreePasses$Program;)V"⟩ ∈ q_gd := q_wp (i := 3) (q := (⟨"TreePasses$Scroll", "readTree", "(LTreePasses$Program;)V"⟩, 5)) (by decide +kernel)
theorem wp_4 : Cond.selects "TreePasses$Scroll" ⟨"TreePasses$Scroll", "figure", "(I)I"⟩ ⟨"TreePasses$Scroll", "figure", "(I)I"⟩ ∈ q_gd := q_wp (i := 4) (q := (⟨"TreePasses$Scroll", "figure", "(I)I"⟩, 5)) (by decide +kernel)
theorem wp_5 : Cond.selects "TreePasses$Scroll" ⟨"TreePasses$Scroll", "expect", "(C)V"⟩ ⟨"TreePasses$Scroll", "expect", "(C)V"⟩ ∈ q_gd := q_wp (i := 5) (q := (⟨"TreePasses$Scroll", "expect", "(C)V"⟩, 5)) (by decide +kernel)
theorem wp_6 : Cond.selects "TreePasses$Scroll" ⟨"TreePasses$Scroll", "readRow", "([IIII)I"⟩ ⟨"TreePasses$Scroll", "readRow", "([IIII)I"⟩ ∈ q_gd := q_wp (i := 6) (q := (⟨"TreePasses$Scroll", "readRow", "([IIII)I"⟩, 5)) (by decide +kernel)
theorem wp_7 : Cond.selects "TreePasses$Scroll" ⟨"TreePasses$Scroll", "readPiece", "(II)I"⟩ ⟨"TreePasses$Scroll", "readPiece", "(II)I"⟩ ∈ q_gd := q_wp (i := 7) (q := (⟨"TreePasses$Scroll", "readPiece", "(II)I"⟩, 5)) (by decide +kernel)
theorem wp_8 : Cond.selects "TreePasses$Scroll" ⟨"TreePasses$Scroll", "callSign", "(I)I"⟩ ⟨"TreePasses$Scroll", "callSign", "(I)I"⟩ ∈ q_gd := q_wp (i := 8) (q := (⟨"TreePasses$Scroll", "callSign", "(I)I"⟩, 5)) (by decide +kernel)
theorem wp_9 : Cond.selects "TreePasses$Scroll" ⟨"TreePasses$Scroll", "readKind", "(LTreePasses$Program;)V"⟩ ⟨"TreePasses$Scroll", "readKind", "(LTreePasses$Program;)V"⟩ ∈ q_gd := q_wp (i := 9) (q := (⟨"TreePasses$Scroll", "readKind", "(LTreePasses$Program;)V"⟩, 5)) (by decide +kernel)
theorem wp_10 : Cond.selects "TreePasses$Scroll" ⟨"TreePasses$Scroll", "readEntries", "(LTreePasses$Program;)V"⟩ ⟨"TreePasses$Scroll", "readEntries", "(LTreePasses$Program;)V"⟩ ∈ q_gd := q_wp (i := 10) (q := (⟨"TreePasses$Scroll", "readEntries", "(LTreePasses$Program;)V"⟩, 5)) (by decide +kernel)
theorem wp_11 : Cond.selects "TreePasses$Scroll" ⟨"TreePasses$Scroll", "letter", "()I"⟩ ⟨"TreePasses$Scroll", "letter", "()I"⟩ ∈ q_gd := q_wp (i := 11) (q := (⟨"TreePasses$Scroll", "letter", "()I"⟩, 5)) (by decide +kernel)
theorem wp_12 : Cond.selects "TreePasses$Scroll" ⟨"TreePasses$Scroll", "readRule", "([I)V"⟩ ⟨"TreePasses$Scroll", "readRule", "([I)V"⟩ ∈ q_gd := q_wp (i := 12) (q := (⟨"TreePasses$Scroll", "readRule", "([I)V"⟩, 5)) (by decide +kernel)
theorem wp_13 : Cond.selects "TreePasses$Scroll" ⟨"TreePasses$Scroll", "sight", "()I"⟩ ⟨"TreePasses$Scroll", "sight", "()I"⟩ ∈ q_gd := q_wp (i := 13) (q := (⟨"TreePasses$Scroll", "sight", "()I"⟩, 5)) (by decide +kernel)
theorem wp_14 : Cond.selects "TreePasses$Program" ⟨"TreePasses$Program", "offerRule", "(II)V"⟩ ⟨"TreePasses$Program", "offerRule", "(II)V"⟩ ∈ q_gd := q_wp (i := 14) (q := (⟨"TreePasses$Program", "offerRule", "(II)V"⟩, 7)) (by decide +kernel)
theorem wp_15 : Cond.selects "TreePasses" ⟨"TreePasses", "forgetCensus", "()V"⟩ ⟨"TreePasses", "forgetCensus", "()V"⟩ ∈ q_gd := q_wp (i := 15) (q := (⟨"TreePasses", "forgetCensus", "()V"⟩, 12)) (by decide +kernel)
theorem wp_16 : Cond.selects "TreePasses$Standing" ⟨"TreePasses$Standing", "weigh", "(LTreePasses$Program;I)V"⟩ ⟨"TreePasses$Standing", "weigh", "(LTreePasses$Program;I)V"⟩ ∈ q_gd := q_wp (i := 16) (q := (⟨"TreePasses$Standing", "weigh", "(LTreePasses$Program;I)V"⟩, 4)) (by decide +kernel)
theorem wp_17 : Cond.selects "TreePasses$Shelf" ⟨"TreePasses$Shelf", "placeOf", "(I)I"⟩ ⟨"TreePasses$Shelf", "placeOf", "(I)I"⟩ ∈ q_gd := q_wp (i := 17) (q := (⟨"TreePasses$Shelf", "placeOf", "(I)I"⟩, 3)) (by decide +kernel)
theorem wp_18 : Cond.selects "TreePasses" ⟨"TreePasses", "changed", "()V"⟩ ⟨"TreePasses", "changed", "()V"⟩ ∈ q_gd := q_wp (i := 18) (q := (⟨"TreePasses", "changed", "()V"⟩, 12)) (by decide +kernel)
theorem wp_19 : Cond.selects "TreePasses$Unmade" ⟨"TreePasses$Unmade", "make", "(LTreePasses$Program;II)I"⟩ ⟨"TreePasses$Unmade", "make", "(LTreePasses$Program;II)I"⟩ ∈ q_gd := q_wp (i := 19) (q := (⟨"TreePasses$Unmade", "make", "(LTreePasses$Program;II)I"⟩, 1)) (by decide +kernel)
theorem wp_20 : Cond.selects "TreePasses$Walk" ⟨"TreePasses$Walk", "come", "(LTreePasses$Program;LTreePasses$Ground;III)I"⟩ ⟨"TreePasses$Walk", "come", "(LTreePasses$Program;LTreePasses$Ground;III)I"⟩ ∈ q_gd := q_wp (i := 20) (q := (⟨"TreePasses$Walk", "come", "(LTreePasses$Program;LTreePasses$Ground;III)I"⟩, 7)) (by decide +kernel)
theorem wp_21 : Cond.selects "TreePasses$Walk" ⟨"TreePasses$Walk", "step", "(LTreePasses$Program;LTreePasses$Ground;I)I"⟩ ⟨"TreePasses$Walk", "step", "(LTreePasses$Program;LTreePasses$Ground;I)I"⟩ ∈ q_gd := q_wp (i := 21) (q := (⟨"TreePasses$Walk", "step", "(LTreePasses$Program;LTreePasses$Ground;I)I"⟩, 7)) (by decide +kernel)
theorem wp_22 : Cond.selects "TreePasses$Walk" ⟨"TreePasses$Walk", "append", "(I)I"⟩ ⟨"TreePasses$Walk", "append", "(I)I"⟩ ∈ q_gd := q_wp (i := 22) (q := (⟨"TreePasses$Walk", "append", "(I)I"⟩, 7)) (by decide +kernel)
theorem wp_23 : Cond.selects "TreePasses" ⟨"TreePasses", "letterMade", "(II)I"⟩ ⟨"TreePasses", "letterMade", "(II)I"⟩ ∈ q_gd := q_wp (i := 23) (q := (⟨"TreePasses", "letterMade", "(II)I"⟩, 12)) (by decide +kernel)
theorem wp_24 : Cond.selects "TreePasses$Program" ⟨"TreePasses$Program", "callsFor", "(II)I"⟩ ⟨"TreePasses$Program", "callsFor", "(II)I"⟩ ∈ q_gd := q_wp (i := 24) (q := (⟨"TreePasses$Program", "callsFor", "(II)I"⟩, 7)) (by decide +kernel)
theorem wp_25 : Cond.selects "TreePasses" ⟨"TreePasses", "censusOf", "(I)LTreePasses$Census;"⟩ ⟨"TreePasses", "censusOf", "(I)LTreePasses$Census;"⟩ ∈ q_gd := q_wp (i := 25) (q := (⟨"TreePasses", "censusOf", "(I)LTreePasses$Census;"⟩, 12)) (by decide +kernel)
theorem wp_26 : Cond.selects "TreePasses$Census" ⟨"TreePasses$Census", "begin", "(LTreePasses$Program;)V"⟩ ⟨"TreePasses$Census", "begin", "(LTreePasses$Program;)V"⟩ ∈ q_gd := q_wp (i := 26) (q := (⟨"TreePasses$Census", "begin", "(LTreePasses$Program;)V"⟩, 15)) (by decide +kernel)
theorem wp_27 : Cond.selects "TreePasses$Census" ⟨"TreePasses$Census", "workOut", "(LTreePasses$Program;I)V"⟩ ⟨"TreePasses$Census", "workOut", "(LTreePasses$Program;I)V"⟩ ∈ q_gd := q_wp (i := 27) (q := (⟨"TreePasses$Census", "workOut", "(LTreePasses$Program;I)V"⟩, 15)) (by decide +kernel)
theorem wp_28 : Cond.selects "TreePasses$Census" ⟨"TreePasses$Census", "typeAbove", "(LTreePasses$Program;II)J"⟩ ⟨"TreePasses$Census", "typeAbove", "(LTreePasses$Program;II)J"⟩ ∈ q_gd := q_wp (i := 28) (q := (⟨"TreePasses$Census", "typeAbove", "(LTreePasses$Program;II)J"⟩, 15)) (by decide +kernel)
theorem wp_29 : Cond.selects "TreePasses$Census" ⟨"TreePasses$Census", "offer", "(LTreePasses$Program;III)V"⟩ ⟨"TreePasses$Census", "offer", "(LTreePasses$Program;III)V"⟩ ∈ q_gd := q_wp (i := 29) (q := (⟨"TreePasses$Census", "offer", "(LTreePasses$Program;III)V"⟩, 15)) (by decide +kernel)
theorem wp_30 : Cond.selects "TreePasses$Census" ⟨"TreePasses$Census", "profileOf", "(LTreePasses$Program;III)I"⟩ ⟨"TreePasses$Census", "profileOf", "(LTreePasses$Program;III)I"⟩ ∈ q_gd := q_wp (i := 30) (q := (⟨"TreePasses$Census", "profileOf", "(LTreePasses$Program;III)I"⟩, 15)) (by decide +kernel)
theorem wp_31 : Cond.selects "TreePasses$Census" ⟨"TreePasses$Census", "isBefore", "(IIIII)Z"⟩ ⟨"TreePasses$Census", "isBefore", "(IIIII)Z"⟩ ∈ q_gd := q_wp (i := 31) (q := (⟨"TreePasses$Census", "isBefore", "(IIIII)Z"⟩, 15)) (by decide +kernel)
theorem wp_32 : Cond.selects "TreePasses$Census" ⟨"TreePasses$Census", "precedes", "(II)Z"⟩ ⟨"TreePasses$Census", "precedes", "(II)Z"⟩ ∈ q_gd := q_wp (i := 32) (q := (⟨"TreePasses$Census", "precedes", "(II)Z"⟩, 15)) (by decide +kernel)
theorem wp_33 : Cond.selects "TreePasses$Census" ⟨"TreePasses$Census", "nearest", "()I"⟩ ⟨"TreePasses$Census", "nearest", "()I"⟩ ∈ q_gd := q_wp (i := 33) (q := (⟨"TreePasses$Census", "nearest", "()I"⟩, 15)) (by decide +kernel)
theorem wp_34 : Cond.selects "TreePasses$Census" ⟨"TreePasses$Census", "settle", "(II)V"⟩ ⟨"TreePasses$Census", "settle", "(II)V"⟩ ∈ q_gd := q_wp (i := 34) (q := (⟨"TreePasses$Census", "settle", "(II)V"⟩, 15)) (by decide +kernel)
theorem wp_35 : Cond.selects "TreePasses" ⟨"TreePasses", "firstLeast", "(IIII)I"⟩ ⟨"TreePasses", "firstLeast", "(IIII)I"⟩ ∈ q_gd := q_wp (i := 35) (q := (⟨"TreePasses", "firstLeast", "(IIII)I"⟩, 12)) (by decide +kernel)
theorem wp_36 : Cond.selects "TreePassesModel" ⟨"TreePassesModel", "readNone", "()V"⟩ ⟨"TreePassesModel", "readNone", "()V"⟩ ∈ q_gd := q_wp (i := 36) (q := (⟨"TreePassesModel", "readNone", "()V"⟩, 33)) (by decide +kernel)
theorem wp_37 : Cond.selects "TreePassesModel" ⟨"TreePassesModel", "treeIs", "(IIIIIIII)V"⟩ ⟨"TreePassesModel", "treeIs", "(IIIIIIII)V"⟩ ∈ q_gd := q_wp (i := 37) (q := (⟨"TreePassesModel", "treeIs", "(IIIIIIII)V"⟩, 33)) (by decide +kernel)
theorem wp_38 : Cond.selects "TreePassesModel" ⟨"TreePassesModel", "ruleIs", "(IIIIIIII)V"⟩ ⟨"TreePassesModel", "ruleIs", "(IIIIIIII)V"⟩ ∈ q_gd := q_wp (i := 38) (q := (⟨"TreePassesModel", "ruleIs", "(IIIIIIII)V"⟩, 33)) (by decide +kernel)
theorem wp_39 : Cond.selects "TreePassesModel" ⟨"TreePassesModel", "begin", "()V"⟩ ⟨"TreePassesModel", "begin", "()V"⟩ ∈ q_gd := q_wp (i := 39) (q := (⟨"TreePassesModel", "begin", "()V"⟩, 33)) (by decide +kernel)
theorem wp_40 : Cond.selects "TreePassesModel" ⟨"TreePassesModel", "readAll", "()I"⟩ ⟨"TreePassesModel", "readAll", "()I"⟩ ∈ q_gd := q_wp (i := 40) (q := (⟨"TreePassesModel", "readAll", "()I"⟩, 33)) (by decide +kernel)
theorem wp_41 : Cond.selects "TreePassesModel" ⟨"TreePassesModel", "item", "()Z"⟩ ⟨"TreePassesModel", "item", "()Z"⟩ ∈ q_gd := q_wp (i := 41) (q := (⟨"TreePassesModel", "item", "()Z"⟩, 33)) (by decide +kernel)
theorem wp_42 : Cond.selects "TreePassesModel" ⟨"TreePassesModel", "letterAt", "(I)I"⟩ ⟨"TreePassesModel", "letterAt", "(I)I"⟩ ∈ q_gd := q_wp (i := 42) (q := (⟨"TreePassesModel", "letterAt", "(I)I"⟩, 33)) (by decide +kernel)
theorem wp_43 : Cond.selects "TreePassesModel" ⟨"TreePassesModel", "treeItem", "()Z"⟩ ⟨"TreePassesModel", "treeItem", "()Z"⟩ ∈ q_gd := q_wp (i := 43) (q := (⟨"TreePassesModel", "treeItem", "()Z"⟩, 33)) (by decide +kernel)
theorem wp_44 : Cond.selects "TreePassesModel" ⟨"TreePassesModel", "take", "(II)I"⟩ ⟨"TreePassesModel", "take", "(II)I"⟩ ∈ q_gd := q_wp (i := 44) (q := (⟨"TreePassesModel", "take", "(II)I"⟩, 33)) (by decide +kernel)
theorem wp_45 : Cond.selects "TreePassesModel" ⟨"TreePassesModel", "kindItem", "()Z"⟩ ⟨"TreePassesModel", "kindItem", "()Z"⟩ ∈ q_gd := q_wp (i := 45) (q := (⟨"TreePassesModel", "kindItem", "()Z"⟩, 33)) (by decide +kernel)
theorem wp_46 : Cond.selects "TreePassesModel" ⟨"TreePassesModel", "tableItem", "()Z"⟩ ⟨"TreePassesModel", "tableItem", "()Z"⟩ ∈ q_gd := q_wp (i := 46) (q := (⟨"TreePassesModel", "tableItem", "()Z"⟩, 33)) (by decide +kernel)
theorem wp_47 : Cond.selects "TreePassesModel" ⟨"TreePassesModel", "ruleItem", "()Z"⟩ ⟨"TreePassesModel", "ruleItem", "()Z"⟩ ∈ q_gd := q_wp (i := 47) (q := (⟨"TreePassesModel", "ruleItem", "()Z"⟩, 33)) (by decide +kernel)
theorem wp_48 : Cond.selects "TreePassesModel" ⟨"TreePassesModel", "isRuleTold", "()Z"⟩ ⟨"TreePassesModel", "isRuleTold", "()Z"⟩ ∈ q_gd := q_wp (i := 48) (q := (⟨"TreePassesModel", "isRuleTold", "()Z"⟩, 33)) (by decide +kernel)
theorem wp_49 : Cond.selects "TreePassesModel" ⟨"TreePassesModel", "isNode", "(II)Z"⟩ ⟨"TreePassesModel", "isNode", "(II)Z"⟩ ∈ q_gd := q_wp (i := 49) (q := (⟨"TreePassesModel", "isNode", "(II)Z"⟩, 33)) (by decide +kernel)
theorem wp_50 : Cond.selects "TreePassesModel" ⟨"TreePassesModel", "groundIs", "(II)V"⟩ ⟨"TreePassesModel", "groundIs", "(II)V"⟩ ∈ q_gd := q_wp (i := 50) (q := (⟨"TreePassesModel", "groundIs", "(II)V"⟩, 33)) (by decide +kernel)
theorem wp_51 : Cond.selects "TreePassesModel" ⟨"TreePassesModel", "measure", "(I)V"⟩ ⟨"TreePassesModel", "measure", "(I)V"⟩ ∈ q_gd := q_wp (i := 51) (q := (⟨"TreePassesModel", "measure", "(I)V"⟩, 33)) (by decide +kernel)
theorem wp_52 : Cond.selects "TreePassesModel" ⟨"TreePassesModel", "isRule", "(I)Z"⟩ ⟨"TreePassesModel", "isRule", "(I)Z"⟩ ∈ q_gd := q_wp (i := 52) (q := (⟨"TreePassesModel", "isRule", "(I)Z"⟩, 33)) (by decide +kernel)
theorem wp_53 : Cond.selects "TreePassesModel" ⟨"TreePassesModel", "ruleAt", "(II)I"⟩ ⟨"TreePassesModel", "ruleAt", "(II)I"⟩ ∈ q_gd := q_wp (i := 53) (q := (⟨"TreePassesModel", "ruleAt", "(II)I"⟩, 33)) (by decide +kernel)
theorem wp_54 : Cond.selects "TreePassesModel" ⟨"TreePassesModel", "note", "()V"⟩ ⟨"TreePassesModel", "note", "()V"⟩ ∈ q_gd := q_wp (i := 54) (q := (⟨"TreePassesModel", "note", "()V"⟩, 33)) (by decide +kernel)
theorem wp_55 : Cond.selects "TreePassesModel" ⟨"TreePassesModel", "putRule", "(I)V"⟩ ⟨"TreePassesModel", "putRule", "(I)V"⟩ ∈ q_gd := q_wp (i := 55) (q := (⟨"TreePassesModel", "putRule", "(I)V"⟩, 33)) (by decide +kernel)
theorem wp_56 : Cond.selects "TreePassesModel" ⟨"TreePassesModel", "moveRules", "(II)V"⟩ ⟨"TreePassesModel", "moveRules", "(II)V"⟩ ∈ q_gd := q_wp (i := 56) (q := (⟨"TreePassesModel", "moveRules", "(II)V"⟩, 33)) (by decide +kernel)
theorem wp_57 : Cond.selects "TreePassesModel" ⟨"TreePassesModel", "go", "(II)I"⟩ ⟨"TreePassesModel", "go", "(II)I"⟩ ∈ q_gd := q_wp (i := 57) (q := (⟨"TreePassesModel", "go", "(II)I"⟩, 33)) (by decide +kernel)
theorem wp_58 : Cond.selects "TreePassesModel" ⟨"TreePassesModel", "isCome", "(III)Z"⟩ ⟨"TreePassesModel", "isCome", "(III)Z"⟩ ∈ q_gd := q_wp (i := 58) (q := (⟨"TreePassesModel", "isCome", "(III)Z"⟩, 33)) (by decide +kernel)
theorem wp_59 : Cond.selects "TreePassesModel" ⟨"TreePassesModel", "ruleFor", "(IIII)I"⟩ ⟨"TreePassesModel", "ruleFor", "(IIII)I"⟩ ∈ q_gd := q_wp (i := 59) (q := (⟨"TreePassesModel", "ruleFor", "(IIII)I"⟩, 33)) (by decide +kernel)
theorem wp_60 : Cond.selects "TreePassesModel" ⟨"TreePassesModel", "isSecond", "(III)Z"⟩ ⟨"TreePassesModel", "isSecond", "(III)Z"⟩ ∈ q_gd := q_wp (i := 60) (q := (⟨"TreePassesModel", "isSecond", "(III)Z"⟩, 33)) (by decide +kernel)
theorem wp_61 : Cond.selects "TreePassesModel" ⟨"TreePassesModel", "answer", "(III)I"⟩ ⟨"TreePassesModel", "answer", "(III)I"⟩ ∈ q_gd := q_wp (i := 61) (q := (⟨"TreePassesModel", "answer", "(III)I"⟩, 33)) (by decide +kernel)
theorem wp_62 : Cond.selects "TreePassesModel" ⟨"TreePassesModel", "goAsOne", "()I"⟩ ⟨"TreePassesModel", "goAsOne", "()I"⟩ ∈ q_gd := q_wp (i := 62) (q := (⟨"TreePassesModel", "goAsOne", "()I"⟩, 33)) (by decide +kernel)
theorem wp_63 : Cond.selects "TreePassesModel" ⟨"TreePassesModel", "isBegun", "(II)Z"⟩ ⟨"TreePassesModel", "isBegun", "(II)Z"⟩ ∈ q_gd := q_wp (i := 63) (q := (⟨"TreePassesModel", "isBegun", "(II)Z"⟩, 33)) (by decide +kernel)
theorem wp_64 : Cond.selects "TreePassesModel" ⟨"TreePassesModel", "comesUpon", "(I)Z"⟩ ⟨"TreePassesModel", "comesUpon", "(I)Z"⟩ ∈ q_gd := q_wp (i := 64) (q := (⟨"TreePassesModel", "comesUpon", "(I)Z"⟩, 33)) (by decide +kernel)
theorem wp_65 : Cond.selects "TreePassesModel" ⟨"TreePassesModel", "isMade", "()Z"⟩ ⟨"TreePassesModel", "isMade", "()Z"⟩ ∈ q_gd := q_wp (i := 65) (q := (⟨"TreePassesModel", "isMade", "()Z"⟩, 33)) (by decide +kernel)
theorem wp_66 : Cond.selects "TreePassesModel" ⟨"TreePassesModel", "behindPart", "(II)I"⟩ ⟨"TreePassesModel", "behindPart", "(II)I"⟩ ∈ q_gd := q_wp (i := 66) (q := (⟨"TreePassesModel", "behindPart", "(II)I"⟩, 33)) (by decide +kernel)
theorem wp_67 : Cond.selects "TreePassesModel" ⟨"TreePassesModel", "findComing", "(I)V"⟩ ⟨"TreePassesModel", "findComing", "(I)V"⟩ ∈ q_gd := q_wp (i := 67) (q := (⟨"TreePassesModel", "findComing", "(I)V"⟩, 33)) (by decide +kernel)
theorem wp_68 : Cond.selects "TreePassesModel" ⟨"TreePassesModel", "mayBe", "(III)Z"⟩ ⟨"TreePassesModel", "mayBe", "(III)Z"⟩ ∈ q_gd := q_wp (i := 68) (q := (⟨"TreePassesModel", "mayBe", "(III)Z"⟩, 33)) (by decide +kernel)
theorem wp_69 : Cond.selects "TreePassesModel" ⟨"TreePassesModel", "profileOf", "(IIII)I"⟩ ⟨"TreePassesModel", "profileOf", "(IIII)I"⟩ ∈ q_gd := q_wp (i := 69) (q := (⟨"TreePassesModel", "profileOf", "(IIII)I"⟩, 33)) (by decide +kernel)
theorem wp_70 : Cond.selects "TreePassesModel" ⟨"TreePassesModel", "typeOf", "(IIII)I"⟩ ⟨"TreePassesModel", "typeOf", "(IIII)I"⟩ ∈ q_gd := q_wp (i := 70) (q := (⟨"TreePassesModel", "typeOf", "(IIII)I"⟩, 33)) (by decide +kernel)
theorem wp_71 : Cond.selects "TreePassesModel" ⟨"TreePassesModel", "findLeast", "(I)V"⟩ ⟨"TreePassesModel", "findLeast", "(I)V"⟩ ∈ q_gd := q_wp (i := 71) (q := (⟨"TreePassesModel", "findLeast", "(I)V"⟩, 33)) (by decide +kernel)
theorem wp_72 : Cond.selects "TreePassesModel" ⟨"TreePassesModel", "sizeOf", "(III)I"⟩ ⟨"TreePassesModel", "sizeOf", "(III)I"⟩ ∈ q_gd := q_wp (i := 72) (q := (⟨"TreePassesModel", "sizeOf", "(III)I"⟩, 33)) (by decide +kernel)
theorem wp_73 : Cond.selects "TreePassesModel" ⟨"TreePassesModel", "build", "(III)I"⟩ ⟨"TreePassesModel", "build", "(III)I"⟩ ∈ q_gd := q_wp (i := 73) (q := (⟨"TreePassesModel", "build", "(III)I"⟩, 33)) (by decide +kernel)
theorem wp_74 : Cond.selects "TreePassesModel" ⟨"TreePassesModel", "isFirst", "(II)Z"⟩ ⟨"TreePassesModel", "isFirst", "(II)Z"⟩ ∈ q_gd := q_wp (i := 74) (q := (⟨"TreePassesModel", "isFirst", "(II)Z"⟩, 33)) (by decide +kernel)
theorem wp_75 : Cond.selects "TreePassesModel" ⟨"TreePassesModel", "firstWith", "(IIII)I"⟩ ⟨"TreePassesModel", "firstWith", "(IIII)I"⟩ ∈ q_gd := q_wp (i := 75) (q := (⟨"TreePassesModel", "firstWith", "(IIII)I"⟩, 33)) (by decide +kernel)
theorem wp_76 : Cond.selects "TreePassesModel" ⟨"TreePassesModel", "isLess", "(II)Z"⟩ ⟨"TreePassesModel", "isLess", "(II)Z"⟩ ∈ q_gd := q_wp (i := 76) (q := (⟨"TreePassesModel", "isLess", "(II)Z"⟩, 33)) (by decide +kernel)
theorem wp_77 : Cond.selects "TreePassesModel" ⟨"TreePassesModel", "rulesOf", "(I)I"⟩ ⟨"TreePassesModel", "rulesOf", "(I)I"⟩ ∈ q_gd := q_wp (i := 77) (q := (⟨"TreePassesModel", "rulesOf", "(I)I"⟩, 33)) (by decide +kernel)
theorem w_oi : Cond.instanceMethod ⟨"java/lang/Object", "<init>", "()V"⟩ ∈ q_gd := q_wg (i := 24) (by decide +kernel) (by decide +kernel)
theorem w_cn : Cond.native ⟨"java/lang/System", "arraycopy", "(Ljava/lang/Object;ILjava/lang/Object;II)V"⟩ ∈ q_gd := q_wg (i := 338) (by decide +kernel) (by decide +kernel)
theorem w_cs : Cond.static ⟨"java/lang/System", "arraycopy", "(Ljava/lang/Object;ILjava/lang/Object;II)V"⟩ ∈ q_gd := q_wg (i := 337) (by decide +kernel) (by decide +kernel)
theorem w_ci : Cond.initialized "java/lang/System" ∈ q_gd := q_wg (i := 16) (by decide +kernel) (by decide +kernel)
theorem w_mi : Cond.initialized "java/lang/Math" ∈ q_gd := q_wg (i := 3) (by decide +kernel) (by decide +kernel)
theorem w_as : Cond.static ⟨"java/lang/Math", "abs", "(I)I"⟩ ∈ q_gd := q_wg (i := 582) (by decide +kernel) (by decide +kernel)
theorem w_xs : Cond.static ⟨"java/lang/Math", "max", "(II)I"⟩ ∈ q_gd := q_wg (i := 33) (by decide +kernel) (by decide +kernel)
theorem w_ns : Cond.static ⟨"java/lang/Math", "min", "(II)I"⟩ ∈ q_gd := q_wg (i := 500) (by decide +kernel) (by decide +kernel)
theorem w_oc : Cond.code Lib.objectInit ⟨#[0xb1]⟩ 1 none ∈ q_gd := q_wg (i := 25) (by decide +kernel) (by decide +kernel)
theorem w_ac : Cond.code Lib.Math.abs.name Lib.Math.abs.code 1 (some .int) ∈ q_gd := q_wg (i := 583) (by decide +kernel) (by decide +kernel)
theorem w_xc : Cond.code Lib.Math.max.name Lib.Math.max.code 2 (some .int) ∈ q_gd := q_wg (i := 34) (by decide +kernel) (by decide +kernel)
theorem w_nc : Cond.code Lib.Math.min.name Lib.Math.min.code 2 (some .int) ∈ q_gd := q_wg (i := 501) (by decide +kernel) (by decide +kernel)
def m_0 : q_M := (⟨"TreePassesModel", "childrenOf", "(I)I"⟩, prog_11_method_7_code, 1, (some FieldType.int), { frames := 0, cells := 0, slots := 0, locals := 0 })
def m_1 : q_M := (⟨"TreePassesModel", "mayBe", "(III)Z"⟩, prog_11_method_63_code, 5, (some FieldType.boolean), { frames := 1, cells := 0, slots := 0, locals := 20 })
def m_2 : q_M := (⟨"TreePasses", "within", "(II)Z"⟩, prog_1_method_30_code, 2, (some FieldType.boolean), { frames := 0, cells := 0, slots := 0, locals := 0 })
def m_3 : q_M := (⟨"TreePassesModel", "ruleAt", "(II)I"⟩, prog_11_method_27_code, 3, (some FieldType.int), { frames := 0, cells := 0, slots := 0, locals := 0 })
def m_4 : q_M := (⟨"TreePasses$Scroll", "next", "()I"⟩, prog_5_method_20_code, 1, (some FieldType.int), { frames := 0, cells := 0, slots := 0, locals := 0 })
def m_5 : q_M := (⟨"TreePasses$Scroll", "add", "(I)Z"⟩, prog_5_method_2_code, 2, (some FieldType.boolean), { frames := 0, cells := 0, slots := 0, locals := 0 })
def m_6 : q_M := (⟨"TreePasses$Program", "cell", "(II)I"⟩, prog_4_method_15_code, 3, (some FieldType.int), { frames := 1, cells := 0, slots := 0, locals := 21 })
def m_7 : q_M := (⟨"TreePasses", "childrenOf", "(I)I"⟩, prog_1_method_31_code, 1, (some FieldType.int), { frames := 0, cells := 0, slots := 0, locals := 0 })
def m_8 : q_M := (⟨"TreePasses$Scroll", "figure", "(I)I"⟩, prog_5_method_18_code, 3, (some FieldType.int), { frames := 1, cells := 0, slots := 0, locals := 21 })
def m_9 : q_M := (⟨"TreePasses$Scroll", "expect", "(C)V"⟩, prog_5_method_19_code, 2, none, { frames := 1, cells := 0, slots := 0, locals := 20 })
def m_10 : q_M := (⟨"TreePasses$Program", "choiceAt", "(IIII)I"⟩, prog_4_method_23_code, 4, (some FieldType.int), { frames := 0, cells := 0, slots := 0, locals := 0 })
def m_11 : q_M := (⟨"TreePasses$Program", "kindOf", "(I)I"⟩, prog_4_method_9_code, 2, (some FieldType.int), { frames := 1, cells := 0, slots := 0, locals := 21 })
def m_12 : q_M := (⟨"TreePasses$Program", "offerRule", "(II)V"⟩, prog_4_method_21_code, 6, none, { frames := 2, cells := 0, slots := 0, locals := 43 })
def m_13 : q_M := (⟨"TreePasses$Scroll", "readPiece", "(II)I"⟩, prog_5_method_14_code, 5, (some FieldType.int), { frames := 2, cells := 0, slots := 0, locals := 43 })
def m_14 : q_M := (⟨"TreePasses$Scroll", "readItem", "(LTreePasses$Program;)V"⟩, prog_5_method_8_code, 2, none, { frames := 5, cells := 0, slots := 0, locals := 117 })
def m_15 : q_M := (⟨"TreePasses$Scroll", "letter", "()I"⟩, prog_5_method_16_code, 2, (some FieldType.int), { frames := 1, cells := 0, slots := 0, locals := 21 })
def m_16 : q_M := (⟨"TreePasses$Scroll", "readRow", "([IIII)I"⟩, prog_5_method_13_code, 8, (some FieldType.int), { frames := 3, cells := 0, slots := 0, locals := 67 })
def m_17 : q_M := (⟨"TreePassesModel", "tableAt", "(III)I"⟩, prog_11_method_8_code, 3, (some FieldType.int), { frames := 0, cells := 0, slots := 0, locals := 0 })
def m_18 : q_M := (⟨"TreePassesModel", "ruleFor", "(IIII)I"⟩, prog_11_method_45_code, 8, (some FieldType.int), { frames := 1, cells := 0, slots := 0, locals := 22 })
def m_19 : q_M := (⟨"TreePasses$Scroll", "readRule", "([I)V"⟩, prog_5_method_12_code, 2, none, { frames := 4, cells := 0, slots := 0, locals := 94 })
def m_20 : q_M := (⟨"TreePasses$Scroll", "sight", "()I"⟩, prog_5_method_17_code, 1, (some FieldType.int), { frames := 2, cells := 0, slots := 0, locals := 43 })
def m_21 : q_M := (⟨"TreePasses$Program", "setRule", "(I[I)V"⟩, prog_4_method_17_code, 3, none, { frames := 1, cells := 0, slots := 0, locals := 26 })
def m_22 : q_M := (⟨"TreePassesModel", "ruleIs", "(IIIIIIII)V"⟩, prog_11_method_6_code, 10, none, { frames := 0, cells := 0, slots := 0, locals := 0 })
def m_23 : q_M := (⟨"TreePasses", "hasEntry", "(III)Z"⟩, prog_1_method_32_code, 3, (some FieldType.boolean), { frames := 1, cells := 0, slots := 0, locals := 21 })
def m_24 : q_M := (⟨"TreePasses$Program", "setEntry", "(IIII)V"⟩, prog_4_method_12_code, 5, none, { frames := 2, cells := 0, slots := 0, locals := 43 })
def m_25 : q_M := (⟨"TreePasses$Program", "<init>", "()V"⟩, prog_4_method_1_code, 1, none, { frames := 1, cells := 6, slots := 360, locals := 26 })
def m_26 : q_M := (⟨"TreePasses$Scroll", "callSign", "(I)I"⟩, prog_5_method_15_code, 3, (some FieldType.int), { frames := 1, cells := 0, slots := 0, locals := 21 })
def m_27 : q_M := (⟨"java/util/Arrays", "fill", "([II)V"⟩, prog_17_method_103_code, 4, none, { frames := 0, cells := 0, slots := 0, locals := 0 })
def m_28 : q_M := (⟨"TreePasses$Scroll", "readEntries", "(LTreePasses$Program;)V"⟩, prog_5_method_11_code, 7, none, { frames := 3, cells := 0, slots := 0, locals := 67 })
def m_29 : q_M := (⟨"TreePassesModel", "profileOf", "(IIII)I"⟩, prog_11_method_62_code, 11, (some FieldType.int), { frames := 3, cells := 0, slots := 0, locals := 73 })
def m_30 : q_M := (⟨"TreePasses$Program", "entry", "(III)I"⟩, prog_4_method_11_code, 4, (some FieldType.int), { frames := 1, cells := 0, slots := 0, locals := 21 })
def m_31 : q_M := (⟨"TreePasses$Ground", "<init>", "()V"⟩, prog_3_method_1_code, 1, none, { frames := 1, cells := 0, slots := 0, locals := 26 })
def m_32 : q_M := (⟨"TreePassesModel", "isSecond", "(III)Z"⟩, prog_11_method_46_code, 4, (some FieldType.boolean), { frames := 1, cells := 0, slots := 0, locals := 20 })
def m_33 : q_M := (⟨"TreePassesModel", "typeIn", "(II)I"⟩, prog_11_method_60_code, 2, (some FieldType.int), { frames := 0, cells := 0, slots := 0, locals := 0 })
def m_34 : q_M := (⟨"TreePasses$Standing", "<init>", "()V"⟩, prog_7_method_1_code, 1, none, { frames := 2, cells := 3, slots := 120, locals := 46 })
def m_35 : q_M := (⟨"TreePasses$Scroll", "readTree", "(LTreePasses$Program;)V"⟩, prog_5_method_9_code, 4, none, { frames := 4, cells := 0, slots := 0, locals := 94 })
def m_36 : q_M := (⟨"TreePasses$Program", "setTree", "(I[II)V"⟩, prog_4_method_8_code, 4, none, { frames := 1, cells := 0, slots := 0, locals := 26 })
def m_37 : q_M := (⟨"TreePassesModel", "treeIs", "(IIIIIIII)V"⟩, prog_11_method_5_code, 10, none, { frames := 0, cells := 0, slots := 0, locals := 0 })
def m_38 : q_M := (⟨"TreePassesModel", "typeOf", "(IIII)I"⟩, prog_11_method_61_code, 11, (some FieldType.int), { frames := 2, cells := 0, slots := 0, locals := 43 })
def m_39 : q_M := (⟨"TreePasses$Census", "offer", "(LTreePasses$Program;III)V"⟩, prog_2_method_10_code, 7, none, { frames := 3, cells := 0, slots := 0, locals := 78 })
def m_40 : q_M := (⟨"TreePasses$Census", "profileOf", "(LTreePasses$Program;III)I"⟩, prog_2_method_13_code, 15, (some FieldType.int), { frames := 2, cells := 0, slots := 0, locals := 44 })
def m_41 : q_M := (⟨"TreePasses$Census", "sizeOf", "(I)I"⟩, prog_2_method_6_code, 2, (some FieldType.int), { frames := 1, cells := 0, slots := 0, locals := 21 })
def m_42 : q_M := (⟨"TreePasses$Shelf", "<init>", "(I)V"⟩, prog_6_method_1_code, 3, none, { frames := 2, cells := 57, slots := 2944, locals := 46 })
def m_43 : q_M := (⟨"TreePasses$Census", "<init>", "(I)V"⟩, prog_2_method_1_code, 2, none, { frames := 1, cells := 12, slots := 501, locals := 26 })
def m_44 : q_M := (⟨"TreePasses$Program", "hasNode", "(II)Z"⟩, prog_4_method_5_code, 3, (some FieldType.boolean), { frames := 1, cells := 0, slots := 0, locals := 21 })
def m_45 : q_M := (⟨"TreePassesModel", "in", "(JJJ)Z"⟩, prog_11_method_2_code, 6, (some FieldType.boolean), { frames := 0, cells := 0, slots := 0, locals := 0 })
def m_46 : q_M := (⟨"TreePasses$Program", "chosenRule", "(IIII)I"⟩, prog_4_method_22_code, 5, (some FieldType.int), { frames := 1, cells := 0, slots := 0, locals := 23 })
def m_47 : q_M := (⟨"TreePasses$Program", "letterOf", "(II)I"⟩, prog_4_method_6_code, 3, (some FieldType.int), { frames := 2, cells := 0, slots := 0, locals := 43 })
def m_48 : q_M := (⟨"TreePasses$Program", "choose", "()V"⟩, prog_4_method_20_code, 4, none, { frames := 3, cells := 0, slots := 0, locals := 68 })
def m_49 : q_M := (⟨"TreePasses$Scroll", "begin", "()V"⟩, prog_5_method_7_code, 1, none, { frames := 0, cells := 0, slots := 0, locals := 0 })
def m_50 : q_M := (⟨"TreePasses$Census", "isBefore", "(IIIII)Z"⟩, prog_2_method_11_code, 6, (some FieldType.boolean), { frames := 2, cells := 0, slots := 0, locals := 48 })
def m_51 : q_M := (⟨"TreePasses$Scroll", "readProgram", "(LTreePasses$Program;)I"⟩, prog_5_method_5_code, 4, (some FieldType.int), { frames := 6, cells := 0, slots := 0, locals := 138 })
def m_52 : q_M := (⟨"TreePasses$Program", "clear", "()V"⟩, prog_4_method_2_code, 1, none, { frames := 1, cells := 0, slots := 0, locals := 23 })
def m_53 : q_M := (⟨"TreePasses$Program", "pieceOf", "(II)I"⟩, prog_4_method_16_code, 4, (some FieldType.int), { frames := 1, cells := 0, slots := 0, locals := 21 })
def m_54 : q_M := (⟨"TreePassesModel", "readNone", "()V"⟩, prog_11_method_4_code, 2, none, { frames := 0, cells := 0, slots := 0, locals := 0 })
def m_55 : q_M := (⟨"TreePasses$Scroll", "clear", "()V"⟩, prog_5_method_3_code, 1, none, { frames := 0, cells := 0, slots := 0, locals := 0 })
def m_56 : q_M := (⟨"TreePasses$Scroll", "<init>", "()V"⟩, prog_5_method_1_code, 1, none, { frames := 1, cells := 2, slots := 212, locals := 26 })
def m_57 : q_M := (⟨"TreePasses$Unmade", "<init>", "()V"⟩, prog_8_method_1_code, 1, none, { frames := 3, cells := 4, slots := 124, locals := 66 })
def m_58 : q_M := (⟨"TreePasses$Walk", "<init>", "()V"⟩, prog_9_method_1_code, 1, none, { frames := 1, cells := 5, slots := 320, locals := 26 })
def m_59 : q_M := (⟨"TreePassesModel", "begin", "()V"⟩, prog_11_method_22_code, 2, none, { frames := 0, cells := 0, slots := 0, locals := 0 })
def m_60 : q_M := (⟨"TreePasses$Program", "hasRule", "(I)Z"⟩, prog_4_method_13_code, 2, (some FieldType.boolean), { frames := 1, cells := 0, slots := 0, locals := 21 })
def m_61 : q_M := (⟨"TreePasses$Census", "typeIn", "(II)I"⟩, prog_2_method_16_code, 2, (some FieldType.int), { frames := 0, cells := 0, slots := 0, locals := 0 })
def m_62 : q_M := (⟨"TreePasses$Census", "forget", "()V"⟩, prog_2_method_2_code, 1, none, { frames := 0, cells := 0, slots := 0, locals := 0 })
def m_63 : q_M := (⟨"TreePasses$Program", "nodesOf", "(I)I"⟩, prog_4_method_4_code, 2, (some FieldType.int), { frames := 1, cells := 0, slots := 0, locals := 21 })
def m_64 : q_M := (⟨"TreePassesModel", "isPass", "(I)Z"⟩, prog_11_method_26_code, 1, (some FieldType.boolean), { frames := 1, cells := 0, slots := 0, locals := 25 })
def m_65 : q_M := (⟨"TreePasses$Census", "workOut", "(LTreePasses$Program;I)V"⟩, prog_2_method_14_code, 11, none, { frames := 3, cells := 0, slots := 0, locals := 76 })
def m_66 : q_M := (⟨"TreePasses$Census", "typeAbove", "(LTreePasses$Program;II)J"⟩, prog_2_method_15_code, 13, (some FieldType.long), { frames := 2, cells := 0, slots := 0, locals := 44 })
def m_67 : q_M := (⟨"TreePassesModel", "isTree", "(I)Z"⟩, prog_11_method_23_code, 1, (some FieldType.boolean), { frames := 1, cells := 0, slots := 0, locals := 25 })
def m_68 : q_M := (⟨"TreePasses", "stateCalled", "(I)I"⟩, prog_1_method_33_code, 1, (some FieldType.int), { frames := 0, cells := 0, slots := 0, locals := 0 })
def m_69 : q_M := (⟨"TreePasses$Program", "childCalled", "(III)I"⟩, prog_4_method_24_code, 6, (some FieldType.int), { frames := 1, cells := 0, slots := 0, locals := 21 })
def m_70 : q_M := (⟨"TreePasses$Census", "nearest", "()I"⟩, prog_2_method_9_code, 3, (some FieldType.int), { frames := 3, cells := 0, slots := 0, locals := 73 })
def m_71 : q_M := (⟨"TreePasses$Program", "copy", "(LTreePasses$Program;)V"⟩, prog_4_method_3_code, 2, none, { frames := 1, cells := 0, slots := 0, locals := 26 })
def m_72 : q_M := (⟨"TreePasses$Standing", "takeTree", "(LTreePasses$Program;II)V"⟩, prog_7_method_2_code, 5, none, { frames := 3, cells := 0, slots := 0, locals := 71 })
def m_73 : q_M := (⟨"TreePasses$Standing", "weigh", "(LTreePasses$Program;I)V"⟩, prog_7_method_4_code, 8, none, { frames := 2, cells := 0, slots := 0, locals := 44 })
def m_74 : q_M := (⟨"TreePasses$Standing", "sightAt", "(I)I"⟩, prog_7_method_8_code, 2, (some FieldType.int), { frames := 1, cells := 0, slots := 0, locals := 21 })
def m_75 : q_M := (⟨"TreePasses$Shelf", "put", "(LTreePasses$Program;)V"⟩, prog_6_method_3_code, 3, none, { frames := 2, cells := 0, slots := 0, locals := 47 })
def m_76 : q_M := (⟨"TreePasses$Shelf", "placeOf", "(I)I"⟩, prog_6_method_5_code, 3, (some FieldType.int), { frames := 0, cells := 0, slots := 0, locals := 0 })
def m_77 : q_M := (⟨"TreePasses$Program", "callsFor", "(II)I"⟩, prog_4_method_27_code, 6, (some FieldType.int), { frames := 2, cells := 0, slots := 0, locals := 44 })
def m_78 : q_M := (⟨"TreePasses$Program", "isWhole", "(I)Z"⟩, prog_4_method_26_code, 3, (some FieldType.boolean), { frames := 3, cells := 0, slots := 0, locals := 69 })
def m_79 : q_M := (⟨"TreePasses$Census", "settle", "(II)V"⟩, prog_2_method_5_code, 5, none, { frames := 1, cells := 0, slots := 0, locals := 21 })
def m_80 : q_M := (⟨"TreePassesModel", "groundIs", "(II)V"⟩, prog_11_method_29_code, 4, none, { frames := 2, cells := 0, slots := 0, locals := 47 })
def m_81 : q_M := (⟨"TreePassesModel", "measure", "(I)V"⟩, prog_11_method_30_code, 6, none, { frames := 1, cells := 0, slots := 0, locals := 22 })
def m_82 : q_M := (⟨"TreePassesModel", "isRule", "(I)Z"⟩, prog_11_method_25_code, 2, (some FieldType.boolean), { frames := 1, cells := 0, slots := 0, locals := 25 })
def m_83 : q_M := (⟨"TreePasses", "forgetCensus", "()V"⟩, prog_1_method_35_code, 1, none, { frames := 1, cells := 0, slots := 0, locals := 20 })
def m_84 : q_M := (⟨"TreePasses$Walk", "go", "(LTreePasses$Program;LTreePasses$Ground;II)I"⟩, prog_9_method_2_code, 7, (some FieldType.int), { frames := 5, cells := 0, slots := 0, locals := 131 })
def m_85 : q_M := (⟨"TreePasses$Standing", "letterAt", "(LTreePasses$Program;I)I"⟩, prog_7_method_7_code, 3, (some FieldType.int), { frames := 1, cells := 0, slots := 0, locals := 21 })
def m_86 : q_M := (⟨"TreePasses$Walk", "come", "(LTreePasses$Program;LTreePasses$Ground;III)I"⟩, prog_9_method_7_code, 8, (some FieldType.int), { frames := 3, cells := 0, slots := 0, locals := 66 })
def m_87 : q_M := (⟨"TreePasses$Census", "precedes", "(II)Z"⟩, prog_2_method_12_code, 8, (some FieldType.boolean), { frames := 1, cells := 0, slots := 0, locals := 21 })
def m_88 : q_M := (⟨"TreePassesModel", "note", "()V"⟩, prog_11_method_35_code, 2, none, { frames := 0, cells := 0, slots := 0, locals := 0 })
def m_89 : q_M := (⟨"TreePasses", "changed", "()V"⟩, prog_1_method_34_code, 1, none, { frames := 4, cells := 0, slots := 0, locals := 91 })
def m_90 : q_M := (⟨"TreePasses$Standing", "topPlace", "(LTreePasses$Program;)I"⟩, prog_7_method_5_code, 2, (some FieldType.int), { frames := 0, cells := 0, slots := 0, locals := 0 })
def m_91 : q_M := (⟨"TreePasses$Standing", "nodeAt", "(I)I"⟩, prog_7_method_9_code, 2, (some FieldType.int), { frames := 0, cells := 0, slots := 0, locals := 0 })
def m_92 : q_M := (⟨"TreePassesModel", "isNode", "(II)Z"⟩, prog_11_method_24_code, 3, (some FieldType.boolean), { frames := 2, cells := 0, slots := 0, locals := 45 })
def m_93 : q_M := (⟨"TreePassesModel", "moveRules", "(II)V"⟩, prog_11_method_36_code, 8, none, { frames := 0, cells := 0, slots := 0, locals := 0 })
def m_94 : q_M := (⟨"TreePassesModel", "go", "(II)I"⟩, prog_11_method_47_code, 8, (some FieldType.int), { frames := 3, cells := 0, slots := 0, locals := 73 })
def m_95 : q_M := (⟨"TreePassesModel", "isCome", "(III)Z"⟩, prog_11_method_48_code, 5, (some FieldType.boolean), { frames := 2, cells := 0, slots := 0, locals := 49 })
def m_96 : q_M := (⟨"TreePassesModel", "answer", "(III)I"⟩, prog_11_method_49_code, 4, (some FieldType.int), { frames := 0, cells := 0, slots := 0, locals := 0 })
def m_97 : q_M := (⟨"TreePasses$Scroll", "length", "()I"⟩, prog_5_method_4_code, 1, (some FieldType.int), { frames := 0, cells := 0, slots := 0, locals := 0 })
def m_98 : q_M := (⟨"TreePasses", "letterMade", "(II)I"⟩, prog_1_method_37_code, 3, (some FieldType.int), { frames := 2, cells := 0, slots := 0, locals := 42 })
def m_99 : q_M := (⟨"TreePassesModel", "readAll", "()I"⟩, prog_11_method_19_code, 2, (some FieldType.int), { frames := 5, cells := 0, slots := 0, locals := 117 })
def m_100 : q_M := (⟨"TreePasses$Program", "setKind", "(II)V"⟩, prog_4_method_10_code, 3, none, { frames := 1, cells := 0, slots := 0, locals := 21 })
def m_101 : q_M := (⟨"TreePasses$Scroll", "readRuleAlone", "([I)I"⟩, prog_5_method_6_code, 2, (some FieldType.int), { frames := 5, cells := 0, slots := 0, locals := 115 })
def m_102 : q_M := (⟨"TreePasses$Program", "removeRule", "(I)V"⟩, prog_4_method_18_code, 2, none, { frames := 2, cells := 0, slots := 0, locals := 42 })
def m_103 : q_M := (⟨"TreePasses$Program", "moveRule", "(II[I)V"⟩, prog_4_method_19_code, 4, none, { frames := 2, cells := 0, slots := 0, locals := 42 })
def m_104 : q_M := (⟨"TreePasses$Unmade", "topPlace", "(LTreePasses$Program;)I"⟩, prog_8_method_3_code, 2, (some FieldType.int), { frames := 3, cells := 0, slots := 0, locals := 76 })
def m_105 : q_M := (⟨"TreePasses$Unmade", "make", "(LTreePasses$Program;II)I"⟩, prog_8_method_11_code, 10, (some FieldType.int), { frames := 2, cells := 0, slots := 0, locals := 47 })
def m_106 : q_M := (⟨"TreePasses$Unmade", "takeTree", "(LTreePasses$Program;I)V"⟩, prog_8_method_2_code, 3, none, { frames := 4, cells := 0, slots := 0, locals := 95 })
def m_107 : q_M := (⟨"TreePasses$Walk", "visitsOf", "(I)I"⟩, prog_9_method_4_code, 2, (some FieldType.int), { frames := 1, cells := 0, slots := 0, locals := 21 })
def m_108 : q_M := (⟨"TreePasses", "censusOf", "(I)LTreePasses$Census;"⟩, prog_1_method_36_code, 2, (some (FieldType.object "TreePasses$Census")), { frames := 0, cells := 0, slots := 0, locals := 0 })
def m_109 : q_M := (⟨"TreePasses$Census", "take", "(LTreePasses$Program;)V"⟩, prog_2_method_3_code, 5, none, { frames := 5, cells := 0, slots := 0, locals := 128 })
def m_110 : q_M := (⟨"TreePasses$Census", "begin", "(LTreePasses$Program;)V"⟩, prog_2_method_4_code, 3, none, { frames := 4, cells := 0, slots := 0, locals := 106 })
def m_111 : q_M := (⟨"TreePassesModel", "letterAt", "(I)I"⟩, prog_11_method_11_code, 2, (some FieldType.int), { frames := 0, cells := 0, slots := 0, locals := 0 })
def m_112 : q_M := (⟨"TreePassesModel", "take", "(II)I"⟩, prog_11_method_12_code, 4, (some FieldType.int), { frames := 1, cells := 0, slots := 0, locals := 25 })
def m_113 : q_M := (⟨"TreePassesModel", "isRuleTold", "()Z"⟩, prog_11_method_16_code, 8, (some FieldType.boolean), { frames := 2, cells := 0, slots := 0, locals := 48 })
def m_114 : q_M := (⟨"TreePassesModel", "table", "(III)I"⟩, prog_11_method_32_code, 4, (some FieldType.int), { frames := 2, cells := 0, slots := 0, locals := 45 })
def m_115 : q_M := (⟨"TreePassesModel", "putRule", "(I)V"⟩, prog_11_method_37_code, 3, none, { frames := 0, cells := 0, slots := 0, locals := 0 })
def m_116 : q_M := (⟨"TreePassesModel", "goAsOne", "()I"⟩, prog_11_method_56_code, 5, (some FieldType.int), { frames := 5, cells := 0, slots := 0, locals := 115 })
def m_117 : q_M := (⟨"TreePassesModel", "isBegun", "(II)Z"⟩, prog_11_method_54_code, 3, (some FieldType.boolean), { frames := 2, cells := 0, slots := 0, locals := 49 })
def m_118 : q_M := (⟨"TreePassesModel", "findComing", "(I)V"⟩, prog_11_method_64_code, 8, none, { frames := 4, cells := 0, slots := 0, locals := 103 })
def m_119 : q_M := (⟨"TreePasses", "<init>", "()V"⟩, prog_1_method_1_code, 2, none, { frames := 7, cells := 400, slots := 20000, locals := 161 })
def m_120 : q_M := (⟨"TreePasses$Scroll", "readKind", "(LTreePasses$Program;)V"⟩, prog_5_method_10_code, 4, none, { frames := 2, cells := 0, slots := 0, locals := 43 })
def m_121 : q_M := (⟨"TreePasses", "write", "(I)I"⟩, prog_1_method_2_code, 2, (some FieldType.int), { frames := 1, cells := 0, slots := 0, locals := 21 })
def m_122 : q_M := (⟨"TreePasses", "wipe", "()I"⟩, prog_1_method_3_code, 2, (some FieldType.int), { frames := 1, cells := 0, slots := 0, locals := 20 })
def m_123 : q_M := (⟨"TreePasses", "fault", "()I"⟩, prog_1_method_4_code, 1, (some FieldType.int), { frames := 7, cells := 0, slots := 0, locals := 161 })
def m_124 : q_M := (⟨"TreePasses", "lay", "()I"⟩, prog_1_method_5_code, 1, (some FieldType.int), { frames := 7, cells := 0, slots := 0, locals := 161 })
def m_125 : q_M := (⟨"TreePasses$Shelf", "clear", "()V"⟩, prog_6_method_2_code, 1, none, { frames := 0, cells := 0, slots := 0, locals := 0 })
def m_126 : q_M := (⟨"TreePasses", "tree", "(II)I"⟩, prog_1_method_6_code, 3, (some FieldType.int), { frames := 3, cells := 0, slots := 0, locals := 65 })
def m_127 : q_M := (⟨"TreePasses", "value", "(III)I"⟩, prog_1_method_7_code, 4, (some FieldType.int), { frames := 4, cells := 0, slots := 0, locals := 95 })
def m_128 : q_M := (⟨"TreePasses", "table", "(III)I"⟩, prog_1_method_8_code, 4, (some FieldType.int), { frames := 2, cells := 0, slots := 0, locals := 44 })
def m_129 : q_M := (⟨"TreePasses", "rule", "(II)I"⟩, prog_1_method_9_code, 3, (some FieldType.int), { frames := 2, cells := 0, slots := 0, locals := 43 })
def m_130 : q_M := (⟨"TreePasses", "piece", "(II)I"⟩, prog_1_method_10_code, 3, (some FieldType.int), { frames := 2, cells := 0, slots := 0, locals := 44 })
def m_131 : q_M := (⟨"TreePasses", "enter", "(I)I"⟩, prog_1_method_11_code, 3, (some FieldType.int), { frames := 6, cells := 0, slots := 0, locals := 136 })
def m_132 : q_M := (⟨"TreePasses", "cut", "(I)I"⟩, prog_1_method_12_code, 2, (some FieldType.int), { frames := 5, cells := 0, slots := 0, locals := 111 })
def m_133 : q_M := (⟨"TreePasses", "shift", "(II)I"⟩, prog_1_method_13_code, 3, (some FieldType.int), { frames := 5, cells := 0, slots := 0, locals := 111 })
def m_134 : q_M := (⟨"TreePasses", "leaf", "(III)I"⟩, prog_1_method_14_code, 5, (some FieldType.int), { frames := 3, cells := 0, slots := 0, locals := 69 })
def m_135 : q_M := (⟨"TreePasses$Program", "setLetter", "(III)V"⟩, prog_4_method_7_code, 4, none, { frames := 2, cells := 0, slots := 0, locals := 43 })
def m_136 : q_M := (⟨"TreePasses", "flip", "(III)I"⟩, prog_1_method_15_code, 4, (some FieldType.int), { frames := 3, cells := 0, slots := 0, locals := 69 })
def m_137 : q_M := (⟨"TreePasses", "rename", "(II)I"⟩, prog_1_method_16_code, 4, (some FieldType.int), { frames := 5, cells := 0, slots := 0, locals := 111 })
def m_138 : q_M := (⟨"TreePasses", "undo", "()I"⟩, prog_1_method_17_code, 1, (some FieldType.int), { frames := 3, cells := 0, slots := 0, locals := 69 })
def m_139 : q_M := (⟨"TreePasses$Shelf", "take", "(LTreePasses$Program;)V"⟩, prog_6_method_4_code, 3, none, { frames := 2, cells := 0, slots := 0, locals := 47 })
def m_140 : q_M := (⟨"TreePasses", "out", "(IIII)I"⟩, prog_1_method_18_code, 5, (some FieldType.int), { frames := 6, cells := 0, slots := 0, locals := 157 })
def m_141 : q_M := (⟨"TreePasses$Unmade", "placeOf", "(III)I"⟩, prog_8_method_10_code, 3, (some FieldType.int), { frames := 0, cells := 0, slots := 0, locals := 0 })
def m_142 : q_M := (⟨"TreePasses$Standing", "below", "(LTreePasses$Program;II)I"⟩, prog_7_method_6_code, 5, (some FieldType.int), { frames := 1, cells := 0, slots := 0, locals := 21 })
def m_143 : q_M := (⟨"TreePasses$Unmade", "nodeAt", "(I)I"⟩, prog_8_method_7_code, 2, (some FieldType.int), { frames := 0, cells := 0, slots := 0, locals := 0 })
def m_144 : q_M := (⟨"TreePasses$Unmade", "letterAt", "(LTreePasses$Program;I)I"⟩, prog_8_method_5_code, 3, (some FieldType.int), { frames := 2, cells := 0, slots := 0, locals := 44 })
def m_145 : q_M := (⟨"TreePasses$Unmade", "ruleAt", "(I)I"⟩, prog_8_method_8_code, 1, (some FieldType.int), { frames := 0, cells := 0, slots := 0, locals := 0 })
def m_146 : q_M := (⟨"TreePasses$Unmade", "pieceAt", "(I)I"⟩, prog_8_method_9_code, 1, (some FieldType.int), { frames := 0, cells := 0, slots := 0, locals := 0 })
def m_147 : q_M := (⟨"TreePasses$Unmade", "sightAt", "(I)I"⟩, prog_8_method_6_code, 2, (some FieldType.int), { frames := 0, cells := 0, slots := 0, locals := 0 })
def m_148 : q_M := (⟨"TreePasses$Walk", "step", "(LTreePasses$Program;LTreePasses$Ground;I)I"⟩, prog_9_method_5_code, 8, (some FieldType.int), { frames := 4, cells := 0, slots := 0, locals := 104 })
def m_149 : q_M := (⟨"TreePasses$Walk", "append", "(I)I"⟩, prog_9_method_6_code, 2, (some FieldType.int), { frames := 0, cells := 0, slots := 0, locals := 0 })
def m_150 : q_M := (⟨"TreePasses$Unmade", "below", "(LTreePasses$Program;II)I"⟩, prog_8_method_4_code, 9, (some FieldType.int), { frames := 3, cells := 0, slots := 0, locals := 76 })
def m_151 : q_M := (⟨"TreePasses$Unmade", "behind", "(LTreePasses$Program;II)I"⟩, prog_8_method_12_code, 5, (some FieldType.int), { frames := 2, cells := 0, slots := 0, locals := 44 })
def m_152 : q_M := (⟨"TreePasses$Walk", "letterOf", "(I)I"⟩, prog_9_method_3_code, 2, (some FieldType.int), { frames := 1, cells := 0, slots := 0, locals := 21 })
def m_153 : q_M := (⟨"TreePasses", "both", "(II)I"⟩, prog_1_method_19_code, 5, (some FieldType.int), { frames := 6, cells := 0, slots := 0, locals := 157 })
def m_154 : q_M := (⟨"TreePasses$Standing", "takeRow", "(LTreePasses$Program;[II)V"⟩, prog_7_method_3_code, 4, none, { frames := 3, cells := 0, slots := 0, locals := 71 })
def m_155 : q_M := (⟨"TreePasses", "one", "(II)I"⟩, prog_1_method_20_code, 3, (some FieldType.int), { frames := 6, cells := 0, slots := 0, locals := 157 })
def m_156 : q_M := (⟨"TreePasses", "linear", "(II)I"⟩, prog_1_method_21_code, 4, (some FieldType.int), { frames := 4, cells := 0, slots := 0, locals := 91 })
def m_157 : q_M := (⟨"TreePasses$Program", "isLinear", "(I)Z"⟩, prog_4_method_25_code, 2, (some FieldType.boolean), { frames := 3, cells := 0, slots := 0, locals := 69 })
def m_158 : q_M := (⟨"TreePasses", "visits", "(III)I"⟩, prog_1_method_22_code, 4, (some FieldType.int), { frames := 6, cells := 0, slots := 0, locals := 157 })
def m_159 : q_M := (⟨"TreePasses", "comes", "(I)I"⟩, prog_1_method_23_code, 3, (some FieldType.int), { frames := 6, cells := 0, slots := 0, locals := 152 })
def m_160 : q_M := (⟨"TreePasses", "least", "(III)I"⟩, prog_1_method_24_code, 6, (some FieldType.int), { frames := 6, cells := 0, slots := 0, locals := 152 })
def m_161 : q_M := (⟨"TreePasses$Census", "letterOf", "(II)I"⟩, prog_2_method_7_code, 7, (some FieldType.int), { frames := 2, cells := 0, slots := 0, locals := 42 })
def m_162 : q_M := (⟨"TreePasses", "total", "(III)I"⟩, prog_1_method_25_code, 4, (some FieldType.int), { frames := 7, cells := 0, slots := 0, locals := 179 })
def m_163 : q_M := (⟨"TreePasses", "firstLeast", "(IIII)I"⟩, prog_1_method_38_code, 8, (some FieldType.int), { frames := 6, cells := 0, slots := 0, locals := 152 })
def m_164 : q_M := (⟨"TreePasses$Census", "firstWith", "(II)I"⟩, prog_2_method_8_code, 4, (some FieldType.int), { frames := 1, cells := 0, slots := 0, locals := 21 })
def m_165 : q_M := (⟨"TreePasses", "typed", "(III)I"⟩, prog_1_method_26_code, 4, (some FieldType.int), { frames := 7, cells := 0, slots := 0, locals := 179 })
def m_166 : q_M := (⟨"TreePasses", "keep", "()I"⟩, prog_1_method_27_code, 1, (some FieldType.int), { frames := 3, cells := 0, slots := 0, locals := 69 })
def m_167 : q_M := (⟨"TreePasses", "back", "()I"⟩, prog_1_method_28_code, 1, (some FieldType.int), { frames := 3, cells := 0, slots := 0, locals := 69 })
def m_168 : q_M := (⟨"TreePasses", "count", "(I)I"⟩, prog_1_method_29_code, 2, (some FieldType.int), { frames := 3, cells := 0, slots := 0, locals := 66 })
def m_169 : q_M := (⟨"TreePasses$Program", "rulesOf", "(I)I"⟩, prog_4_method_14_code, 4, (some FieldType.int), { frames := 2, cells := 0, slots := 0, locals := 43 })
def m_170 : q_M := (⟨"TreePassesModel", "<init>", "()V"⟩, prog_11_method_1_code, 1, none, { frames := 1, cells := 21, slots := 6440, locals := 29 })
def m_171 : q_M := (⟨"TreePassesModel", "write", "(I)I"⟩, prog_11_method_9_code, 2, (some FieldType.int), { frames := 1, cells := 0, slots := 0, locals := 25 })
def m_172 : q_M := (⟨"TreePassesModel", "wipe", "()I"⟩, prog_11_method_10_code, 2, (some FieldType.int), { frames := 0, cells := 0, slots := 0, locals := 0 })
def m_173 : q_M := (⟨"TreePassesModel", "fault", "()I"⟩, prog_11_method_20_code, 1, (some FieldType.int), { frames := 6, cells := 0, slots := 0, locals := 138 })
def m_174 : q_M := (⟨"TreePassesModel", "item", "()Z"⟩, prog_11_method_18_code, 2, (some FieldType.boolean), { frames := 4, cells := 0, slots := 0, locals := 96 })
def m_175 : q_M := (⟨"TreePassesModel", "treeItem", "()Z"⟩, prog_11_method_13_code, 5, (some FieldType.boolean), { frames := 2, cells := 0, slots := 0, locals := 48 })
def m_176 : q_M := (⟨"TreePassesModel", "kindItem", "()Z"⟩, prog_11_method_15_code, 3, (some FieldType.boolean), { frames := 2, cells := 0, slots := 0, locals := 48 })
def m_177 : q_M := (⟨"TreePassesModel", "tableItem", "()Z"⟩, prog_11_method_14_code, 5, (some FieldType.boolean), { frames := 2, cells := 0, slots := 0, locals := 48 })
def m_178 : q_M := (⟨"TreePassesModel", "ruleItem", "()Z"⟩, prog_11_method_17_code, 2, (some FieldType.boolean), { frames := 3, cells := 0, slots := 0, locals := 75 })
def m_179 : q_M := (⟨"TreePassesModel", "lay", "()I"⟩, prog_11_method_21_code, 1, (some FieldType.int), { frames := 6, cells := 0, slots := 0, locals := 138 })
def m_180 : q_M := (⟨"TreePassesModel", "tree", "(II)I"⟩, prog_11_method_28_code, 3, (some FieldType.int), { frames := 2, cells := 0, slots := 0, locals := 45 })
def m_181 : q_M := (⟨"TreePassesModel", "value", "(III)I"⟩, prog_11_method_31_code, 4, (some FieldType.int), { frames := 3, cells := 0, slots := 0, locals := 70 })
def m_182 : q_M := (⟨"TreePassesModel", "rule", "(II)I"⟩, prog_11_method_33_code, 3, (some FieldType.int), { frames := 2, cells := 0, slots := 0, locals := 46 })
def m_183 : q_M := (⟨"TreePassesModel", "piece", "(II)I"⟩, prog_11_method_34_code, 3, (some FieldType.int), { frames := 2, cells := 0, slots := 0, locals := 46 })
def m_184 : q_M := (⟨"TreePassesModel", "enter", "(I)I"⟩, prog_11_method_38_code, 3, (some FieldType.int), { frames := 3, cells := 0, slots := 0, locals := 75 })
def m_185 : q_M := (⟨"TreePassesModel", "cut", "(I)I"⟩, prog_11_method_39_code, 2, (some FieldType.int), { frames := 2, cells := 0, slots := 0, locals := 46 })
def m_186 : q_M := (⟨"TreePassesModel", "shift", "(II)I"⟩, prog_11_method_40_code, 4, (some FieldType.int), { frames := 2, cells := 0, slots := 0, locals := 46 })
def m_187 : q_M := (⟨"TreePassesModel", "leaf", "(III)I"⟩, prog_11_method_41_code, 5, (some FieldType.int), { frames := 3, cells := 0, slots := 0, locals := 67 })
def m_188 : q_M := (⟨"TreePassesModel", "flip", "(III)I"⟩, prog_11_method_42_code, 4, (some FieldType.int), { frames := 3, cells := 0, slots := 0, locals := 68 })
def m_189 : q_M := (⟨"TreePassesModel", "rename", "(II)I"⟩, prog_11_method_43_code, 4, (some FieldType.int), { frames := 2, cells := 0, slots := 0, locals := 45 })
def m_190 : q_M := (⟨"TreePassesModel", "undo", "()I"⟩, prog_11_method_44_code, 2, (some FieldType.int), { frames := 0, cells := 0, slots := 0, locals := 0 })
def m_191 : q_M := (⟨"TreePassesModel", "out", "(IIII)I"⟩, prog_11_method_50_code, 5, (some FieldType.int), { frames := 4, cells := 0, slots := 0, locals := 100 })
def m_192 : q_M := (⟨"TreePassesModel", "both", "(II)I"⟩, prog_11_method_51_code, 5, (some FieldType.int), { frames := 4, cells := 0, slots := 0, locals := 100 })
def m_193 : q_M := (⟨"TreePassesModel", "one", "(II)I"⟩, prog_11_method_57_code, 3, (some FieldType.int), { frames := 6, cells := 0, slots := 0, locals := 139 })
def m_194 : q_M := (⟨"TreePassesModel", "comesUpon", "(I)Z"⟩, prog_11_method_55_code, 3, (some FieldType.boolean), { frames := 4, cells := 0, slots := 0, locals := 93 })
def m_195 : q_M := (⟨"TreePassesModel", "isMade", "()Z"⟩, prog_11_method_53_code, 3, (some FieldType.boolean), { frames := 3, cells := 0, slots := 0, locals := 71 })
def m_196 : q_M := (⟨"TreePassesModel", "behindPart", "(II)I"⟩, prog_11_method_52_code, 6, (some FieldType.int), { frames := 1, cells := 0, slots := 0, locals := 22 })
def m_197 : q_M := (⟨"TreePassesModel", "linear", "(II)I"⟩, prog_11_method_58_code, 9, (some FieldType.int), { frames := 2, cells := 0, slots := 0, locals := 45 })
def m_198 : q_M := (⟨"TreePassesModel", "visits", "(III)I"⟩, prog_11_method_59_code, 4, (some FieldType.int), { frames := 4, cells := 0, slots := 0, locals := 100 })
def m_199 : q_M := (⟨"TreePassesModel", "comes", "(I)I"⟩, prog_11_method_69_code, 2, (some FieldType.int), { frames := 5, cells := 0, slots := 0, locals := 130 })
def m_200 : q_M := (⟨"TreePassesModel", "least", "(III)I"⟩, prog_11_method_70_code, 4, (some FieldType.int), { frames := 6, cells := 0, slots := 0, locals := 158 })
def m_201 : q_M := (⟨"TreePassesModel", "findLeast", "(I)V"⟩, prog_11_method_68_code, 9, none, { frames := 5, cells := 0, slots := 0, locals := 130 })
def m_202 : q_M := (⟨"TreePassesModel", "sizeOf", "(III)I"⟩, prog_11_method_66_code, 5, (some FieldType.int), { frames := 1, cells := 0, slots := 0, locals := 20 })
def m_203 : q_M := (⟨"TreePassesModel", "build", "(III)I"⟩, prog_11_method_65_code, 7, (some FieldType.int), { frames := 1, cells := 0, slots := 0, locals := 20 })
def m_204 : q_M := (⟨"TreePassesModel", "isFirst", "(II)Z"⟩, prog_11_method_67_code, 4, (some FieldType.boolean), { frames := 0, cells := 0, slots := 0, locals := 0 })
def m_205 : q_M := (⟨"TreePassesModel", "total", "(III)I"⟩, prog_11_method_73_code, 4, (some FieldType.int), { frames := 7, cells := 0, slots := 0, locals := 184 })
def m_206 : q_M := (⟨"TreePassesModel", "firstWith", "(IIII)I"⟩, prog_11_method_72_code, 7, (some FieldType.int), { frames := 6, cells := 0, slots := 0, locals := 158 })
def m_207 : q_M := (⟨"TreePassesModel", "isLess", "(II)Z"⟩, prog_11_method_71_code, 4, (some FieldType.boolean), { frames := 0, cells := 0, slots := 0, locals := 0 })
def m_208 : q_M := (⟨"TreePassesModel", "typed", "(III)I"⟩, prog_11_method_74_code, 4, (some FieldType.int), { frames := 7, cells := 0, slots := 0, locals := 184 })
def m_209 : q_M := (⟨"TreePassesModel", "keep", "()I"⟩, prog_11_method_75_code, 2, (some FieldType.int), { frames := 0, cells := 0, slots := 0, locals := 0 })
def m_210 : q_M := (⟨"TreePassesModel", "back", "()I"⟩, prog_11_method_76_code, 2, (some FieldType.int), { frames := 0, cells := 0, slots := 0, locals := 0 })
def m_211 : q_M := (⟨"TreePassesModel", "count", "(I)I"⟩, prog_11_method_78_code, 2, (some FieldType.int), { frames := 2, cells := 0, slots := 0, locals := 45 })
def m_212 : q_M := (⟨"TreePassesModel", "rulesOf", "(I)I"⟩, prog_11_method_77_code, 4, (some FieldType.int), { frames := 1, cells := 0, slots := 0, locals := 22 })
def m_213 : q_M := (⟨"java/lang/String", "checkIndex", "(II)V"⟩, prog_13_method_155_code, 2, none, { frames := 1, cells := 0, slots := 0, locals := 22 })
def m_214 : q_M := (⟨"jdk/internal/util/Preconditions", "checkIndex", "(IILjava/util/function/BiFunction;)I"⟩, prog_18_method_11_code, 3, (some FieldType.int), { frames := 0, cells := 0, slots := 0, locals := 0 })
def m_215 : q_M := (⟨"java/lang/String", "length", "()I"⟩, prog_13_method_54_code, 1, (some FieldType.int), { frames := 1, cells := 0, slots := 0, locals := 20 })
def m_216 : q_M := (⟨"java/lang/String", "charAt", "(I)C"⟩, prog_13_method_56_code, 2, (some FieldType.char), { frames := 3, cells := 0, slots := 0, locals := 64 })
def m_217 : q_M := (⟨"java/lang/String", "coder", "()B"⟩, prog_13_method_152_code, 1, (some FieldType.byte), { frames := 0, cells := 0, slots := 0, locals := 0 })
def m_218 : q_M := (⟨"java/lang/String", "isLatin1", "()Z"⟩, prog_13_method_154_code, 1, (some FieldType.boolean), { frames := 0, cells := 0, slots := 0, locals := 0 })
def m_219 : q_M := (⟨"java/lang/StringLatin1", "charAt", "([BI)C"⟩, prog_14_method_2_code, 2, (some FieldType.char), { frames := 2, cells := 0, slots := 0, locals := 43 })
def m_L : q_M := (⟨"TreePassesLaw", "law", "([I)Z"⟩, code, maxLocals, ret, { frames := 10, cells := 600000, slots := 7302250, locals := 414 })
def q_ml : List q_M := [m_0, m_1, m_2, m_3, m_4, m_5, m_6, m_7, m_8, m_9, m_10, m_11, m_12, m_13, m_14, m_15, m_16, m_17, m_18, m_19, m_20, m_21, m_22, m_23, m_24, m_25, m_26, m_27, m_28, m_29, m_30, m_31, m_32, m_33, m_34, m_35, m_36, m_37, m_38, m_39, m_40, m_41, m_42, m_43, m_44, m_45, m_46, m_47, m_48, m_49, m_50, m_51, m_52, m_53, m_54, m_55, m_56, m_57, m_58, m_59, m_60, m_61, m_62, m_63, m_64, m_65, m_66, m_67, m_68, m_69, m_70, m_71, m_72, m_73, m_74, m_75, m_76, m_77, m_78, m_79, m_80, m_81, m_82, m_83, m_84, m_85, m_86, m_87, m_88, m_89, m_90, m_91, m_92, m_93, m_94, m_95, m_96, m_97, m_98, m_99, m_100, m_101, m_102, m_103, m_104, m_105, m_106, m_107, m_108, m_109, m_110, m_111, m_112, m_113, m_114, m_115, m_116, m_117, m_118, m_119, m_120, m_121, m_122, m_123, m_124, m_125, m_126, m_127, m_128, m_129, m_130, m_131, m_132, m_133, m_134, m_135, m_136, m_137, m_138, m_139, m_140, m_141, m_142, m_143, m_144, m_145, m_146, m_147, m_148, m_149, m_150, m_151, m_152, m_153, m_154, m_155, m_156, m_157, m_158, m_159, m_160, m_161, m_162, m_163, m_164, m_165, m_166, m_167, m_168, m_169, m_170, m_171, m_172, m_173, m_174, m_175, m_176, m_177, m_178, m_179, m_180, m_181, m_182, m_183, m_184, m_185, m_186, m_187, m_188, m_189, m_190, m_191, m_192, m_193, m_194, m_195, m_196, m_197, m_198, m_199, m_200, m_201, m_202, m_203, m_204, m_205, m_206, m_207, m_208, m_209, m_210, m_211, m_212, m_213, m_214, m_215, m_216, m_217, m_218, m_219]
def q_mt (j : Nat) : q_M := (q_ml[j]?).getD m_0
theorem e_0 : q_mt 0 = m_0 := rfl
theorem e_1 : q_mt 1 = m_1 := rfl
theorem e_2 : q_mt 2 = m_2 := rfl
theorem e_3 : q_mt 3 = m_3 := rfl
theorem e_4 : q_mt 4 = m_4 := rfl
theorem e_5 : q_mt 5 = m_5 := rfl
theorem e_6 : q_mt 6 = m_6 := rfl
theorem e_7 : q_mt 7 = m_7 := rfl
theorem e_8 : q_mt 8 = m_8 := rfl
theorem e_9 : q_mt 9 = m_9 := rfl
theorem e_10 : q_mt 10 = m_10 := rfl
theorem e_11 : q_mt 11 = m_11 := rfl
theorem e_12 : q_mt 12 = m_12 := rfl
theorem e_13 : q_mt 13 = m_13 := rfl
theorem e_14 : q_mt 14 = m_14 := rfl
theorem e_15 : q_mt 15 = m_15 := rfl
theorem e_16 : q_mt 16 = m_16 := rfl
theorem e_17 : q_mt 17 = m_17 := rfl
theorem e_18 : q_mt 18 = m_18 := rfl
theorem e_19 : q_mt 19 = m_19 := rfl
theorem e_20 : q_mt 20 = m_20 := rfl
theorem e_21 : q_mt 21 = m_21 := rfl
theorem e_22 : q_mt 22 = m_22 := rfl
theorem e_23 : q_mt 23 = m_23 := rfl
theorem e_24 : q_mt 24 = m_24 := rfl
theorem e_25 : q_mt 25 = m_25 := rfl
theorem e_26 : q_mt 26 = m_26 := rfl
theorem e_27 : q_mt 27 = m_27 := rfl
theorem e_28 : q_mt 28 = m_28 := rfl
theorem e_29 : q_mt 29 = m_29 := rfl
theorem e_30 : q_mt 30 = m_30 := rfl
theorem e_31 : q_mt 31 = m_31 := rfl
theorem e_32 : q_mt 32 = m_32 := rfl
theorem e_33 : q_mt 33 = m_33 := rfl
theorem e_34 : q_mt 34 = m_34 := rfl
theorem e_35 : q_mt 35 = m_35 := rfl
theorem e_36 : q_mt 36 = m_36 := rfl
theorem e_37 : q_mt 37 = m_37 := rfl
theorem e_38 : q_mt 38 = m_38 := rfl
theorem e_39 : q_mt 39 = m_39 := rfl
theorem e_40 : q_mt 40 = m_40 := rfl
theorem e_41 : q_mt 41 = m_41 := rfl
theorem e_42 : q_mt 42 = m_42 := rfl
theorem e_43 : q_mt 43 = m_43 := rfl
theorem e_44 : q_mt 44 = m_44 := rfl
theorem e_45 : q_mt 45 = m_45 := rfl
theorem e_46 : q_mt 46 = m_46 := rfl
theorem e_47 : q_mt 47 = m_47 := rfl
theorem e_48 : q_mt 48 = m_48 := rfl
theorem e_49 : q_mt 49 = m_49 := rfl
theorem e_50 : q_mt 50 = m_50 := rfl
theorem e_51 : q_mt 51 = m_51 := rfl
theorem e_52 : q_mt 52 = m_52 := rfl
theorem e_53 : q_mt 53 = m_53 := rfl
theorem e_54 : q_mt 54 = m_54 := rfl
theorem e_55 : q_mt 55 = m_55 := rfl
theorem e_56 : q_mt 56 = m_56 := rfl
theorem e_57 : q_mt 57 = m_57 := rfl
theorem e_58 : q_mt 58 = m_58 := rfl
theorem e_59 : q_mt 59 = m_59 := rfl
theorem e_60 : q_mt 60 = m_60 := rfl
theorem e_61 : q_mt 61 = m_61 := rfl
theorem e_62 : q_mt 62 = m_62 := rfl
theorem e_63 : q_mt 63 = m_63 := rfl
theorem e_64 : q_mt 64 = m_64 := rfl
theorem e_65 : q_mt 65 = m_65 := rfl
theorem e_66 : q_mt 66 = m_66 := rfl
theorem e_67 : q_mt 67 = m_67 := rfl
theorem e_68 : q_mt 68 = m_68 := rfl
theorem e_69 : q_mt 69 = m_69 := rfl
theorem e_70 : q_mt 70 = m_70 := rfl
theorem e_71 : q_mt 71 = m_71 := rfl
theorem e_72 : q_mt 72 = m_72 := rfl
theorem e_73 : q_mt 73 = m_73 := rfl
theorem e_74 : q_mt 74 = m_74 := rfl
theorem e_75 : q_mt 75 = m_75 := rfl
theorem e_76 : q_mt 76 = m_76 := rfl
theorem e_77 : q_mt 77 = m_77 := rfl
theorem e_78 : q_mt 78 = m_78 := rfl
theorem e_79 : q_mt 79 = m_79 := rfl
theorem e_80 : q_mt 80 = m_80 := rfl
theorem e_81 : q_mt 81 = m_81 := rfl
theorem e_82 : q_mt 82 = m_82 := rfl
theorem e_83 : q_mt 83 = m_83 := rfl
theorem e_84 : q_mt 84 = m_84 := rfl
theorem e_85 : q_mt 85 = m_85 := rfl
theorem e_86 : q_mt 86 = m_86 := rfl
theorem e_87 : q_mt 87 = m_87 := rfl
theorem e_88 : q_mt 88 = m_88 := rfl
theorem e_89 : q_mt 89 = m_89 := rfl
theorem e_90 : q_mt 90 = m_90 := rfl
theorem e_91 : q_mt 91 = m_91 := rfl
theorem e_92 : q_mt 92 = m_92 := rfl
theorem e_93 : q_mt 93 = m_93 := rfl
theorem e_94 : q_mt 94 = m_94 := rfl
theorem e_95 : q_mt 95 = m_95 := rfl
theorem e_96 : q_mt 96 = m_96 := rfl
theorem e_97 : q_mt 97 = m_97 := rfl
theorem e_98 : q_mt 98 = m_98 := rfl
theorem e_99 : q_mt 99 = m_99 := rfl
theorem e_100 : q_mt 100 = m_100 := rfl
theorem e_101 : q_mt 101 = m_101 := rfl
theorem e_102 : q_mt 102 = m_102 := rfl
theorem e_103 : q_mt 103 = m_103 := rfl
theorem e_104 : q_mt 104 = m_104 := rfl
theorem e_105 : q_mt 105 = m_105 := rfl
theorem e_106 : q_mt 106 = m_106 := rfl
theorem e_107 : q_mt 107 = m_107 := rfl
theorem e_108 : q_mt 108 = m_108 := rfl
theorem e_109 : q_mt 109 = m_109 := rfl
theorem e_110 : q_mt 110 = m_110 := rfl
theorem e_111 : q_mt 111 = m_111 := rfl
theorem e_112 : q_mt 112 = m_112 := rfl
theorem e_113 : q_mt 113 = m_113 := rfl
theorem e_114 : q_mt 114 = m_114 := rfl
theorem e_115 : q_mt 115 = m_115 := rfl
theorem e_116 : q_mt 116 = m_116 := rfl
theorem e_117 : q_mt 117 = m_117 := rfl
theorem e_118 : q_mt 118 = m_118 := rfl
theorem e_119 : q_mt 119 = m_119 := rfl
theorem e_120 : q_mt 120 = m_120 := rfl
theorem e_121 : q_mt 121 = m_121 := rfl
theorem e_122 : q_mt 122 = m_122 := rfl
theorem e_123 : q_mt 123 = m_123 := rfl
theorem e_124 : q_mt 124 = m_124 := rfl
theorem e_125 : q_mt 125 = m_125 := rfl
theorem e_126 : q_mt 126 = m_126 := rfl
theorem e_127 : q_mt 127 = m_127 := rfl
theorem e_128 : q_mt 128 = m_128 := rfl
theorem e_129 : q_mt 129 = m_129 := rfl
theorem e_130 : q_mt 130 = m_130 := rfl
theorem e_131 : q_mt 131 = m_131 := rfl
theorem e_132 : q_mt 132 = m_132 := rfl
theorem e_133 : q_mt 133 = m_133 := rfl
theorem e_134 : q_mt 134 = m_134 := rfl
theorem e_135 : q_mt 135 = m_135 := rfl
theorem e_136 : q_mt 136 = m_136 := rfl
theorem e_137 : q_mt 137 = m_137 := rfl
theorem e_138 : q_mt 138 = m_138 := rfl
theorem e_139 : q_mt 139 = m_139 := rfl
theorem e_140 : q_mt 140 = m_140 := rfl
theorem e_141 : q_mt 141 = m_141 := rfl
theorem e_142 : q_mt 142 = m_142 := rfl
theorem e_143 : q_mt 143 = m_143 := rfl
theorem e_144 : q_mt 144 = m_144 := rfl
theorem e_145 : q_mt 145 = m_145 := rfl
theorem e_146 : q_mt 146 = m_146 := rfl
theorem e_147 : q_mt 147 = m_147 := rfl
theorem e_148 : q_mt 148 = m_148 := rfl
theorem e_149 : q_mt 149 = m_149 := rfl
theorem e_150 : q_mt 150 = m_150 := rfl
theorem e_151 : q_mt 151 = m_151 := rfl
theorem e_152 : q_mt 152 = m_152 := rfl
theorem e_153 : q_mt 153 = m_153 := rfl
theorem e_154 : q_mt 154 = m_154 := rfl
theorem e_155 : q_mt 155 = m_155 := rfl
theorem e_156 : q_mt 156 = m_156 := rfl
theorem e_157 : q_mt 157 = m_157 := rfl
theorem e_158 : q_mt 158 = m_158 := rfl
theorem e_159 : q_mt 159 = m_159 := rfl
theorem e_160 : q_mt 160 = m_160 := rfl
theorem e_161 : q_mt 161 = m_161 := rfl
theorem e_162 : q_mt 162 = m_162 := rfl
theorem e_163 : q_mt 163 = m_163 := rfl
theorem e_164 : q_mt 164 = m_164 := rfl
theorem e_165 : q_mt 165 = m_165 := rfl
theorem e_166 : q_mt 166 = m_166 := rfl
theorem e_167 : q_mt 167 = m_167 := rfl
theorem e_168 : q_mt 168 = m_168 := rfl
theorem e_169 : q_mt 169 = m_169 := rfl
theorem e_170 : q_mt 170 = m_170 := rfl
theorem e_171 : q_mt 171 = m_171 := rfl
theorem e_172 : q_mt 172 = m_172 := rfl
theorem e_173 : q_mt 173 = m_173 := rfl
theorem e_174 : q_mt 174 = m_174 := rfl
theorem e_175 : q_mt 175 = m_175 := rfl
theorem e_176 : q_mt 176 = m_176 := rfl
theorem e_177 : q_mt 177 = m_177 := rfl
theorem e_178 : q_mt 178 = m_178 := rfl
theorem e_179 : q_mt 179 = m_179 := rfl
theorem e_180 : q_mt 180 = m_180 := rfl
theorem e_181 : q_mt 181 = m_181 := rfl
theorem e_182 : q_mt 182 = m_182 := rfl
theorem e_183 : q_mt 183 = m_183 := rfl
theorem e_184 : q_mt 184 = m_184 := rfl
theorem e_185 : q_mt 185 = m_185 := rfl
theorem e_186 : q_mt 186 = m_186 := rfl
theorem e_187 : q_mt 187 = m_187 := rfl
theorem e_188 : q_mt 188 = m_188 := rfl
theorem e_189 : q_mt 189 = m_189 := rfl
theorem e_190 : q_mt 190 = m_190 := rfl
theorem e_191 : q_mt 191 = m_191 := rfl
theorem e_192 : q_mt 192 = m_192 := rfl
theorem e_193 : q_mt 193 = m_193 := rfl
theorem e_194 : q_mt 194 = m_194 := rfl
theorem e_195 : q_mt 195 = m_195 := rfl
theorem e_196 : q_mt 196 = m_196 := rfl
theorem e_197 : q_mt 197 = m_197 := rfl
theorem e_198 : q_mt 198 = m_198 := rfl
theorem e_199 : q_mt 199 = m_199 := rfl
theorem e_200 : q_mt 200 = m_200 := rfl
theorem e_201 : q_mt 201 = m_201 := rfl
theorem e_202 : q_mt 202 = m_202 := rfl
theorem e_203 : q_mt 203 = m_203 := rfl
theorem e_204 : q_mt 204 = m_204 := rfl
theorem e_205 : q_mt 205 = m_205 := rfl
theorem e_206 : q_mt 206 = m_206 := rfl
theorem e_207 : q_mt 207 = m_207 := rfl
theorem e_208 : q_mt 208 = m_208 := rfl
theorem e_209 : q_mt 209 = m_209 := rfl
theorem e_210 : q_mt 210 = m_210 := rfl
theorem e_211 : q_mt 211 = m_211 := rfl
theorem e_212 : q_mt 212 = m_212 := rfl
theorem e_213 : q_mt 213 = m_213 := rfl
theorem e_214 : q_mt 214 = m_214 := rfl
theorem e_215 : q_mt 215 = m_215 := rfl
theorem e_216 : q_mt 216 = m_216 := rfl
theorem e_217 : q_mt 217 = m_217 := rfl
theorem e_218 : q_mt 218 = m_218 := rfl
theorem e_219 : q_mt 219 = m_219 := rfl
theorem s_0 : Cond.code m_0.1 m_0.2.1 m_0.2.2.1 m_0.2.2.2.1 ∈ q_gd ∧ Cond.initialized m_0.1.cls ∈ q_gd ∧ (m_0.1.cls ≠ "java/lang/invoke/MethodHandle" ∧ m_0.1.cls ≠ "java/lang/invoke/VarHandle" ∧ (parseMethodDescriptor m_0.1.desc).map (fun d => d.parameters.length) = some 1) := ⟨q_wg (i := 1043) (by decide +kernel) (by decide +kernel), w_17, by decide +kernel⟩
theorem s_1 : Cond.code m_1.1 m_1.2.1 m_1.2.2.1 m_1.2.2.2.1 ∈ q_gd ∧ Cond.initialized m_1.1.cls ∈ q_gd ∧ (m_1.1.cls ≠ "java/lang/invoke/MethodHandle" ∧ m_1.1.cls ≠ "java/lang/invoke/VarHandle" ∧ (parseMethodDescriptor m_1.1.desc).map (fun d => d.parameters.length) = some 3) := ⟨q_wg (i := 1225) (by decide +kernel) (by decide +kernel), w_17, by decide +kernel⟩
theorem s_2 : Cond.code m_2.1 m_2.2.1 m_2.2.2.1 m_2.2.2.2.1 ∈ q_gd ∧ Cond.initialized m_2.1.cls ∈ q_gd ∧ (m_2.1.cls ≠ "java/lang/invoke/MethodHandle" ∧ m_2.1.cls ≠ "java/lang/invoke/VarHandle" ∧ (parseMethodDescriptor m_2.1.desc).map (fun d => d.parameters.length) = some 2) := ⟨q_wg (i := 309) (by decide +kernel) (by decide +kernel), w_1, by decide +kernel⟩
theorem s_3 : Cond.code m_3.1 m_3.2.1 m_3.2.2.1 m_3.2.2.2.1 ∈ q_gd ∧ Cond.initialized m_3.1.cls ∈ q_gd ∧ (m_3.1.cls ≠ "java/lang/invoke/MethodHandle" ∧ m_3.1.cls ≠ "java/lang/invoke/VarHandle" ∧ (parseMethodDescriptor m_3.1.desc).map (fun d => d.parameters.length) = some 2) := ⟨q_wg (i := 1107) (by decide +kernel) (by decide +kernel), w_17, by decide +kernel⟩
theorem s_4 : Cond.code m_4.1 m_4.2.1 m_4.2.2.1 m_4.2.2.2.1 ∈ q_gd ∧ Cond.initialized m_4.1.cls ∈ q_gd ∧ (m_4.1.cls ≠ "java/lang/invoke/MethodHandle" ∧ m_4.1.cls ≠ "java/lang/invoke/VarHandle" ∧ (parseMethodDescriptor m_4.1.desc).map (fun d => d.parameters.length) = some 0) := ⟨q_wg (i := 298) (by decide +kernel) (by decide +kernel), w_2, by decide +kernel⟩
theorem s_5 : Cond.code m_5.1 m_5.2.1 m_5.2.2.1 m_5.2.2.2.1 ∈ q_gd ∧ Cond.initialized m_5.1.cls ∈ q_gd ∧ (m_5.1.cls ≠ "java/lang/invoke/MethodHandle" ∧ m_5.1.cls ≠ "java/lang/invoke/VarHandle" ∧ (parseMethodDescriptor m_5.1.desc).map (fun d => d.parameters.length) = some 1) := ⟨q_wg (i := 275) (by decide +kernel) (by decide +kernel), w_2, by decide +kernel⟩
theorem s_6 : Cond.code m_6.1 m_6.2.1 m_6.2.2.1 m_6.2.2.2.1 ∈ q_gd ∧ Cond.initialized m_6.1.cls ∈ q_gd ∧ (m_6.1.cls ≠ "java/lang/invoke/MethodHandle" ∧ m_6.1.cls ≠ "java/lang/invoke/VarHandle" ∧ (parseMethodDescriptor m_6.1.desc).map (fun d => d.parameters.length) = some 2) := ⟨q_wg (i := 383) (by decide +kernel) (by decide +kernel), w_4, by decide +kernel⟩
theorem s_7 : Cond.code m_7.1 m_7.2.1 m_7.2.2.1 m_7.2.2.2.1 ∈ q_gd ∧ Cond.initialized m_7.1.cls ∈ q_gd ∧ (m_7.1.cls ≠ "java/lang/invoke/MethodHandle" ∧ m_7.1.cls ≠ "java/lang/invoke/VarHandle" ∧ (parseMethodDescriptor m_7.1.desc).map (fun d => d.parameters.length) = some 1) := ⟨q_wg (i := 324) (by decide +kernel) (by decide +kernel), w_1, by decide +kernel⟩
theorem s_8 : Cond.code m_8.1 m_8.2.1 m_8.2.2.1 m_8.2.2.2.1 ∈ q_gd ∧ Cond.initialized m_8.1.cls ∈ q_gd ∧ (m_8.1.cls ≠ "java/lang/invoke/MethodHandle" ∧ m_8.1.cls ≠ "java/lang/invoke/VarHandle" ∧ (parseMethodDescriptor m_8.1.desc).map (fun d => d.parameters.length) = some 1) := ⟨q_wg (i := 306) (by decide +kernel) (by decide +kernel), w_2, by decide +kernel⟩
theorem s_9 : Cond.code m_9.1 m_9.2.1 m_9.2.2.1 m_9.2.2.2.1 ∈ q_gd ∧ Cond.initialized m_9.1.cls ∈ q_gd ∧ (m_9.1.cls ≠ "java/lang/invoke/MethodHandle" ∧ m_9.1.cls ≠ "java/lang/invoke/VarHandle" ∧ (parseMethodDescriptor m_9.1.desc).map (fun d => d.parameters.length) = some 1) := ⟨q_wg (i := 313) (by decide +kernel) (by decide +kernel), w_2, by decide +kernel⟩
theorem s_10 : Cond.code m_10.1 m_10.2.1 m_10.2.2.1 m_10.2.2.2.1 ∈ q_gd ∧ Cond.initialized m_10.1.cls ∈ q_gd ∧ (m_10.1.cls ≠ "java/lang/invoke/MethodHandle" ∧ m_10.1.cls ≠ "java/lang/invoke/VarHandle" ∧ (parseMethodDescriptor m_10.1.desc).map (fun d => d.parameters.length) = some 4) := ⟨q_wg (i := 390) (by decide +kernel) (by decide +kernel), w_4, by decide +kernel⟩
theorem s_11 : Cond.code m_11.1 m_11.2.1 m_11.2.2.1 m_11.2.2.2.1 ∈ q_gd ∧ Cond.initialized m_11.1.cls ∈ q_gd ∧ (m_11.1.cls ≠ "java/lang/invoke/MethodHandle" ∧ m_11.1.cls ≠ "java/lang/invoke/VarHandle" ∧ (parseMethodDescriptor m_11.1.desc).map (fun d => d.parameters.length) = some 1) := ⟨q_wg (i := 394) (by decide +kernel) (by decide +kernel), w_4, by decide +kernel⟩
theorem s_12 : Cond.code m_12.1 m_12.2.1 m_12.2.2.1 m_12.2.2.2.1 ∈ q_gd ∧ Cond.initialized m_12.1.cls ∈ q_gd ∧ (m_12.1.cls ≠ "java/lang/invoke/MethodHandle" ∧ m_12.1.cls ≠ "java/lang/invoke/VarHandle" ∧ (parseMethodDescriptor m_12.1.desc).map (fun d => d.parameters.length) = some 2) := ⟨q_wg (i := 387) (by decide +kernel) (by decide +kernel), w_4, by decide +kernel⟩
theorem s_13 : Cond.code m_13.1 m_13.2.1 m_13.2.2.1 m_13.2.2.2.1 ∈ q_gd ∧ Cond.initialized m_13.1.cls ∈ q_gd ∧ (m_13.1.cls ≠ "java/lang/invoke/MethodHandle" ∧ m_13.1.cls ≠ "java/lang/invoke/VarHandle" ∧ (parseMethodDescriptor m_13.1.desc).map (fun d => d.parameters.length) = some 2) := ⟨q_wg (i := 321) (by decide +kernel) (by decide +kernel), w_2, by decide +kernel⟩
theorem s_14 : Cond.code m_14.1 m_14.2.1 m_14.2.2.1 m_14.2.2.2.1 ∈ q_gd ∧ Cond.initialized m_14.1.cls ∈ q_gd ∧ (m_14.1.cls ≠ "java/lang/invoke/MethodHandle" ∧ m_14.1.cls ≠ "java/lang/invoke/VarHandle" ∧ (parseMethodDescriptor m_14.1.desc).map (fun d => d.parameters.length) = some 1) := ⟨q_wg (i := 294) (by decide +kernel) (by decide +kernel), w_2, by decide +kernel⟩
theorem s_15 : Cond.code m_15.1 m_15.2.1 m_15.2.2.1 m_15.2.2.2.1 ∈ q_gd ∧ Cond.initialized m_15.1.cls ∈ q_gd ∧ (m_15.1.cls ≠ "java/lang/invoke/MethodHandle" ∧ m_15.1.cls ≠ "java/lang/invoke/VarHandle" ∧ (parseMethodDescriptor m_15.1.desc).map (fun d => d.parameters.length) = some 0) := ⟨q_wg (i := 354) (by decide +kernel) (by decide +kernel), w_2, by decide +kernel⟩
theorem s_16 : Cond.code m_16.1 m_16.2.1 m_16.2.2.1 m_16.2.2.2.1 ∈ q_gd ∧ Cond.initialized m_16.1.cls ∈ q_gd ∧ (m_16.1.cls ≠ "java/lang/invoke/MethodHandle" ∧ m_16.1.cls ≠ "java/lang/invoke/VarHandle" ∧ (parseMethodDescriptor m_16.1.desc).map (fun d => d.parameters.length) = some 4) := ⟨q_wg (i := 317) (by decide +kernel) (by decide +kernel), w_2, by decide +kernel⟩
theorem s_17 : Cond.code m_17.1 m_17.2.1 m_17.2.2.1 m_17.2.2.2.1 ∈ q_gd ∧ Cond.initialized m_17.1.cls ∈ q_gd ∧ (m_17.1.cls ≠ "java/lang/invoke/MethodHandle" ∧ m_17.1.cls ≠ "java/lang/invoke/VarHandle" ∧ (parseMethodDescriptor m_17.1.desc).map (fun d => d.parameters.length) = some 3) := ⟨q_wg (i := 895) (by decide +kernel) (by decide +kernel), w_17, by decide +kernel⟩
theorem s_18 : Cond.code m_18.1 m_18.2.1 m_18.2.2.1 m_18.2.2.2.1 ∈ q_gd ∧ Cond.initialized m_18.1.cls ∈ q_gd ∧ (m_18.1.cls ≠ "java/lang/invoke/MethodHandle" ∧ m_18.1.cls ≠ "java/lang/invoke/VarHandle" ∧ (parseMethodDescriptor m_18.1.desc).map (fun d => d.parameters.length) = some 4) := ⟨q_wg (i := 1169) (by decide +kernel) (by decide +kernel), w_17, by decide +kernel⟩
theorem s_19 : Cond.code m_19.1 m_19.2.1 m_19.2.2.1 m_19.2.2.2.1 ∈ q_gd ∧ Cond.initialized m_19.1.cls ∈ q_gd ∧ (m_19.1.cls ≠ "java/lang/invoke/MethodHandle" ∧ m_19.1.cls ≠ "java/lang/invoke/VarHandle" ∧ (parseMethodDescriptor m_19.1.desc).map (fun d => d.parameters.length) = some 1) := ⟨q_wg (i := 367) (by decide +kernel) (by decide +kernel), w_2, by decide +kernel⟩
theorem s_20 : Cond.code m_20.1 m_20.2.1 m_20.2.2.1 m_20.2.2.2.1 ∈ q_gd ∧ Cond.initialized m_20.1.cls ∈ q_gd ∧ (m_20.1.cls ≠ "java/lang/invoke/MethodHandle" ∧ m_20.1.cls ≠ "java/lang/invoke/VarHandle" ∧ (parseMethodDescriptor m_20.1.desc).map (fun d => d.parameters.length) = some 0) := ⟨q_wg (i := 371) (by decide +kernel) (by decide +kernel), w_2, by decide +kernel⟩
theorem s_21 : Cond.code m_21.1 m_21.2.1 m_21.2.2.1 m_21.2.2.2.1 ∈ q_gd ∧ Cond.initialized m_21.1.cls ∈ q_gd ∧ (m_21.1.cls ≠ "java/lang/invoke/MethodHandle" ∧ m_21.1.cls ≠ "java/lang/invoke/VarHandle" ∧ (parseMethodDescriptor m_21.1.desc).map (fun d => d.parameters.length) = some 2) := ⟨q_wg (i := 375) (by decide +kernel) (by decide +kernel), w_4, by decide +kernel⟩
theorem s_22 : Cond.code m_22.1 m_22.2.1 m_22.2.2.1 m_22.2.2.2.1 ∈ q_gd ∧ Cond.initialized m_22.1.cls ∈ q_gd ∧ (m_22.1.cls ≠ "java/lang/invoke/MethodHandle" ∧ m_22.1.cls ≠ "java/lang/invoke/VarHandle" ∧ (parseMethodDescriptor m_22.1.desc).map (fun d => d.parameters.length) = some 8) := ⟨q_wg (i := 899) (by decide +kernel) (by decide +kernel), w_17, by decide +kernel⟩
theorem s_23 : Cond.code m_23.1 m_23.2.1 m_23.2.2.1 m_23.2.2.2.1 ∈ q_gd ∧ Cond.initialized m_23.1.cls ∈ q_gd ∧ (m_23.1.cls ≠ "java/lang/invoke/MethodHandle" ∧ m_23.1.cls ≠ "java/lang/invoke/VarHandle" ∧ (parseMethodDescriptor m_23.1.desc).map (fun d => d.parameters.length) = some 3) := ⟨q_wg (i := 361) (by decide +kernel) (by decide +kernel), w_1, by decide +kernel⟩
theorem s_24 : Cond.code m_24.1 m_24.2.1 m_24.2.2.1 m_24.2.2.2.1 ∈ q_gd ∧ Cond.initialized m_24.1.cls ∈ q_gd ∧ (m_24.1.cls ≠ "java/lang/invoke/MethodHandle" ∧ m_24.1.cls ≠ "java/lang/invoke/VarHandle" ∧ (parseMethodDescriptor m_24.1.desc).map (fun d => d.parameters.length) = some 4) := ⟨q_wg (i := 358) (by decide +kernel) (by decide +kernel), w_4, by decide +kernel⟩
theorem s_25 : Cond.code m_25.1 m_25.2.1 m_25.2.2.1 m_25.2.2.2.1 ∈ q_gd ∧ Cond.initialized m_25.1.cls ∈ q_gd ∧ (m_25.1.cls ≠ "java/lang/invoke/MethodHandle" ∧ m_25.1.cls ≠ "java/lang/invoke/VarHandle" ∧ (parseMethodDescriptor m_25.1.desc).map (fun d => d.parameters.length) = some 0) := ⟨q_wg (i := 57) (by decide +kernel) (by decide +kernel), w_4, by decide +kernel⟩
theorem s_26 : Cond.code m_26.1 m_26.2.1 m_26.2.2.1 m_26.2.2.2.1 ∈ q_gd ∧ Cond.initialized m_26.1.cls ∈ q_gd ∧ (m_26.1.cls ≠ "java/lang/invoke/MethodHandle" ∧ m_26.1.cls ≠ "java/lang/invoke/VarHandle" ∧ (parseMethodDescriptor m_26.1.desc).map (fun d => d.parameters.length) = some 1) := ⟨q_wg (i := 330) (by decide +kernel) (by decide +kernel), w_2, by decide +kernel⟩
theorem s_27 : Cond.code m_27.1 m_27.2.1 m_27.2.2.1 m_27.2.2.2.1 ∈ q_gd ∧ Cond.initialized m_27.1.cls ∈ q_gd ∧ (m_27.1.cls ≠ "java/lang/invoke/MethodHandle" ∧ m_27.1.cls ≠ "java/lang/invoke/VarHandle" ∧ (parseMethodDescriptor m_27.1.desc).map (fun d => d.parameters.length) = some 2) := ⟨q_wg (i := 286) (by decide +kernel) (by decide +kernel), w_15, by decide +kernel⟩
theorem s_28 : Cond.code m_28.1 m_28.2.1 m_28.2.2.1 m_28.2.2.2.1 ∈ q_gd ∧ Cond.initialized m_28.1.cls ∈ q_gd ∧ (m_28.1.cls ≠ "java/lang/invoke/MethodHandle" ∧ m_28.1.cls ≠ "java/lang/invoke/VarHandle" ∧ (parseMethodDescriptor m_28.1.desc).map (fun d => d.parameters.length) = some 1) := ⟨q_wg (i := 350) (by decide +kernel) (by decide +kernel), w_2, by decide +kernel⟩
theorem s_29 : Cond.code m_29.1 m_29.2.1 m_29.2.2.1 m_29.2.2.2.1 ∈ q_gd ∧ Cond.initialized m_29.1.cls ∈ q_gd ∧ (m_29.1.cls ≠ "java/lang/invoke/MethodHandle" ∧ m_29.1.cls ≠ "java/lang/invoke/VarHandle" ∧ (parseMethodDescriptor m_29.1.desc).map (fun d => d.parameters.length) = some 4) := ⟨q_wg (i := 1229) (by decide +kernel) (by decide +kernel), w_17, by decide +kernel⟩
theorem s_30 : Cond.code m_30.1 m_30.2.1 m_30.2.2.1 m_30.2.2.2.1 ∈ q_gd ∧ Cond.initialized m_30.1.cls ∈ q_gd ∧ (m_30.1.cls ≠ "java/lang/invoke/MethodHandle" ∧ m_30.1.cls ≠ "java/lang/invoke/VarHandle" ∧ (parseMethodDescriptor m_30.1.desc).map (fun d => d.parameters.length) = some 3) := ⟨q_wg (i := 512) (by decide +kernel) (by decide +kernel), w_4, by decide +kernel⟩
theorem s_31 : Cond.code m_31.1 m_31.2.1 m_31.2.2.1 m_31.2.2.2.1 ∈ q_gd ∧ Cond.initialized m_31.1.cls ∈ q_gd ∧ (m_31.1.cls ≠ "java/lang/invoke/MethodHandle" ∧ m_31.1.cls ≠ "java/lang/invoke/VarHandle" ∧ (parseMethodDescriptor m_31.1.desc).map (fun d => d.parameters.length) = some 0) := ⟨q_wg (i := 111) (by decide +kernel) (by decide +kernel), w_6, by decide +kernel⟩
theorem s_32 : Cond.code m_32.1 m_32.2.1 m_32.2.2.1 m_32.2.2.2.1 ∈ q_gd ∧ Cond.initialized m_32.1.cls ∈ q_gd ∧ (m_32.1.cls ≠ "java/lang/invoke/MethodHandle" ∧ m_32.1.cls ≠ "java/lang/invoke/VarHandle" ∧ (parseMethodDescriptor m_32.1.desc).map (fun d => d.parameters.length) = some 3) := ⟨q_wg (i := 1173) (by decide +kernel) (by decide +kernel), w_17, by decide +kernel⟩
theorem s_33 : Cond.code m_33.1 m_33.2.1 m_33.2.2.1 m_33.2.2.2.1 ∈ q_gd ∧ Cond.initialized m_33.1.cls ∈ q_gd ∧ (m_33.1.cls ≠ "java/lang/invoke/MethodHandle" ∧ m_33.1.cls ≠ "java/lang/invoke/VarHandle" ∧ (parseMethodDescriptor m_33.1.desc).map (fun d => d.parameters.length) = some 2) := ⟨q_wg (i := 1236) (by decide +kernel) (by decide +kernel), w_17, by decide +kernel⟩
theorem s_34 : Cond.code m_34.1 m_34.2.1 m_34.2.2.1 m_34.2.2.2.1 ∈ q_gd ∧ Cond.initialized m_34.1.cls ∈ q_gd ∧ (m_34.1.cls ≠ "java/lang/invoke/MethodHandle" ∧ m_34.1.cls ≠ "java/lang/invoke/VarHandle" ∧ (parseMethodDescriptor m_34.1.desc).map (fun d => d.parameters.length) = some 0) := ⟨q_wg (i := 108) (by decide +kernel) (by decide +kernel), w_7, by decide +kernel⟩
theorem s_35 : Cond.code m_35.1 m_35.2.1 m_35.2.2.1 m_35.2.2.2.1 ∈ q_gd ∧ Cond.initialized m_35.1.cls ∈ q_gd ∧ (m_35.1.cls ≠ "java/lang/invoke/MethodHandle" ∧ m_35.1.cls ≠ "java/lang/invoke/VarHandle" ∧ (parseMethodDescriptor m_35.1.desc).map (fun d => d.parameters.length) = some 1) := ⟨q_wg (i := 302) (by decide +kernel) (by decide +kernel), w_2, by decide +kernel⟩
theorem s_36 : Cond.code m_36.1 m_36.2.1 m_36.2.2.1 m_36.2.2.2.1 ∈ q_gd ∧ Cond.initialized m_36.1.cls ∈ q_gd ∧ (m_36.1.cls ≠ "java/lang/invoke/MethodHandle" ∧ m_36.1.cls ≠ "java/lang/invoke/VarHandle" ∧ (parseMethodDescriptor m_36.1.desc).map (fun d => d.parameters.length) = some 3) := ⟨q_wg (i := 334) (by decide +kernel) (by decide +kernel), w_4, by decide +kernel⟩
theorem s_37 : Cond.code m_37.1 m_37.2.1 m_37.2.2.1 m_37.2.2.2.1 ∈ q_gd ∧ Cond.initialized m_37.1.cls ∈ q_gd ∧ (m_37.1.cls ≠ "java/lang/invoke/MethodHandle" ∧ m_37.1.cls ≠ "java/lang/invoke/VarHandle" ∧ (parseMethodDescriptor m_37.1.desc).map (fun d => d.parameters.length) = some 8) := ⟨q_wg (i := 892) (by decide +kernel) (by decide +kernel), w_17, by decide +kernel⟩
theorem s_38 : Cond.code m_38.1 m_38.2.1 m_38.2.2.1 m_38.2.2.2.1 ∈ q_gd ∧ Cond.initialized m_38.1.cls ∈ q_gd ∧ (m_38.1.cls ≠ "java/lang/invoke/MethodHandle" ∧ m_38.1.cls ≠ "java/lang/invoke/VarHandle" ∧ (parseMethodDescriptor m_38.1.desc).map (fun d => d.parameters.length) = some 4) := ⟨q_wg (i := 1233) (by decide +kernel) (by decide +kernel), w_17, by decide +kernel⟩
theorem s_39 : Cond.code m_39.1 m_39.2.1 m_39.2.2.1 m_39.2.2.2.1 ∈ q_gd ∧ Cond.initialized m_39.1.cls ∈ q_gd ∧ (m_39.1.cls ≠ "java/lang/invoke/MethodHandle" ∧ m_39.1.cls ≠ "java/lang/invoke/VarHandle" ∧ (parseMethodDescriptor m_39.1.desc).map (fun d => d.parameters.length) = some 4) := ⟨q_wg (i := 809) (by decide +kernel) (by decide +kernel), w_10, by decide +kernel⟩
theorem s_40 : Cond.code m_40.1 m_40.2.1 m_40.2.2.1 m_40.2.2.2.1 ∈ q_gd ∧ Cond.initialized m_40.1.cls ∈ q_gd ∧ (m_40.1.cls ≠ "java/lang/invoke/MethodHandle" ∧ m_40.1.cls ≠ "java/lang/invoke/VarHandle" ∧ (parseMethodDescriptor m_40.1.desc).map (fun d => d.parameters.length) = some 4) := ⟨q_wg (i := 813) (by decide +kernel) (by decide +kernel), w_10, by decide +kernel⟩
theorem s_41 : Cond.code m_41.1 m_41.2.1 m_41.2.2.1 m_41.2.2.2.1 ∈ q_gd ∧ Cond.initialized m_41.1.cls ∈ q_gd ∧ (m_41.1.cls ≠ "java/lang/invoke/MethodHandle" ∧ m_41.1.cls ≠ "java/lang/invoke/VarHandle" ∧ (parseMethodDescriptor m_41.1.desc).map (fun d => d.parameters.length) = some 1) := ⟨q_wg (i := 817) (by decide +kernel) (by decide +kernel), w_10, by decide +kernel⟩
theorem s_42 : Cond.code m_42.1 m_42.2.1 m_42.2.2.1 m_42.2.2.2.1 ∈ q_gd ∧ Cond.initialized m_42.1.cls ∈ q_gd ∧ (m_42.1.cls ≠ "java/lang/invoke/MethodHandle" ∧ m_42.1.cls ≠ "java/lang/invoke/VarHandle" ∧ (parseMethodDescriptor m_42.1.desc).map (fun d => d.parameters.length) = some 1) := ⟨q_wg (i := 87) (by decide +kernel) (by decide +kernel), w_5, by decide +kernel⟩
theorem s_43 : Cond.code m_43.1 m_43.2.1 m_43.2.2.1 m_43.2.2.2.1 ∈ q_gd ∧ Cond.initialized m_43.1.cls ∈ q_gd ∧ (m_43.1.cls ≠ "java/lang/invoke/MethodHandle" ∧ m_43.1.cls ≠ "java/lang/invoke/VarHandle" ∧ (parseMethodDescriptor m_43.1.desc).map (fun d => d.parameters.length) = some 1) := ⟨q_wg (i := 172) (by decide +kernel) (by decide +kernel), w_10, by decide +kernel⟩
theorem s_44 : Cond.code m_44.1 m_44.2.1 m_44.2.2.1 m_44.2.2.2.1 ∈ q_gd ∧ Cond.initialized m_44.1.cls ∈ q_gd ∧ (m_44.1.cls ≠ "java/lang/invoke/MethodHandle" ∧ m_44.1.cls ≠ "java/lang/invoke/VarHandle" ∧ (parseMethodDescriptor m_44.1.desc).map (fun d => d.parameters.length) = some 2) := ⟨q_wg (i := 484) (by decide +kernel) (by decide +kernel), w_4, by decide +kernel⟩
theorem s_45 : Cond.code m_45.1 m_45.2.1 m_45.2.2.1 m_45.2.2.2.1 ∈ q_gd ∧ Cond.initialized m_45.1.cls ∈ q_gd ∧ (m_45.1.cls ≠ "java/lang/invoke/MethodHandle" ∧ m_45.1.cls ≠ "java/lang/invoke/VarHandle" ∧ (parseMethodDescriptor m_45.1.desc).map (fun d => d.parameters.length) = some 3) := ⟨q_wg (i := 1012) (by decide +kernel) (by decide +kernel), w_17, by decide +kernel⟩
theorem s_46 : Cond.code m_46.1 m_46.2.1 m_46.2.2.1 m_46.2.2.2.1 ∈ q_gd ∧ Cond.initialized m_46.1.cls ∈ q_gd ∧ (m_46.1.cls ≠ "java/lang/invoke/MethodHandle" ∧ m_46.1.cls ≠ "java/lang/invoke/VarHandle" ∧ (parseMethodDescriptor m_46.1.desc).map (fun d => d.parameters.length) = some 4) := ⟨q_wg (i := 641) (by decide +kernel) (by decide +kernel), w_4, by decide +kernel⟩
theorem s_47 : Cond.code m_47.1 m_47.2.1 m_47.2.2.1 m_47.2.2.2.1 ∈ q_gd ∧ Cond.initialized m_47.1.cls ∈ q_gd ∧ (m_47.1.cls ≠ "java/lang/invoke/MethodHandle" ∧ m_47.1.cls ≠ "java/lang/invoke/VarHandle" ∧ (parseMethodDescriptor m_47.1.desc).map (fun d => d.parameters.length) = some 2) := ⟨q_wg (i := 488) (by decide +kernel) (by decide +kernel), w_4, by decide +kernel⟩
theorem s_48 : Cond.code m_48.1 m_48.2.1 m_48.2.2.1 m_48.2.2.2.1 ∈ q_gd ∧ Cond.initialized m_48.1.cls ∈ q_gd ∧ (m_48.1.cls ≠ "java/lang/invoke/MethodHandle" ∧ m_48.1.cls ≠ "java/lang/invoke/VarHandle" ∧ (parseMethodDescriptor m_48.1.desc).map (fun d => d.parameters.length) = some 0) := ⟨q_wg (i := 379) (by decide +kernel) (by decide +kernel), w_4, by decide +kernel⟩
theorem s_49 : Cond.code m_49.1 m_49.2.1 m_49.2.2.1 m_49.2.2.2.1 ∈ q_gd ∧ Cond.initialized m_49.1.cls ∈ q_gd ∧ (m_49.1.cls ≠ "java/lang/invoke/MethodHandle" ∧ m_49.1.cls ≠ "java/lang/invoke/VarHandle" ∧ (parseMethodDescriptor m_49.1.desc).map (fun d => d.parameters.length) = some 0) := ⟨q_wg (i := 290) (by decide +kernel) (by decide +kernel), w_2, by decide +kernel⟩
theorem s_50 : Cond.code m_50.1 m_50.2.1 m_50.2.2.1 m_50.2.2.2.1 ∈ q_gd ∧ Cond.initialized m_50.1.cls ∈ q_gd ∧ (m_50.1.cls ≠ "java/lang/invoke/MethodHandle" ∧ m_50.1.cls ≠ "java/lang/invoke/VarHandle" ∧ (parseMethodDescriptor m_50.1.desc).map (fun d => d.parameters.length) = some 5) := ⟨q_wg (i := 822) (by decide +kernel) (by decide +kernel), w_10, by decide +kernel⟩
theorem s_51 : Cond.code m_51.1 m_51.2.1 m_51.2.2.1 m_51.2.2.2.1 ∈ q_gd ∧ Cond.initialized m_51.1.cls ∈ q_gd ∧ (m_51.1.cls ≠ "java/lang/invoke/MethodHandle" ∧ m_51.1.cls ≠ "java/lang/invoke/VarHandle" ∧ (parseMethodDescriptor m_51.1.desc).map (fun d => d.parameters.length) = some 1) := ⟨q_wg (i := 279) (by decide +kernel) (by decide +kernel), w_2, by decide +kernel⟩
theorem s_52 : Cond.code m_52.1 m_52.2.1 m_52.2.2.1 m_52.2.2.2.1 ∈ q_gd ∧ Cond.initialized m_52.1.cls ∈ q_gd ∧ (m_52.1.cls ≠ "java/lang/invoke/MethodHandle" ∧ m_52.1.cls ≠ "java/lang/invoke/VarHandle" ∧ (parseMethodDescriptor m_52.1.desc).map (fun d => d.parameters.length) = some 0) := ⟨q_wg (i := 283) (by decide +kernel) (by decide +kernel), w_4, by decide +kernel⟩
theorem s_53 : Cond.code m_53.1 m_53.2.1 m_53.2.2.1 m_53.2.2.2.1 ∈ q_gd ∧ Cond.initialized m_53.1.cls ∈ q_gd ∧ (m_53.1.cls ≠ "java/lang/invoke/MethodHandle" ∧ m_53.1.cls ≠ "java/lang/invoke/VarHandle" ∧ (parseMethodDescriptor m_53.1.desc).map (fun d => d.parameters.length) = some 2) := ⟨q_wg (i := 539) (by decide +kernel) (by decide +kernel), w_4, by decide +kernel⟩
theorem s_54 : Cond.code m_54.1 m_54.2.1 m_54.2.2.1 m_54.2.2.2.1 ∈ q_gd ∧ Cond.initialized m_54.1.cls ∈ q_gd ∧ (m_54.1.cls ≠ "java/lang/invoke/MethodHandle" ∧ m_54.1.cls ≠ "java/lang/invoke/VarHandle" ∧ (parseMethodDescriptor m_54.1.desc).map (fun d => d.parameters.length) = some 0) := ⟨q_wg (i := 888) (by decide +kernel) (by decide +kernel), w_17, by decide +kernel⟩
theorem s_55 : Cond.code m_55.1 m_55.2.1 m_55.2.2.1 m_55.2.2.2.1 ∈ q_gd ∧ Cond.initialized m_55.1.cls ∈ q_gd ∧ (m_55.1.cls ≠ "java/lang/invoke/MethodHandle" ∧ m_55.1.cls ≠ "java/lang/invoke/VarHandle" ∧ (parseMethodDescriptor m_55.1.desc).map (fun d => d.parameters.length) = some 0) := ⟨q_wg (i := 398) (by decide +kernel) (by decide +kernel), w_2, by decide +kernel⟩
theorem s_56 : Cond.code m_56.1 m_56.2.1 m_56.2.2.1 m_56.2.2.2.1 ∈ q_gd ∧ Cond.initialized m_56.1.cls ∈ q_gd ∧ (m_56.1.cls ≠ "java/lang/invoke/MethodHandle" ∧ m_56.1.cls ≠ "java/lang/invoke/VarHandle" ∧ (parseMethodDescriptor m_56.1.desc).map (fun d => d.parameters.length) = some 0) := ⟨q_wg (i := 30) (by decide +kernel) (by decide +kernel), w_2, by decide +kernel⟩
theorem s_57 : Cond.code m_57.1 m_57.2.1 m_57.2.2.1 m_57.2.2.2.1 ∈ q_gd ∧ Cond.initialized m_57.1.cls ∈ q_gd ∧ (m_57.1.cls ≠ "java/lang/invoke/MethodHandle" ∧ m_57.1.cls ≠ "java/lang/invoke/VarHandle" ∧ (parseMethodDescriptor m_57.1.desc).map (fun d => d.parameters.length) = some 0) := ⟨q_wg (i := 130) (by decide +kernel) (by decide +kernel), w_8, by decide +kernel⟩
theorem s_58 : Cond.code m_58.1 m_58.2.1 m_58.2.2.1 m_58.2.2.2.1 ∈ q_gd ∧ Cond.initialized m_58.1.cls ∈ q_gd ∧ (m_58.1.cls ≠ "java/lang/invoke/MethodHandle" ∧ m_58.1.cls ≠ "java/lang/invoke/VarHandle" ∧ (parseMethodDescriptor m_58.1.desc).map (fun d => d.parameters.length) = some 0) := ⟨q_wg (i := 142) (by decide +kernel) (by decide +kernel), w_9, by decide +kernel⟩
theorem s_59 : Cond.code m_59.1 m_59.2.1 m_59.2.2.1 m_59.2.2.2.1 ∈ q_gd ∧ Cond.initialized m_59.1.cls ∈ q_gd ∧ (m_59.1.cls ≠ "java/lang/invoke/MethodHandle" ∧ m_59.1.cls ≠ "java/lang/invoke/VarHandle" ∧ (parseMethodDescriptor m_59.1.desc).map (fun d => d.parameters.length) = some 0) := ⟨q_wg (i := 903) (by decide +kernel) (by decide +kernel), w_17, by decide +kernel⟩
theorem s_60 : Cond.code m_60.1 m_60.2.1 m_60.2.2.1 m_60.2.2.2.1 ∈ q_gd ∧ Cond.initialized m_60.1.cls ∈ q_gd ∧ (m_60.1.cls ≠ "java/lang/invoke/MethodHandle" ∧ m_60.1.cls ≠ "java/lang/invoke/VarHandle" ∧ (parseMethodDescriptor m_60.1.desc).map (fun d => d.parameters.length) = some 1) := ⟨q_wg (i := 530) (by decide +kernel) (by decide +kernel), w_4, by decide +kernel⟩
theorem s_61 : Cond.code m_61.1 m_61.2.1 m_61.2.2.1 m_61.2.2.2.1 ∈ q_gd ∧ Cond.initialized m_61.1.cls ∈ q_gd ∧ (m_61.1.cls ≠ "java/lang/invoke/MethodHandle" ∧ m_61.1.cls ≠ "java/lang/invoke/VarHandle" ∧ (parseMethodDescriptor m_61.1.desc).map (fun d => d.parameters.length) = some 2) := ⟨q_wg (i := 837) (by decide +kernel) (by decide +kernel), w_10, by decide +kernel⟩
theorem s_62 : Cond.code m_62.1 m_62.2.1 m_62.2.2.1 m_62.2.2.2.1 ∈ q_gd ∧ Cond.initialized m_62.1.cls ∈ q_gd ∧ (m_62.1.cls ≠ "java/lang/invoke/MethodHandle" ∧ m_62.1.cls ≠ "java/lang/invoke/VarHandle" ∧ (parseMethodDescriptor m_62.1.desc).map (fun d => d.parameters.length) = some 0) := ⟨q_wg (i := 472) (by decide +kernel) (by decide +kernel), w_10, by decide +kernel⟩
theorem s_63 : Cond.code m_63.1 m_63.2.1 m_63.2.2.1 m_63.2.2.2.1 ∈ q_gd ∧ Cond.initialized m_63.1.cls ∈ q_gd ∧ (m_63.1.cls ≠ "java/lang/invoke/MethodHandle" ∧ m_63.1.cls ≠ "java/lang/invoke/VarHandle" ∧ (parseMethodDescriptor m_63.1.desc).map (fun d => d.parameters.length) = some 1) := ⟨q_wg (i := 480) (by decide +kernel) (by decide +kernel), w_4, by decide +kernel⟩
theorem s_64 : Cond.code m_64.1 m_64.2.1 m_64.2.2.1 m_64.2.2.2.1 ∈ q_gd ∧ Cond.initialized m_64.1.cls ∈ q_gd ∧ (m_64.1.cls ≠ "java/lang/invoke/MethodHandle" ∧ m_64.1.cls ≠ "java/lang/invoke/VarHandle" ∧ (parseMethodDescriptor m_64.1.desc).map (fun d => d.parameters.length) = some 1) := ⟨q_wg (i := 1078) (by decide +kernel) (by decide +kernel), w_17, by decide +kernel⟩
theorem s_65 : Cond.code m_65.1 m_65.2.1 m_65.2.2.1 m_65.2.2.2.1 ∈ q_gd ∧ Cond.initialized m_65.1.cls ∈ q_gd ∧ (m_65.1.cls ≠ "java/lang/invoke/MethodHandle" ∧ m_65.1.cls ≠ "java/lang/invoke/VarHandle" ∧ (parseMethodDescriptor m_65.1.desc).map (fun d => d.parameters.length) = some 2) := ⟨q_wg (i := 791) (by decide +kernel) (by decide +kernel), w_10, by decide +kernel⟩
theorem s_66 : Cond.code m_66.1 m_66.2.1 m_66.2.2.1 m_66.2.2.2.1 ∈ q_gd ∧ Cond.initialized m_66.1.cls ∈ q_gd ∧ (m_66.1.cls ≠ "java/lang/invoke/MethodHandle" ∧ m_66.1.cls ≠ "java/lang/invoke/VarHandle" ∧ (parseMethodDescriptor m_66.1.desc).map (fun d => d.parameters.length) = some 3) := ⟨q_wg (i := 801) (by decide +kernel) (by decide +kernel), w_10, by decide +kernel⟩
theorem s_67 : Cond.code m_67.1 m_67.2.1 m_67.2.2.1 m_67.2.2.2.1 ∈ q_gd ∧ Cond.initialized m_67.1.cls ∈ q_gd ∧ (m_67.1.cls ≠ "java/lang/invoke/MethodHandle" ∧ m_67.1.cls ≠ "java/lang/invoke/VarHandle" ∧ (parseMethodDescriptor m_67.1.desc).map (fun d => d.parameters.length) = some 1) := ⟨q_wg (i := 1070) (by decide +kernel) (by decide +kernel), w_17, by decide +kernel⟩
theorem s_68 : Cond.code m_68.1 m_68.2.1 m_68.2.2.1 m_68.2.2.2.1 ∈ q_gd ∧ Cond.initialized m_68.1.cls ∈ q_gd ∧ (m_68.1.cls ≠ "java/lang/invoke/MethodHandle" ∧ m_68.1.cls ≠ "java/lang/invoke/VarHandle" ∧ (parseMethodDescriptor m_68.1.desc).map (fun d => d.parameters.length) = some 1) := ⟨q_wg (i := 648) (by decide +kernel) (by decide +kernel), w_1, by decide +kernel⟩
theorem s_69 : Cond.code m_69.1 m_69.2.1 m_69.2.2.1 m_69.2.2.2.1 ∈ q_gd ∧ Cond.initialized m_69.1.cls ∈ q_gd ∧ (m_69.1.cls ≠ "java/lang/invoke/MethodHandle" ∧ m_69.1.cls ≠ "java/lang/invoke/VarHandle" ∧ (parseMethodDescriptor m_69.1.desc).map (fun d => d.parameters.length) = some 3) := ⟨q_wg (i := 652) (by decide +kernel) (by decide +kernel), w_4, by decide +kernel⟩
theorem s_70 : Cond.code m_70.1 m_70.2.1 m_70.2.2.1 m_70.2.2.2.1 ∈ q_gd ∧ Cond.initialized m_70.1.cls ∈ q_gd ∧ (m_70.1.cls ≠ "java/lang/invoke/MethodHandle" ∧ m_70.1.cls ≠ "java/lang/invoke/VarHandle" ∧ (parseMethodDescriptor m_70.1.desc).map (fun d => d.parameters.length) = some 0) := ⟨q_wg (i := 830) (by decide +kernel) (by decide +kernel), w_10, by decide +kernel⟩
theorem s_71 : Cond.code m_71.1 m_71.2.1 m_71.2.2.1 m_71.2.2.2.1 ∈ q_gd ∧ Cond.initialized m_71.1.cls ∈ q_gd ∧ (m_71.1.cls ≠ "java/lang/invoke/MethodHandle" ∧ m_71.1.cls ≠ "java/lang/invoke/VarHandle" ∧ (parseMethodDescriptor m_71.1.desc).map (fun d => d.parameters.length) = some 1) := ⟨q_wg (i := 460) (by decide +kernel) (by decide +kernel), w_4, by decide +kernel⟩
theorem s_72 : Cond.code m_72.1 m_72.2.1 m_72.2.2.1 m_72.2.2.2.1 ∈ q_gd ∧ Cond.initialized m_72.1.cls ∈ q_gd ∧ (m_72.1.cls ≠ "java/lang/invoke/MethodHandle" ∧ m_72.1.cls ≠ "java/lang/invoke/VarHandle" ∧ (parseMethodDescriptor m_72.1.desc).map (fun d => d.parameters.length) = some 3) := ⟨q_wg (i := 497) (by decide +kernel) (by decide +kernel), w_7, by decide +kernel⟩
theorem s_73 : Cond.code m_73.1 m_73.2.1 m_73.2.2.1 m_73.2.2.2.1 ∈ q_gd ∧ Cond.initialized m_73.1.cls ∈ q_gd ∧ (m_73.1.cls ≠ "java/lang/invoke/MethodHandle" ∧ m_73.1.cls ≠ "java/lang/invoke/VarHandle" ∧ (parseMethodDescriptor m_73.1.desc).map (fun d => d.parameters.length) = some 2) := ⟨q_wg (i := 506) (by decide +kernel) (by decide +kernel), w_7, by decide +kernel⟩
theorem s_74 : Cond.code m_74.1 m_74.2.1 m_74.2.2.1 m_74.2.2.2.1 ∈ q_gd ∧ Cond.initialized m_74.1.cls ∈ q_gd ∧ (m_74.1.cls ≠ "java/lang/invoke/MethodHandle" ∧ m_74.1.cls ≠ "java/lang/invoke/VarHandle" ∧ (parseMethodDescriptor m_74.1.desc).map (fun d => d.parameters.length) = some 1) := ⟨q_wg (i := 516) (by decide +kernel) (by decide +kernel), w_7, by decide +kernel⟩
theorem s_75 : Cond.code m_75.1 m_75.2.1 m_75.2.2.1 m_75.2.2.2.1 ∈ q_gd ∧ Cond.initialized m_75.1.cls ∈ q_gd ∧ (m_75.1.cls ≠ "java/lang/invoke/MethodHandle" ∧ m_75.1.cls ≠ "java/lang/invoke/VarHandle" ∧ (parseMethodDescriptor m_75.1.desc).map (fun d => d.parameters.length) = some 1) := ⟨q_wg (i := 551) (by decide +kernel) (by decide +kernel), w_5, by decide +kernel⟩
theorem s_76 : Cond.code m_76.1 m_76.2.1 m_76.2.2.1 m_76.2.2.2.1 ∈ q_gd ∧ Cond.initialized m_76.1.cls ∈ q_gd ∧ (m_76.1.cls ≠ "java/lang/invoke/MethodHandle" ∧ m_76.1.cls ≠ "java/lang/invoke/VarHandle" ∧ (parseMethodDescriptor m_76.1.desc).map (fun d => d.parameters.length) = some 1) := ⟨q_wg (i := 555) (by decide +kernel) (by decide +kernel), w_5, by decide +kernel⟩
theorem s_77 : Cond.code m_77.1 m_77.2.1 m_77.2.2.1 m_77.2.2.2.1 ∈ q_gd ∧ Cond.initialized m_77.1.cls ∈ q_gd ∧ (m_77.1.cls ≠ "java/lang/invoke/MethodHandle" ∧ m_77.1.cls ≠ "java/lang/invoke/VarHandle" ∧ (parseMethodDescriptor m_77.1.desc).map (fun d => d.parameters.length) = some 2) := ⟨q_wg (i := 755) (by decide +kernel) (by decide +kernel), w_4, by decide +kernel⟩
theorem s_78 : Cond.code m_78.1 m_78.2.1 m_78.2.2.1 m_78.2.2.2.1 ∈ q_gd ∧ Cond.initialized m_78.1.cls ∈ q_gd ∧ (m_78.1.cls ≠ "java/lang/invoke/MethodHandle" ∧ m_78.1.cls ≠ "java/lang/invoke/VarHandle" ∧ (parseMethodDescriptor m_78.1.desc).map (fun d => d.parameters.length) = some 1) := ⟨q_wg (i := 760) (by decide +kernel) (by decide +kernel), w_4, by decide +kernel⟩
theorem s_79 : Cond.code m_79.1 m_79.2.1 m_79.2.2.1 m_79.2.2.2.1 ∈ q_gd ∧ Cond.initialized m_79.1.cls ∈ q_gd ∧ (m_79.1.cls ≠ "java/lang/invoke/MethodHandle" ∧ m_79.1.cls ≠ "java/lang/invoke/VarHandle" ∧ (parseMethodDescriptor m_79.1.desc).map (fun d => d.parameters.length) = some 2) := ⟨q_wg (i := 834) (by decide +kernel) (by decide +kernel), w_10, by decide +kernel⟩
theorem s_80 : Cond.code m_80.1 m_80.2.1 m_80.2.2.1 m_80.2.2.2.1 ∈ q_gd ∧ Cond.initialized m_80.1.cls ∈ q_gd ∧ (m_80.1.cls ≠ "java/lang/invoke/MethodHandle" ∧ m_80.1.cls ≠ "java/lang/invoke/VarHandle" ∧ (parseMethodDescriptor m_80.1.desc).map (fun d => d.parameters.length) = some 2) := ⟨q_wg (i := 1086) (by decide +kernel) (by decide +kernel), w_17, by decide +kernel⟩
theorem s_81 : Cond.code m_81.1 m_81.2.1 m_81.2.2.1 m_81.2.2.2.1 ∈ q_gd ∧ Cond.initialized m_81.1.cls ∈ q_gd ∧ (m_81.1.cls ≠ "java/lang/invoke/MethodHandle" ∧ m_81.1.cls ≠ "java/lang/invoke/VarHandle" ∧ (parseMethodDescriptor m_81.1.desc).map (fun d => d.parameters.length) = some 1) := ⟨q_wg (i := 1090) (by decide +kernel) (by decide +kernel), w_17, by decide +kernel⟩
theorem s_82 : Cond.code m_82.1 m_82.2.1 m_82.2.2.1 m_82.2.2.2.1 ∈ q_gd ∧ Cond.initialized m_82.1.cls ∈ q_gd ∧ (m_82.1.cls ≠ "java/lang/invoke/MethodHandle" ∧ m_82.1.cls ≠ "java/lang/invoke/VarHandle" ∧ (parseMethodDescriptor m_82.1.desc).map (fun d => d.parameters.length) = some 1) := ⟨q_wg (i := 1103) (by decide +kernel) (by decide +kernel), w_17, by decide +kernel⟩
theorem s_83 : Cond.code m_83.1 m_83.2.1 m_83.2.2.1 m_83.2.2.2.1 ∈ q_gd ∧ Cond.initialized m_83.1.cls ∈ q_gd ∧ (m_83.1.cls ≠ "java/lang/invoke/MethodHandle" ∧ m_83.1.cls ≠ "java/lang/invoke/VarHandle" ∧ (parseMethodDescriptor m_83.1.desc).map (fun d => d.parameters.length) = some 0) := ⟨q_wg (i := 468) (by decide +kernel) (by decide +kernel), w_1, by decide +kernel⟩
theorem s_84 : Cond.code m_84.1 m_84.2.1 m_84.2.2.1 m_84.2.2.2.1 ∈ q_gd ∧ Cond.initialized m_84.1.cls ∈ q_gd ∧ (m_84.1.cls ≠ "java/lang/invoke/MethodHandle" ∧ m_84.1.cls ≠ "java/lang/invoke/VarHandle" ∧ (parseMethodDescriptor m_84.1.desc).map (fun d => d.parameters.length) = some 4) := ⟨q_wg (i := 618) (by decide +kernel) (by decide +kernel), w_9, by decide +kernel⟩
theorem s_85 : Cond.code m_85.1 m_85.2.1 m_85.2.2.1 m_85.2.2.2.1 ∈ q_gd ∧ Cond.initialized m_85.1.cls ∈ q_gd ∧ (m_85.1.cls ≠ "java/lang/invoke/MethodHandle" ∧ m_85.1.cls ≠ "java/lang/invoke/VarHandle" ∧ (parseMethodDescriptor m_85.1.desc).map (fun d => d.parameters.length) = some 2) := ⟨q_wg (i := 636) (by decide +kernel) (by decide +kernel), w_7, by decide +kernel⟩
theorem s_86 : Cond.code m_86.1 m_86.2.1 m_86.2.2.1 m_86.2.2.2.1 ∈ q_gd ∧ Cond.initialized m_86.1.cls ∈ q_gd ∧ (m_86.1.cls ≠ "java/lang/invoke/MethodHandle" ∧ m_86.1.cls ≠ "java/lang/invoke/VarHandle" ∧ (parseMethodDescriptor m_86.1.desc).map (fun d => d.parameters.length) = some 5) := ⟨q_wg (i := 661) (by decide +kernel) (by decide +kernel), w_9, by decide +kernel⟩
theorem s_87 : Cond.code m_87.1 m_87.2.1 m_87.2.2.1 m_87.2.2.2.1 ∈ q_gd ∧ Cond.initialized m_87.1.cls ∈ q_gd ∧ (m_87.1.cls ≠ "java/lang/invoke/MethodHandle" ∧ m_87.1.cls ≠ "java/lang/invoke/VarHandle" ∧ (parseMethodDescriptor m_87.1.desc).map (fun d => d.parameters.length) = some 2) := ⟨q_wg (i := 826) (by decide +kernel) (by decide +kernel), w_10, by decide +kernel⟩
theorem s_88 : Cond.code m_88.1 m_88.2.1 m_88.2.2.1 m_88.2.2.2.1 ∈ q_gd ∧ Cond.initialized m_88.1.cls ∈ q_gd ∧ (m_88.1.cls ≠ "java/lang/invoke/MethodHandle" ∧ m_88.1.cls ≠ "java/lang/invoke/VarHandle" ∧ (parseMethodDescriptor m_88.1.desc).map (fun d => d.parameters.length) = some 0) := ⟨q_wg (i := 1119) (by decide +kernel) (by decide +kernel), w_17, by decide +kernel⟩
theorem s_89 : Cond.code m_89.1 m_89.2.1 m_89.2.2.1 m_89.2.2.2.1 ∈ q_gd ∧ Cond.initialized m_89.1.cls ∈ q_gd ∧ (m_89.1.cls ≠ "java/lang/invoke/MethodHandle" ∧ m_89.1.cls ≠ "java/lang/invoke/VarHandle" ∧ (parseMethodDescriptor m_89.1.desc).map (fun d => d.parameters.length) = some 0) := ⟨q_wg (i := 562) (by decide +kernel) (by decide +kernel), w_1, by decide +kernel⟩
theorem s_90 : Cond.code m_90.1 m_90.2.1 m_90.2.2.1 m_90.2.2.2.1 ∈ q_gd ∧ Cond.initialized m_90.1.cls ∈ q_gd ∧ (m_90.1.cls ≠ "java/lang/invoke/MethodHandle" ∧ m_90.1.cls ≠ "java/lang/invoke/VarHandle" ∧ (parseMethodDescriptor m_90.1.desc).map (fun d => d.parameters.length) = some 1) := ⟨q_wg (i := 625) (by decide +kernel) (by decide +kernel), w_7, by decide +kernel⟩
theorem s_91 : Cond.code m_91.1 m_91.2.1 m_91.2.2.1 m_91.2.2.2.1 ∈ q_gd ∧ Cond.initialized m_91.1.cls ∈ q_gd ∧ (m_91.1.cls ≠ "java/lang/invoke/MethodHandle" ∧ m_91.1.cls ≠ "java/lang/invoke/VarHandle" ∧ (parseMethodDescriptor m_91.1.desc).map (fun d => d.parameters.length) = some 1) := ⟨q_wg (i := 667) (by decide +kernel) (by decide +kernel), w_7, by decide +kernel⟩
theorem s_92 : Cond.code m_92.1 m_92.2.1 m_92.2.2.1 m_92.2.2.2.1 ∈ q_gd ∧ Cond.initialized m_92.1.cls ∈ q_gd ∧ (m_92.1.cls ≠ "java/lang/invoke/MethodHandle" ∧ m_92.1.cls ≠ "java/lang/invoke/VarHandle" ∧ (parseMethodDescriptor m_92.1.desc).map (fun d => d.parameters.length) = some 2) := ⟨q_wg (i := 1082) (by decide +kernel) (by decide +kernel), w_17, by decide +kernel⟩
theorem s_93 : Cond.code m_93.1 m_93.2.1 m_93.2.2.1 m_93.2.2.2.1 ∈ q_gd ∧ Cond.initialized m_93.1.cls ∈ q_gd ∧ (m_93.1.cls ≠ "java/lang/invoke/MethodHandle" ∧ m_93.1.cls ≠ "java/lang/invoke/VarHandle" ∧ (parseMethodDescriptor m_93.1.desc).map (fun d => d.parameters.length) = some 2) := ⟨q_wg (i := 1131) (by decide +kernel) (by decide +kernel), w_17, by decide +kernel⟩
theorem s_94 : Cond.code m_94.1 m_94.2.1 m_94.2.2.1 m_94.2.2.2.1 ∈ q_gd ∧ Cond.initialized m_94.1.cls ∈ q_gd ∧ (m_94.1.cls ≠ "java/lang/invoke/MethodHandle" ∧ m_94.1.cls ≠ "java/lang/invoke/VarHandle" ∧ (parseMethodDescriptor m_94.1.desc).map (fun d => d.parameters.length) = some 2) := ⟨q_wg (i := 1161) (by decide +kernel) (by decide +kernel), w_17, by decide +kernel⟩
theorem s_95 : Cond.code m_95.1 m_95.2.1 m_95.2.2.1 m_95.2.2.2.1 ∈ q_gd ∧ Cond.initialized m_95.1.cls ∈ q_gd ∧ (m_95.1.cls ≠ "java/lang/invoke/MethodHandle" ∧ m_95.1.cls ≠ "java/lang/invoke/VarHandle" ∧ (parseMethodDescriptor m_95.1.desc).map (fun d => d.parameters.length) = some 3) := ⟨q_wg (i := 1165) (by decide +kernel) (by decide +kernel), w_17, by decide +kernel⟩
theorem s_96 : Cond.code m_96.1 m_96.2.1 m_96.2.2.1 m_96.2.2.2.1 ∈ q_gd ∧ Cond.initialized m_96.1.cls ∈ q_gd ∧ (m_96.1.cls ≠ "java/lang/invoke/MethodHandle" ∧ m_96.1.cls ≠ "java/lang/invoke/VarHandle" ∧ (parseMethodDescriptor m_96.1.desc).map (fun d => d.parameters.length) = some 3) := ⟨q_wg (i := 1177) (by decide +kernel) (by decide +kernel), w_17, by decide +kernel⟩
theorem s_97 : Cond.code m_97.1 m_97.2.1 m_97.2.2.1 m_97.2.2.2.1 ∈ q_gd ∧ Cond.initialized m_97.1.cls ∈ q_gd ∧ (m_97.1.cls ≠ "java/lang/invoke/MethodHandle" ∧ m_97.1.cls ≠ "java/lang/invoke/VarHandle" ∧ (parseMethodDescriptor m_97.1.desc).map (fun d => d.parameters.length) = some 0) := ⟨q_wg (i := 444) (by decide +kernel) (by decide +kernel), w_2, by decide +kernel⟩
theorem s_98 : Cond.code m_98.1 m_98.2.1 m_98.2.2.1 m_98.2.2.2.1 ∈ q_gd ∧ Cond.initialized m_98.1.cls ∈ q_gd ∧ (m_98.1.cls ≠ "java/lang/invoke/MethodHandle" ∧ m_98.1.cls ≠ "java/lang/invoke/VarHandle" ∧ (parseMethodDescriptor m_98.1.desc).map (fun d => d.parameters.length) = some 2) := ⟨q_wg (i := 720) (by decide +kernel) (by decide +kernel), w_1, by decide +kernel⟩
theorem s_99 : Cond.code m_99.1 m_99.2.1 m_99.2.2.1 m_99.2.2.2.1 ∈ q_gd ∧ Cond.initialized m_99.1.cls ∈ q_gd ∧ (m_99.1.cls ≠ "java/lang/invoke/MethodHandle" ∧ m_99.1.cls ≠ "java/lang/invoke/VarHandle" ∧ (parseMethodDescriptor m_99.1.desc).map (fun d => d.parameters.length) = some 0) := ⟨q_wg (i := 1024) (by decide +kernel) (by decide +kernel), w_17, by decide +kernel⟩
theorem s_100 : Cond.code m_100.1 m_100.2.1 m_100.2.2.1 m_100.2.2.2.1 ∈ q_gd ∧ Cond.initialized m_100.1.cls ∈ q_gd ∧ (m_100.1.cls ≠ "java/lang/invoke/MethodHandle" ∧ m_100.1.cls ≠ "java/lang/invoke/VarHandle" ∧ (parseMethodDescriptor m_100.1.desc).map (fun d => d.parameters.length) = some 2) := ⟨q_wg (i := 346) (by decide +kernel) (by decide +kernel), w_4, by decide +kernel⟩
theorem s_101 : Cond.code m_101.1 m_101.2.1 m_101.2.2.1 m_101.2.2.2.1 ∈ q_gd ∧ Cond.initialized m_101.1.cls ∈ q_gd ∧ (m_101.1.cls ≠ "java/lang/invoke/MethodHandle" ∧ m_101.1.cls ≠ "java/lang/invoke/VarHandle" ∧ (parseMethodDescriptor m_101.1.desc).map (fun d => d.parameters.length) = some 1) := ⟨q_wg (i := 547) (by decide +kernel) (by decide +kernel), w_2, by decide +kernel⟩
theorem s_102 : Cond.code m_102.1 m_102.2.1 m_102.2.2.1 m_102.2.2.2.1 ∈ q_gd ∧ Cond.initialized m_102.1.cls ∈ q_gd ∧ (m_102.1.cls ≠ "java/lang/invoke/MethodHandle" ∧ m_102.1.cls ≠ "java/lang/invoke/VarHandle" ∧ (parseMethodDescriptor m_102.1.desc).map (fun d => d.parameters.length) = some 1) := ⟨q_wg (i := 571) (by decide +kernel) (by decide +kernel), w_4, by decide +kernel⟩
theorem s_103 : Cond.code m_103.1 m_103.2.1 m_103.2.2.1 m_103.2.2.2.1 ∈ q_gd ∧ Cond.initialized m_103.1.cls ∈ q_gd ∧ (m_103.1.cls ≠ "java/lang/invoke/MethodHandle" ∧ m_103.1.cls ≠ "java/lang/invoke/VarHandle" ∧ (parseMethodDescriptor m_103.1.desc).map (fun d => d.parameters.length) = some 3) := ⟨q_wg (i := 580) (by decide +kernel) (by decide +kernel), w_4, by decide +kernel⟩
theorem s_104 : Cond.code m_104.1 m_104.2.1 m_104.2.2.1 m_104.2.2.2.1 ∈ q_gd ∧ Cond.initialized m_104.1.cls ∈ q_gd ∧ (m_104.1.cls ≠ "java/lang/invoke/MethodHandle" ∧ m_104.1.cls ≠ "java/lang/invoke/VarHandle" ∧ (parseMethodDescriptor m_104.1.desc).map (fun d => d.parameters.length) = some 1) := ⟨q_wg (i := 628) (by decide +kernel) (by decide +kernel), w_8, by decide +kernel⟩
theorem s_105 : Cond.code m_105.1 m_105.2.1 m_105.2.2.1 m_105.2.2.2.1 ∈ q_gd ∧ Cond.initialized m_105.1.cls ∈ q_gd ∧ (m_105.1.cls ≠ "java/lang/invoke/MethodHandle" ∧ m_105.1.cls ≠ "java/lang/invoke/VarHandle" ∧ (parseMethodDescriptor m_105.1.desc).map (fun d => d.parameters.length) = some 3) := ⟨q_wg (i := 632) (by decide +kernel) (by decide +kernel), w_8, by decide +kernel⟩
theorem s_106 : Cond.code m_106.1 m_106.2.1 m_106.2.2.1 m_106.2.2.2.1 ∈ q_gd ∧ Cond.initialized m_106.1.cls ∈ q_gd ∧ (m_106.1.cls ≠ "java/lang/invoke/MethodHandle" ∧ m_106.1.cls ≠ "java/lang/invoke/VarHandle" ∧ (parseMethodDescriptor m_106.1.desc).map (fun d => d.parameters.length) = some 2) := ⟨q_wg (i := 742) (by decide +kernel) (by decide +kernel), w_8, by decide +kernel⟩
theorem s_107 : Cond.code m_107.1 m_107.2.1 m_107.2.2.1 m_107.2.2.2.1 ∈ q_gd ∧ Cond.initialized m_107.1.cls ∈ q_gd ∧ (m_107.1.cls ≠ "java/lang/invoke/MethodHandle" ∧ m_107.1.cls ≠ "java/lang/invoke/VarHandle" ∧ (parseMethodDescriptor m_107.1.desc).map (fun d => d.parameters.length) = some 1) := ⟨q_wg (i := 768) (by decide +kernel) (by decide +kernel), w_9, by decide +kernel⟩
theorem s_108 : Cond.code m_108.1 m_108.2.1 m_108.2.2.1 m_108.2.2.2.1 ∈ q_gd ∧ Cond.initialized m_108.1.cls ∈ q_gd ∧ (m_108.1.cls ≠ "java/lang/invoke/MethodHandle" ∧ m_108.1.cls ≠ "java/lang/invoke/VarHandle" ∧ (parseMethodDescriptor m_108.1.desc).map (fun d => d.parameters.length) = some 1) := ⟨q_wg (i := 776) (by decide +kernel) (by decide +kernel), w_1, by decide +kernel⟩
theorem s_109 : Cond.code m_109.1 m_109.2.1 m_109.2.2.1 m_109.2.2.2.1 ∈ q_gd ∧ Cond.initialized m_109.1.cls ∈ q_gd ∧ (m_109.1.cls ≠ "java/lang/invoke/MethodHandle" ∧ m_109.1.cls ≠ "java/lang/invoke/VarHandle" ∧ (parseMethodDescriptor m_109.1.desc).map (fun d => d.parameters.length) = some 1) := ⟨q_wg (i := 780) (by decide +kernel) (by decide +kernel), w_10, by decide +kernel⟩
theorem s_110 : Cond.code m_110.1 m_110.2.1 m_110.2.2.1 m_110.2.2.2.1 ∈ q_gd ∧ Cond.initialized m_110.1.cls ∈ q_gd ∧ (m_110.1.cls ≠ "java/lang/invoke/MethodHandle" ∧ m_110.1.cls ≠ "java/lang/invoke/VarHandle" ∧ (parseMethodDescriptor m_110.1.desc).map (fun d => d.parameters.length) = some 1) := ⟨q_wg (i := 784) (by decide +kernel) (by decide +kernel), w_10, by decide +kernel⟩
theorem s_111 : Cond.code m_111.1 m_111.2.1 m_111.2.2.1 m_111.2.2.2.1 ∈ q_gd ∧ Cond.initialized m_111.1.cls ∈ q_gd ∧ (m_111.1.cls ≠ "java/lang/invoke/MethodHandle" ∧ m_111.1.cls ≠ "java/lang/invoke/VarHandle" ∧ (parseMethodDescriptor m_111.1.desc).map (fun d => d.parameters.length) = some 1) := ⟨q_wg (i := 1032) (by decide +kernel) (by decide +kernel), w_17, by decide +kernel⟩
theorem s_112 : Cond.code m_112.1 m_112.2.1 m_112.2.2.1 m_112.2.2.2.1 ∈ q_gd ∧ Cond.initialized m_112.1.cls ∈ q_gd ∧ (m_112.1.cls ≠ "java/lang/invoke/MethodHandle" ∧ m_112.1.cls ≠ "java/lang/invoke/VarHandle" ∧ (parseMethodDescriptor m_112.1.desc).map (fun d => d.parameters.length) = some 2) := ⟨q_wg (i := 1040) (by decide +kernel) (by decide +kernel), w_17, by decide +kernel⟩
theorem s_113 : Cond.code m_113.1 m_113.2.1 m_113.2.2.1 m_113.2.2.2.1 ∈ q_gd ∧ Cond.initialized m_113.1.cls ∈ q_gd ∧ (m_113.1.cls ≠ "java/lang/invoke/MethodHandle" ∧ m_113.1.cls ≠ "java/lang/invoke/VarHandle" ∧ (parseMethodDescriptor m_113.1.desc).map (fun d => d.parameters.length) = some 0) := ⟨q_wg (i := 1059) (by decide +kernel) (by decide +kernel), w_17, by decide +kernel⟩
theorem s_114 : Cond.code m_114.1 m_114.2.1 m_114.2.2.1 m_114.2.2.2.1 ∈ q_gd ∧ Cond.initialized m_114.1.cls ∈ q_gd ∧ (m_114.1.cls ≠ "java/lang/invoke/MethodHandle" ∧ m_114.1.cls ≠ "java/lang/invoke/VarHandle" ∧ (parseMethodDescriptor m_114.1.desc).map (fun d => d.parameters.length) = some 3) := ⟨q_wg (i := 1094) (by decide +kernel) (by decide +kernel), w_17, by decide +kernel⟩
theorem s_115 : Cond.code m_115.1 m_115.2.1 m_115.2.2.1 m_115.2.2.2.1 ∈ q_gd ∧ Cond.initialized m_115.1.cls ∈ q_gd ∧ (m_115.1.cls ≠ "java/lang/invoke/MethodHandle" ∧ m_115.1.cls ≠ "java/lang/invoke/VarHandle" ∧ (parseMethodDescriptor m_115.1.desc).map (fun d => d.parameters.length) = some 1) := ⟨q_wg (i := 1123) (by decide +kernel) (by decide +kernel), w_17, by decide +kernel⟩
theorem s_116 : Cond.code m_116.1 m_116.2.1 m_116.2.2.1 m_116.2.2.2.1 ∈ q_gd ∧ Cond.initialized m_116.1.cls ∈ q_gd ∧ (m_116.1.cls ≠ "java/lang/invoke/MethodHandle" ∧ m_116.1.cls ≠ "java/lang/invoke/VarHandle" ∧ (parseMethodDescriptor m_116.1.desc).map (fun d => d.parameters.length) = some 0) := ⟨q_wg (i := 1189) (by decide +kernel) (by decide +kernel), w_17, by decide +kernel⟩
theorem s_117 : Cond.code m_117.1 m_117.2.1 m_117.2.2.1 m_117.2.2.2.1 ∈ q_gd ∧ Cond.initialized m_117.1.cls ∈ q_gd ∧ (m_117.1.cls ≠ "java/lang/invoke/MethodHandle" ∧ m_117.1.cls ≠ "java/lang/invoke/VarHandle" ∧ (parseMethodDescriptor m_117.1.desc).map (fun d => d.parameters.length) = some 2) := ⟨q_wg (i := 1193) (by decide +kernel) (by decide +kernel), w_17, by decide +kernel⟩
theorem s_118 : Cond.code m_118.1 m_118.2.1 m_118.2.2.1 m_118.2.2.2.1 ∈ q_gd ∧ Cond.initialized m_118.1.cls ∈ q_gd ∧ (m_118.1.cls ≠ "java/lang/invoke/MethodHandle" ∧ m_118.1.cls ≠ "java/lang/invoke/VarHandle" ∧ (parseMethodDescriptor m_118.1.desc).map (fun d => d.parameters.length) = some 1) := ⟨q_wg (i := 1221) (by decide +kernel) (by decide +kernel), w_17, by decide +kernel⟩
theorem s_119 : Cond.code m_119.1 m_119.2.1 m_119.2.2.1 m_119.2.2.2.1 ∈ q_gd ∧ Cond.initialized m_119.1.cls ∈ q_gd ∧ (m_119.1.cls ≠ "java/lang/invoke/MethodHandle" ∧ m_119.1.cls ≠ "java/lang/invoke/VarHandle" ∧ (parseMethodDescriptor m_119.1.desc).map (fun d => d.parameters.length) = some 0) := ⟨q_wg (i := 22) (by decide +kernel) (by decide +kernel), w_1, by decide +kernel⟩
theorem s_120 : Cond.code m_120.1 m_120.2.1 m_120.2.2.1 m_120.2.2.2.1 ∈ q_gd ∧ Cond.initialized m_120.1.cls ∈ q_gd ∧ (m_120.1.cls ≠ "java/lang/invoke/MethodHandle" ∧ m_120.1.cls ≠ "java/lang/invoke/VarHandle" ∧ (parseMethodDescriptor m_120.1.desc).map (fun d => d.parameters.length) = some 1) := ⟨q_wg (i := 342) (by decide +kernel) (by decide +kernel), w_2, by decide +kernel⟩
theorem s_121 : Cond.code m_121.1 m_121.2.1 m_121.2.2.1 m_121.2.2.2.1 ∈ q_gd ∧ Cond.initialized m_121.1.cls ∈ q_gd ∧ (m_121.1.cls ≠ "java/lang/invoke/MethodHandle" ∧ m_121.1.cls ≠ "java/lang/invoke/VarHandle" ∧ (parseMethodDescriptor m_121.1.desc).map (fun d => d.parameters.length) = some 1) := ⟨q_wg (i := 440) (by decide +kernel) (by decide +kernel), w_1, by decide +kernel⟩
theorem s_122 : Cond.code m_122.1 m_122.2.1 m_122.2.2.1 m_122.2.2.2.1 ∈ q_gd ∧ Cond.initialized m_122.1.cls ∈ q_gd ∧ (m_122.1.cls ≠ "java/lang/invoke/MethodHandle" ∧ m_122.1.cls ≠ "java/lang/invoke/VarHandle" ∧ (parseMethodDescriptor m_122.1.desc).map (fun d => d.parameters.length) = some 0) := ⟨q_wg (i := 448) (by decide +kernel) (by decide +kernel), w_1, by decide +kernel⟩
theorem s_123 : Cond.code m_123.1 m_123.2.1 m_123.2.2.1 m_123.2.2.2.1 ∈ q_gd ∧ Cond.initialized m_123.1.cls ∈ q_gd ∧ (m_123.1.cls ≠ "java/lang/invoke/MethodHandle" ∧ m_123.1.cls ≠ "java/lang/invoke/VarHandle" ∧ (parseMethodDescriptor m_123.1.desc).map (fun d => d.parameters.length) = some 0) := ⟨q_wg (i := 452) (by decide +kernel) (by decide +kernel), w_1, by decide +kernel⟩
theorem s_124 : Cond.code m_124.1 m_124.2.1 m_124.2.2.1 m_124.2.2.2.1 ∈ q_gd ∧ Cond.initialized m_124.1.cls ∈ q_gd ∧ (m_124.1.cls ≠ "java/lang/invoke/MethodHandle" ∧ m_124.1.cls ≠ "java/lang/invoke/VarHandle" ∧ (parseMethodDescriptor m_124.1.desc).map (fun d => d.parameters.length) = some 0) := ⟨q_wg (i := 456) (by decide +kernel) (by decide +kernel), w_1, by decide +kernel⟩
theorem s_125 : Cond.code m_125.1 m_125.2.1 m_125.2.2.1 m_125.2.2.2.1 ∈ q_gd ∧ Cond.initialized m_125.1.cls ∈ q_gd ∧ (m_125.1.cls ≠ "java/lang/invoke/MethodHandle" ∧ m_125.1.cls ≠ "java/lang/invoke/VarHandle" ∧ (parseMethodDescriptor m_125.1.desc).map (fun d => d.parameters.length) = some 0) := ⟨q_wg (i := 464) (by decide +kernel) (by decide +kernel), w_5, by decide +kernel⟩
theorem s_126 : Cond.code m_126.1 m_126.2.1 m_126.2.2.1 m_126.2.2.2.1 ∈ q_gd ∧ Cond.initialized m_126.1.cls ∈ q_gd ∧ (m_126.1.cls ≠ "java/lang/invoke/MethodHandle" ∧ m_126.1.cls ≠ "java/lang/invoke/VarHandle" ∧ (parseMethodDescriptor m_126.1.desc).map (fun d => d.parameters.length) = some 2) := ⟨q_wg (i := 476) (by decide +kernel) (by decide +kernel), w_1, by decide +kernel⟩
theorem s_127 : Cond.code m_127.1 m_127.2.1 m_127.2.2.1 m_127.2.2.2.1 ∈ q_gd ∧ Cond.initialized m_127.1.cls ∈ q_gd ∧ (m_127.1.cls ≠ "java/lang/invoke/MethodHandle" ∧ m_127.1.cls ≠ "java/lang/invoke/VarHandle" ∧ (parseMethodDescriptor m_127.1.desc).map (fun d => d.parameters.length) = some 3) := ⟨q_wg (i := 493) (by decide +kernel) (by decide +kernel), w_1, by decide +kernel⟩
theorem s_128 : Cond.code m_128.1 m_128.2.1 m_128.2.2.1 m_128.2.2.2.1 ∈ q_gd ∧ Cond.initialized m_128.1.cls ∈ q_gd ∧ (m_128.1.cls ≠ "java/lang/invoke/MethodHandle" ∧ m_128.1.cls ≠ "java/lang/invoke/VarHandle" ∧ (parseMethodDescriptor m_128.1.desc).map (fun d => d.parameters.length) = some 3) := ⟨q_wg (i := 520) (by decide +kernel) (by decide +kernel), w_1, by decide +kernel⟩
theorem s_129 : Cond.code m_129.1 m_129.2.1 m_129.2.2.1 m_129.2.2.2.1 ∈ q_gd ∧ Cond.initialized m_129.1.cls ∈ q_gd ∧ (m_129.1.cls ≠ "java/lang/invoke/MethodHandle" ∧ m_129.1.cls ≠ "java/lang/invoke/VarHandle" ∧ (parseMethodDescriptor m_129.1.desc).map (fun d => d.parameters.length) = some 2) := ⟨q_wg (i := 526) (by decide +kernel) (by decide +kernel), w_1, by decide +kernel⟩
theorem s_130 : Cond.code m_130.1 m_130.2.1 m_130.2.2.1 m_130.2.2.2.1 ∈ q_gd ∧ Cond.initialized m_130.1.cls ∈ q_gd ∧ (m_130.1.cls ≠ "java/lang/invoke/MethodHandle" ∧ m_130.1.cls ≠ "java/lang/invoke/VarHandle" ∧ (parseMethodDescriptor m_130.1.desc).map (fun d => d.parameters.length) = some 2) := ⟨q_wg (i := 535) (by decide +kernel) (by decide +kernel), w_1, by decide +kernel⟩
theorem s_131 : Cond.code m_131.1 m_131.2.1 m_131.2.2.1 m_131.2.2.2.1 ∈ q_gd ∧ Cond.initialized m_131.1.cls ∈ q_gd ∧ (m_131.1.cls ≠ "java/lang/invoke/MethodHandle" ∧ m_131.1.cls ≠ "java/lang/invoke/VarHandle" ∧ (parseMethodDescriptor m_131.1.desc).map (fun d => d.parameters.length) = some 1) := ⟨q_wg (i := 543) (by decide +kernel) (by decide +kernel), w_1, by decide +kernel⟩
theorem s_132 : Cond.code m_132.1 m_132.2.1 m_132.2.2.1 m_132.2.2.2.1 ∈ q_gd ∧ Cond.initialized m_132.1.cls ∈ q_gd ∧ (m_132.1.cls ≠ "java/lang/invoke/MethodHandle" ∧ m_132.1.cls ≠ "java/lang/invoke/VarHandle" ∧ (parseMethodDescriptor m_132.1.desc).map (fun d => d.parameters.length) = some 1) := ⟨q_wg (i := 567) (by decide +kernel) (by decide +kernel), w_1, by decide +kernel⟩
theorem s_133 : Cond.code m_133.1 m_133.2.1 m_133.2.2.1 m_133.2.2.2.1 ∈ q_gd ∧ Cond.initialized m_133.1.cls ∈ q_gd ∧ (m_133.1.cls ≠ "java/lang/invoke/MethodHandle" ∧ m_133.1.cls ≠ "java/lang/invoke/VarHandle" ∧ (parseMethodDescriptor m_133.1.desc).map (fun d => d.parameters.length) = some 2) := ⟨q_wg (i := 576) (by decide +kernel) (by decide +kernel), w_1, by decide +kernel⟩
theorem s_134 : Cond.code m_134.1 m_134.2.1 m_134.2.2.1 m_134.2.2.2.1 ∈ q_gd ∧ Cond.initialized m_134.1.cls ∈ q_gd ∧ (m_134.1.cls ≠ "java/lang/invoke/MethodHandle" ∧ m_134.1.cls ≠ "java/lang/invoke/VarHandle" ∧ (parseMethodDescriptor m_134.1.desc).map (fun d => d.parameters.length) = some 3) := ⟨q_wg (i := 587) (by decide +kernel) (by decide +kernel), w_1, by decide +kernel⟩
theorem s_135 : Cond.code m_135.1 m_135.2.1 m_135.2.2.1 m_135.2.2.2.1 ∈ q_gd ∧ Cond.initialized m_135.1.cls ∈ q_gd ∧ (m_135.1.cls ≠ "java/lang/invoke/MethodHandle" ∧ m_135.1.cls ≠ "java/lang/invoke/VarHandle" ∧ (parseMethodDescriptor m_135.1.desc).map (fun d => d.parameters.length) = some 3) := ⟨q_wg (i := 591) (by decide +kernel) (by decide +kernel), w_4, by decide +kernel⟩
theorem s_136 : Cond.code m_136.1 m_136.2.1 m_136.2.2.1 m_136.2.2.2.1 ∈ q_gd ∧ Cond.initialized m_136.1.cls ∈ q_gd ∧ (m_136.1.cls ≠ "java/lang/invoke/MethodHandle" ∧ m_136.1.cls ≠ "java/lang/invoke/VarHandle" ∧ (parseMethodDescriptor m_136.1.desc).map (fun d => d.parameters.length) = some 3) := ⟨q_wg (i := 595) (by decide +kernel) (by decide +kernel), w_1, by decide +kernel⟩
theorem s_137 : Cond.code m_137.1 m_137.2.1 m_137.2.2.1 m_137.2.2.2.1 ∈ q_gd ∧ Cond.initialized m_137.1.cls ∈ q_gd ∧ (m_137.1.cls ≠ "java/lang/invoke/MethodHandle" ∧ m_137.1.cls ≠ "java/lang/invoke/VarHandle" ∧ (parseMethodDescriptor m_137.1.desc).map (fun d => d.parameters.length) = some 2) := ⟨q_wg (i := 600) (by decide +kernel) (by decide +kernel), w_1, by decide +kernel⟩
theorem s_138 : Cond.code m_138.1 m_138.2.1 m_138.2.2.1 m_138.2.2.2.1 ∈ q_gd ∧ Cond.initialized m_138.1.cls ∈ q_gd ∧ (m_138.1.cls ≠ "java/lang/invoke/MethodHandle" ∧ m_138.1.cls ≠ "java/lang/invoke/VarHandle" ∧ (parseMethodDescriptor m_138.1.desc).map (fun d => d.parameters.length) = some 0) := ⟨q_wg (i := 606) (by decide +kernel) (by decide +kernel), w_1, by decide +kernel⟩
theorem s_139 : Cond.code m_139.1 m_139.2.1 m_139.2.2.1 m_139.2.2.2.1 ∈ q_gd ∧ Cond.initialized m_139.1.cls ∈ q_gd ∧ (m_139.1.cls ≠ "java/lang/invoke/MethodHandle" ∧ m_139.1.cls ≠ "java/lang/invoke/VarHandle" ∧ (parseMethodDescriptor m_139.1.desc).map (fun d => d.parameters.length) = some 1) := ⟨q_wg (i := 610) (by decide +kernel) (by decide +kernel), w_5, by decide +kernel⟩
theorem s_140 : Cond.code m_140.1 m_140.2.1 m_140.2.2.1 m_140.2.2.2.1 ∈ q_gd ∧ Cond.initialized m_140.1.cls ∈ q_gd ∧ (m_140.1.cls ≠ "java/lang/invoke/MethodHandle" ∧ m_140.1.cls ≠ "java/lang/invoke/VarHandle" ∧ (parseMethodDescriptor m_140.1.desc).map (fun d => d.parameters.length) = some 4) := ⟨q_wg (i := 614) (by decide +kernel) (by decide +kernel), w_1, by decide +kernel⟩
theorem s_141 : Cond.code m_141.1 m_141.2.1 m_141.2.2.1 m_141.2.2.2.1 ∈ q_gd ∧ Cond.initialized m_141.1.cls ∈ q_gd ∧ (m_141.1.cls ≠ "java/lang/invoke/MethodHandle" ∧ m_141.1.cls ≠ "java/lang/invoke/VarHandle" ∧ (parseMethodDescriptor m_141.1.desc).map (fun d => d.parameters.length) = some 3) := ⟨q_wg (i := 645) (by decide +kernel) (by decide +kernel), w_8, by decide +kernel⟩
theorem s_142 : Cond.code m_142.1 m_142.2.1 m_142.2.2.1 m_142.2.2.2.1 ∈ q_gd ∧ Cond.initialized m_142.1.cls ∈ q_gd ∧ (m_142.1.cls ≠ "java/lang/invoke/MethodHandle" ∧ m_142.1.cls ≠ "java/lang/invoke/VarHandle" ∧ (parseMethodDescriptor m_142.1.desc).map (fun d => d.parameters.length) = some 3) := ⟨q_wg (i := 657) (by decide +kernel) (by decide +kernel), w_7, by decide +kernel⟩
theorem s_143 : Cond.code m_143.1 m_143.2.1 m_143.2.2.1 m_143.2.2.2.1 ∈ q_gd ∧ Cond.initialized m_143.1.cls ∈ q_gd ∧ (m_143.1.cls ≠ "java/lang/invoke/MethodHandle" ∧ m_143.1.cls ≠ "java/lang/invoke/VarHandle" ∧ (parseMethodDescriptor m_143.1.desc).map (fun d => d.parameters.length) = some 1) := ⟨q_wg (i := 670) (by decide +kernel) (by decide +kernel), w_8, by decide +kernel⟩
theorem s_144 : Cond.code m_144.1 m_144.2.1 m_144.2.2.1 m_144.2.2.2.1 ∈ q_gd ∧ Cond.initialized m_144.1.cls ∈ q_gd ∧ (m_144.1.cls ≠ "java/lang/invoke/MethodHandle" ∧ m_144.1.cls ≠ "java/lang/invoke/VarHandle" ∧ (parseMethodDescriptor m_144.1.desc).map (fun d => d.parameters.length) = some 2) := ⟨q_wg (i := 678) (by decide +kernel) (by decide +kernel), w_8, by decide +kernel⟩
theorem s_145 : Cond.code m_145.1 m_145.2.1 m_145.2.2.1 m_145.2.2.2.1 ∈ q_gd ∧ Cond.initialized m_145.1.cls ∈ q_gd ∧ (m_145.1.cls ≠ "java/lang/invoke/MethodHandle" ∧ m_145.1.cls ≠ "java/lang/invoke/VarHandle" ∧ (parseMethodDescriptor m_145.1.desc).map (fun d => d.parameters.length) = some 1) := ⟨q_wg (i := 681) (by decide +kernel) (by decide +kernel), w_8, by decide +kernel⟩
theorem s_146 : Cond.code m_146.1 m_146.2.1 m_146.2.2.1 m_146.2.2.2.1 ∈ q_gd ∧ Cond.initialized m_146.1.cls ∈ q_gd ∧ (m_146.1.cls ≠ "java/lang/invoke/MethodHandle" ∧ m_146.1.cls ≠ "java/lang/invoke/VarHandle" ∧ (parseMethodDescriptor m_146.1.desc).map (fun d => d.parameters.length) = some 1) := ⟨q_wg (i := 684) (by decide +kernel) (by decide +kernel), w_8, by decide +kernel⟩
theorem s_147 : Cond.code m_147.1 m_147.2.1 m_147.2.2.1 m_147.2.2.2.1 ∈ q_gd ∧ Cond.initialized m_147.1.cls ∈ q_gd ∧ (m_147.1.cls ≠ "java/lang/invoke/MethodHandle" ∧ m_147.1.cls ≠ "java/lang/invoke/VarHandle" ∧ (parseMethodDescriptor m_147.1.desc).map (fun d => d.parameters.length) = some 1) := ⟨q_wg (i := 691) (by decide +kernel) (by decide +kernel), w_8, by decide +kernel⟩
theorem s_148 : Cond.code m_148.1 m_148.2.1 m_148.2.2.1 m_148.2.2.2.1 ∈ q_gd ∧ Cond.initialized m_148.1.cls ∈ q_gd ∧ (m_148.1.cls ≠ "java/lang/invoke/MethodHandle" ∧ m_148.1.cls ≠ "java/lang/invoke/VarHandle" ∧ (parseMethodDescriptor m_148.1.desc).map (fun d => d.parameters.length) = some 3) := ⟨q_wg (i := 697) (by decide +kernel) (by decide +kernel), w_9, by decide +kernel⟩
theorem s_149 : Cond.code m_149.1 m_149.2.1 m_149.2.2.1 m_149.2.2.2.1 ∈ q_gd ∧ Cond.initialized m_149.1.cls ∈ q_gd ∧ (m_149.1.cls ≠ "java/lang/invoke/MethodHandle" ∧ m_149.1.cls ≠ "java/lang/invoke/VarHandle" ∧ (parseMethodDescriptor m_149.1.desc).map (fun d => d.parameters.length) = some 1) := ⟨q_wg (i := 702) (by decide +kernel) (by decide +kernel), w_9, by decide +kernel⟩
theorem s_150 : Cond.code m_150.1 m_150.2.1 m_150.2.2.1 m_150.2.2.2.1 ∈ q_gd ∧ Cond.initialized m_150.1.cls ∈ q_gd ∧ (m_150.1.cls ≠ "java/lang/invoke/MethodHandle" ∧ m_150.1.cls ≠ "java/lang/invoke/VarHandle" ∧ (parseMethodDescriptor m_150.1.desc).map (fun d => d.parameters.length) = some 3) := ⟨q_wg (i := 711) (by decide +kernel) (by decide +kernel), w_8, by decide +kernel⟩
theorem s_151 : Cond.code m_151.1 m_151.2.1 m_151.2.2.1 m_151.2.2.2.1 ∈ q_gd ∧ Cond.initialized m_151.1.cls ∈ q_gd ∧ (m_151.1.cls ≠ "java/lang/invoke/MethodHandle" ∧ m_151.1.cls ≠ "java/lang/invoke/VarHandle" ∧ (parseMethodDescriptor m_151.1.desc).map (fun d => d.parameters.length) = some 3) := ⟨q_wg (i := 714) (by decide +kernel) (by decide +kernel), w_8, by decide +kernel⟩
theorem s_152 : Cond.code m_152.1 m_152.2.1 m_152.2.2.1 m_152.2.2.2.1 ∈ q_gd ∧ Cond.initialized m_152.1.cls ∈ q_gd ∧ (m_152.1.cls ≠ "java/lang/invoke/MethodHandle" ∧ m_152.1.cls ≠ "java/lang/invoke/VarHandle" ∧ (parseMethodDescriptor m_152.1.desc).map (fun d => d.parameters.length) = some 1) := ⟨q_wg (i := 724) (by decide +kernel) (by decide +kernel), w_9, by decide +kernel⟩
theorem s_153 : Cond.code m_153.1 m_153.2.1 m_153.2.2.1 m_153.2.2.2.1 ∈ q_gd ∧ Cond.initialized m_153.1.cls ∈ q_gd ∧ (m_153.1.cls ≠ "java/lang/invoke/MethodHandle" ∧ m_153.1.cls ≠ "java/lang/invoke/VarHandle" ∧ (parseMethodDescriptor m_153.1.desc).map (fun d => d.parameters.length) = some 2) := ⟨q_wg (i := 728) (by decide +kernel) (by decide +kernel), w_1, by decide +kernel⟩
theorem s_154 : Cond.code m_154.1 m_154.2.1 m_154.2.2.1 m_154.2.2.2.1 ∈ q_gd ∧ Cond.initialized m_154.1.cls ∈ q_gd ∧ (m_154.1.cls ≠ "java/lang/invoke/MethodHandle" ∧ m_154.1.cls ≠ "java/lang/invoke/VarHandle" ∧ (parseMethodDescriptor m_154.1.desc).map (fun d => d.parameters.length) = some 3) := ⟨q_wg (i := 732) (by decide +kernel) (by decide +kernel), w_7, by decide +kernel⟩
theorem s_155 : Cond.code m_155.1 m_155.2.1 m_155.2.2.1 m_155.2.2.2.1 ∈ q_gd ∧ Cond.initialized m_155.1.cls ∈ q_gd ∧ (m_155.1.cls ≠ "java/lang/invoke/MethodHandle" ∧ m_155.1.cls ≠ "java/lang/invoke/VarHandle" ∧ (parseMethodDescriptor m_155.1.desc).map (fun d => d.parameters.length) = some 2) := ⟨q_wg (i := 738) (by decide +kernel) (by decide +kernel), w_1, by decide +kernel⟩
theorem s_156 : Cond.code m_156.1 m_156.2.1 m_156.2.2.1 m_156.2.2.2.1 ∈ q_gd ∧ Cond.initialized m_156.1.cls ∈ q_gd ∧ (m_156.1.cls ≠ "java/lang/invoke/MethodHandle" ∧ m_156.1.cls ≠ "java/lang/invoke/VarHandle" ∧ (parseMethodDescriptor m_156.1.desc).map (fun d => d.parameters.length) = some 2) := ⟨q_wg (i := 747) (by decide +kernel) (by decide +kernel), w_1, by decide +kernel⟩
theorem s_157 : Cond.code m_157.1 m_157.2.1 m_157.2.2.1 m_157.2.2.2.1 ∈ q_gd ∧ Cond.initialized m_157.1.cls ∈ q_gd ∧ (m_157.1.cls ≠ "java/lang/invoke/MethodHandle" ∧ m_157.1.cls ≠ "java/lang/invoke/VarHandle" ∧ (parseMethodDescriptor m_157.1.desc).map (fun d => d.parameters.length) = some 1) := ⟨q_wg (i := 751) (by decide +kernel) (by decide +kernel), w_4, by decide +kernel⟩
theorem s_158 : Cond.code m_158.1 m_158.2.1 m_158.2.2.1 m_158.2.2.2.1 ∈ q_gd ∧ Cond.initialized m_158.1.cls ∈ q_gd ∧ (m_158.1.cls ≠ "java/lang/invoke/MethodHandle" ∧ m_158.1.cls ≠ "java/lang/invoke/VarHandle" ∧ (parseMethodDescriptor m_158.1.desc).map (fun d => d.parameters.length) = some 3) := ⟨q_wg (i := 764) (by decide +kernel) (by decide +kernel), w_1, by decide +kernel⟩
theorem s_159 : Cond.code m_159.1 m_159.2.1 m_159.2.2.1 m_159.2.2.2.1 ∈ q_gd ∧ Cond.initialized m_159.1.cls ∈ q_gd ∧ (m_159.1.cls ≠ "java/lang/invoke/MethodHandle" ∧ m_159.1.cls ≠ "java/lang/invoke/VarHandle" ∧ (parseMethodDescriptor m_159.1.desc).map (fun d => d.parameters.length) = some 1) := ⟨q_wg (i := 772) (by decide +kernel) (by decide +kernel), w_1, by decide +kernel⟩
theorem s_160 : Cond.code m_160.1 m_160.2.1 m_160.2.2.1 m_160.2.2.2.1 ∈ q_gd ∧ Cond.initialized m_160.1.cls ∈ q_gd ∧ (m_160.1.cls ≠ "java/lang/invoke/MethodHandle" ∧ m_160.1.cls ≠ "java/lang/invoke/VarHandle" ∧ (parseMethodDescriptor m_160.1.desc).map (fun d => d.parameters.length) = some 3) := ⟨q_wg (i := 841) (by decide +kernel) (by decide +kernel), w_1, by decide +kernel⟩
theorem s_161 : Cond.code m_161.1 m_161.2.1 m_161.2.2.1 m_161.2.2.2.1 ∈ q_gd ∧ Cond.initialized m_161.1.cls ∈ q_gd ∧ (m_161.1.cls ≠ "java/lang/invoke/MethodHandle" ∧ m_161.1.cls ≠ "java/lang/invoke/VarHandle" ∧ (parseMethodDescriptor m_161.1.desc).map (fun d => d.parameters.length) = some 2) := ⟨q_wg (i := 846) (by decide +kernel) (by decide +kernel), w_10, by decide +kernel⟩
theorem s_162 : Cond.code m_162.1 m_162.2.1 m_162.2.2.1 m_162.2.2.2.1 ∈ q_gd ∧ Cond.initialized m_162.1.cls ∈ q_gd ∧ (m_162.1.cls ≠ "java/lang/invoke/MethodHandle" ∧ m_162.1.cls ≠ "java/lang/invoke/VarHandle" ∧ (parseMethodDescriptor m_162.1.desc).map (fun d => d.parameters.length) = some 3) := ⟨q_wg (i := 850) (by decide +kernel) (by decide +kernel), w_1, by decide +kernel⟩
theorem s_163 : Cond.code m_163.1 m_163.2.1 m_163.2.2.1 m_163.2.2.2.1 ∈ q_gd ∧ Cond.initialized m_163.1.cls ∈ q_gd ∧ (m_163.1.cls ≠ "java/lang/invoke/MethodHandle" ∧ m_163.1.cls ≠ "java/lang/invoke/VarHandle" ∧ (parseMethodDescriptor m_163.1.desc).map (fun d => d.parameters.length) = some 4) := ⟨q_wg (i := 854) (by decide +kernel) (by decide +kernel), w_1, by decide +kernel⟩
theorem s_164 : Cond.code m_164.1 m_164.2.1 m_164.2.2.1 m_164.2.2.2.1 ∈ q_gd ∧ Cond.initialized m_164.1.cls ∈ q_gd ∧ (m_164.1.cls ≠ "java/lang/invoke/MethodHandle" ∧ m_164.1.cls ≠ "java/lang/invoke/VarHandle" ∧ (parseMethodDescriptor m_164.1.desc).map (fun d => d.parameters.length) = some 2) := ⟨q_wg (i := 858) (by decide +kernel) (by decide +kernel), w_10, by decide +kernel⟩
theorem s_165 : Cond.code m_165.1 m_165.2.1 m_165.2.2.1 m_165.2.2.2.1 ∈ q_gd ∧ Cond.initialized m_165.1.cls ∈ q_gd ∧ (m_165.1.cls ≠ "java/lang/invoke/MethodHandle" ∧ m_165.1.cls ≠ "java/lang/invoke/VarHandle" ∧ (parseMethodDescriptor m_165.1.desc).map (fun d => d.parameters.length) = some 3) := ⟨q_wg (i := 862) (by decide +kernel) (by decide +kernel), w_1, by decide +kernel⟩
theorem s_166 : Cond.code m_166.1 m_166.2.1 m_166.2.2.1 m_166.2.2.2.1 ∈ q_gd ∧ Cond.initialized m_166.1.cls ∈ q_gd ∧ (m_166.1.cls ≠ "java/lang/invoke/MethodHandle" ∧ m_166.1.cls ≠ "java/lang/invoke/VarHandle" ∧ (parseMethodDescriptor m_166.1.desc).map (fun d => d.parameters.length) = some 0) := ⟨q_wg (i := 866) (by decide +kernel) (by decide +kernel), w_1, by decide +kernel⟩
theorem s_167 : Cond.code m_167.1 m_167.2.1 m_167.2.2.1 m_167.2.2.2.1 ∈ q_gd ∧ Cond.initialized m_167.1.cls ∈ q_gd ∧ (m_167.1.cls ≠ "java/lang/invoke/MethodHandle" ∧ m_167.1.cls ≠ "java/lang/invoke/VarHandle" ∧ (parseMethodDescriptor m_167.1.desc).map (fun d => d.parameters.length) = some 0) := ⟨q_wg (i := 870) (by decide +kernel) (by decide +kernel), w_1, by decide +kernel⟩
theorem s_168 : Cond.code m_168.1 m_168.2.1 m_168.2.2.1 m_168.2.2.2.1 ∈ q_gd ∧ Cond.initialized m_168.1.cls ∈ q_gd ∧ (m_168.1.cls ≠ "java/lang/invoke/MethodHandle" ∧ m_168.1.cls ≠ "java/lang/invoke/VarHandle" ∧ (parseMethodDescriptor m_168.1.desc).map (fun d => d.parameters.length) = some 1) := ⟨q_wg (i := 874) (by decide +kernel) (by decide +kernel), w_1, by decide +kernel⟩
theorem s_169 : Cond.code m_169.1 m_169.2.1 m_169.2.2.1 m_169.2.2.2.1 ∈ q_gd ∧ Cond.initialized m_169.1.cls ∈ q_gd ∧ (m_169.1.cls ≠ "java/lang/invoke/MethodHandle" ∧ m_169.1.cls ≠ "java/lang/invoke/VarHandle" ∧ (parseMethodDescriptor m_169.1.desc).map (fun d => d.parameters.length) = some 1) := ⟨q_wg (i := 878) (by decide +kernel) (by decide +kernel), w_4, by decide +kernel⟩
theorem s_170 : Cond.code m_170.1 m_170.2.1 m_170.2.2.1 m_170.2.2.2.1 ∈ q_gd ∧ Cond.initialized m_170.1.cls ∈ q_gd ∧ (m_170.1.cls ≠ "java/lang/invoke/MethodHandle" ∧ m_170.1.cls ≠ "java/lang/invoke/VarHandle" ∧ (parseMethodDescriptor m_170.1.desc).map (fun d => d.parameters.length) = some 0) := ⟨q_wg (i := 883) (by decide +kernel) (by decide +kernel), w_17, by decide +kernel⟩
theorem s_171 : Cond.code m_171.1 m_171.2.1 m_171.2.2.1 m_171.2.2.2.1 ∈ q_gd ∧ Cond.initialized m_171.1.cls ∈ q_gd ∧ (m_171.1.cls ≠ "java/lang/invoke/MethodHandle" ∧ m_171.1.cls ≠ "java/lang/invoke/VarHandle" ∧ (parseMethodDescriptor m_171.1.desc).map (fun d => d.parameters.length) = some 1) := ⟨q_wg (i := 1007) (by decide +kernel) (by decide +kernel), w_17, by decide +kernel⟩
theorem s_172 : Cond.code m_172.1 m_172.2.1 m_172.2.2.1 m_172.2.2.2.1 ∈ q_gd ∧ Cond.initialized m_172.1.cls ∈ q_gd ∧ (m_172.1.cls ≠ "java/lang/invoke/MethodHandle" ∧ m_172.1.cls ≠ "java/lang/invoke/VarHandle" ∧ (parseMethodDescriptor m_172.1.desc).map (fun d => d.parameters.length) = some 0) := ⟨q_wg (i := 1016) (by decide +kernel) (by decide +kernel), w_17, by decide +kernel⟩
theorem s_173 : Cond.code m_173.1 m_173.2.1 m_173.2.2.1 m_173.2.2.2.1 ∈ q_gd ∧ Cond.initialized m_173.1.cls ∈ q_gd ∧ (m_173.1.cls ≠ "java/lang/invoke/MethodHandle" ∧ m_173.1.cls ≠ "java/lang/invoke/VarHandle" ∧ (parseMethodDescriptor m_173.1.desc).map (fun d => d.parameters.length) = some 0) := ⟨q_wg (i := 1020) (by decide +kernel) (by decide +kernel), w_17, by decide +kernel⟩
theorem s_174 : Cond.code m_174.1 m_174.2.1 m_174.2.2.1 m_174.2.2.2.1 ∈ q_gd ∧ Cond.initialized m_174.1.cls ∈ q_gd ∧ (m_174.1.cls ≠ "java/lang/invoke/MethodHandle" ∧ m_174.1.cls ≠ "java/lang/invoke/VarHandle" ∧ (parseMethodDescriptor m_174.1.desc).map (fun d => d.parameters.length) = some 0) := ⟨q_wg (i := 1028) (by decide +kernel) (by decide +kernel), w_17, by decide +kernel⟩
theorem s_175 : Cond.code m_175.1 m_175.2.1 m_175.2.2.1 m_175.2.2.2.1 ∈ q_gd ∧ Cond.initialized m_175.1.cls ∈ q_gd ∧ (m_175.1.cls ≠ "java/lang/invoke/MethodHandle" ∧ m_175.1.cls ≠ "java/lang/invoke/VarHandle" ∧ (parseMethodDescriptor m_175.1.desc).map (fun d => d.parameters.length) = some 0) := ⟨q_wg (i := 1036) (by decide +kernel) (by decide +kernel), w_17, by decide +kernel⟩
theorem s_176 : Cond.code m_176.1 m_176.2.1 m_176.2.2.1 m_176.2.2.2.1 ∈ q_gd ∧ Cond.initialized m_176.1.cls ∈ q_gd ∧ (m_176.1.cls ≠ "java/lang/invoke/MethodHandle" ∧ m_176.1.cls ≠ "java/lang/invoke/VarHandle" ∧ (parseMethodDescriptor m_176.1.desc).map (fun d => d.parameters.length) = some 0) := ⟨q_wg (i := 1047) (by decide +kernel) (by decide +kernel), w_17, by decide +kernel⟩
theorem s_177 : Cond.code m_177.1 m_177.2.1 m_177.2.2.1 m_177.2.2.2.1 ∈ q_gd ∧ Cond.initialized m_177.1.cls ∈ q_gd ∧ (m_177.1.cls ≠ "java/lang/invoke/MethodHandle" ∧ m_177.1.cls ≠ "java/lang/invoke/VarHandle" ∧ (parseMethodDescriptor m_177.1.desc).map (fun d => d.parameters.length) = some 0) := ⟨q_wg (i := 1051) (by decide +kernel) (by decide +kernel), w_17, by decide +kernel⟩
theorem s_178 : Cond.code m_178.1 m_178.2.1 m_178.2.2.1 m_178.2.2.2.1 ∈ q_gd ∧ Cond.initialized m_178.1.cls ∈ q_gd ∧ (m_178.1.cls ≠ "java/lang/invoke/MethodHandle" ∧ m_178.1.cls ≠ "java/lang/invoke/VarHandle" ∧ (parseMethodDescriptor m_178.1.desc).map (fun d => d.parameters.length) = some 0) := ⟨q_wg (i := 1055) (by decide +kernel) (by decide +kernel), w_17, by decide +kernel⟩
theorem s_179 : Cond.code m_179.1 m_179.2.1 m_179.2.2.1 m_179.2.2.2.1 ∈ q_gd ∧ Cond.initialized m_179.1.cls ∈ q_gd ∧ (m_179.1.cls ≠ "java/lang/invoke/MethodHandle" ∧ m_179.1.cls ≠ "java/lang/invoke/VarHandle" ∧ (parseMethodDescriptor m_179.1.desc).map (fun d => d.parameters.length) = some 0) := ⟨q_wg (i := 1063) (by decide +kernel) (by decide +kernel), w_17, by decide +kernel⟩
theorem s_180 : Cond.code m_180.1 m_180.2.1 m_180.2.2.1 m_180.2.2.2.1 ∈ q_gd ∧ Cond.initialized m_180.1.cls ∈ q_gd ∧ (m_180.1.cls ≠ "java/lang/invoke/MethodHandle" ∧ m_180.1.cls ≠ "java/lang/invoke/VarHandle" ∧ (parseMethodDescriptor m_180.1.desc).map (fun d => d.parameters.length) = some 2) := ⟨q_wg (i := 1067) (by decide +kernel) (by decide +kernel), w_17, by decide +kernel⟩
theorem s_181 : Cond.code m_181.1 m_181.2.1 m_181.2.2.1 m_181.2.2.2.1 ∈ q_gd ∧ Cond.initialized m_181.1.cls ∈ q_gd ∧ (m_181.1.cls ≠ "java/lang/invoke/MethodHandle" ∧ m_181.1.cls ≠ "java/lang/invoke/VarHandle" ∧ (parseMethodDescriptor m_181.1.desc).map (fun d => d.parameters.length) = some 3) := ⟨q_wg (i := 1075) (by decide +kernel) (by decide +kernel), w_17, by decide +kernel⟩
theorem s_182 : Cond.code m_182.1 m_182.2.1 m_182.2.2.1 m_182.2.2.2.1 ∈ q_gd ∧ Cond.initialized m_182.1.cls ∈ q_gd ∧ (m_182.1.cls ≠ "java/lang/invoke/MethodHandle" ∧ m_182.1.cls ≠ "java/lang/invoke/VarHandle" ∧ (parseMethodDescriptor m_182.1.desc).map (fun d => d.parameters.length) = some 2) := ⟨q_wg (i := 1099) (by decide +kernel) (by decide +kernel), w_17, by decide +kernel⟩
theorem s_183 : Cond.code m_183.1 m_183.2.1 m_183.2.2.1 m_183.2.2.2.1 ∈ q_gd ∧ Cond.initialized m_183.1.cls ∈ q_gd ∧ (m_183.1.cls ≠ "java/lang/invoke/MethodHandle" ∧ m_183.1.cls ≠ "java/lang/invoke/VarHandle" ∧ (parseMethodDescriptor m_183.1.desc).map (fun d => d.parameters.length) = some 2) := ⟨q_wg (i := 1111) (by decide +kernel) (by decide +kernel), w_17, by decide +kernel⟩
theorem s_184 : Cond.code m_184.1 m_184.2.1 m_184.2.2.1 m_184.2.2.2.1 ∈ q_gd ∧ Cond.initialized m_184.1.cls ∈ q_gd ∧ (m_184.1.cls ≠ "java/lang/invoke/MethodHandle" ∧ m_184.1.cls ≠ "java/lang/invoke/VarHandle" ∧ (parseMethodDescriptor m_184.1.desc).map (fun d => d.parameters.length) = some 1) := ⟨q_wg (i := 1115) (by decide +kernel) (by decide +kernel), w_17, by decide +kernel⟩
theorem s_185 : Cond.code m_185.1 m_185.2.1 m_185.2.2.1 m_185.2.2.2.1 ∈ q_gd ∧ Cond.initialized m_185.1.cls ∈ q_gd ∧ (m_185.1.cls ≠ "java/lang/invoke/MethodHandle" ∧ m_185.1.cls ≠ "java/lang/invoke/VarHandle" ∧ (parseMethodDescriptor m_185.1.desc).map (fun d => d.parameters.length) = some 1) := ⟨q_wg (i := 1127) (by decide +kernel) (by decide +kernel), w_17, by decide +kernel⟩
theorem s_186 : Cond.code m_186.1 m_186.2.1 m_186.2.2.1 m_186.2.2.2.1 ∈ q_gd ∧ Cond.initialized m_186.1.cls ∈ q_gd ∧ (m_186.1.cls ≠ "java/lang/invoke/MethodHandle" ∧ m_186.1.cls ≠ "java/lang/invoke/VarHandle" ∧ (parseMethodDescriptor m_186.1.desc).map (fun d => d.parameters.length) = some 2) := ⟨q_wg (i := 1135) (by decide +kernel) (by decide +kernel), w_17, by decide +kernel⟩
theorem s_187 : Cond.code m_187.1 m_187.2.1 m_187.2.2.1 m_187.2.2.2.1 ∈ q_gd ∧ Cond.initialized m_187.1.cls ∈ q_gd ∧ (m_187.1.cls ≠ "java/lang/invoke/MethodHandle" ∧ m_187.1.cls ≠ "java/lang/invoke/VarHandle" ∧ (parseMethodDescriptor m_187.1.desc).map (fun d => d.parameters.length) = some 3) := ⟨q_wg (i := 1139) (by decide +kernel) (by decide +kernel), w_17, by decide +kernel⟩
theorem s_188 : Cond.code m_188.1 m_188.2.1 m_188.2.2.1 m_188.2.2.2.1 ∈ q_gd ∧ Cond.initialized m_188.1.cls ∈ q_gd ∧ (m_188.1.cls ≠ "java/lang/invoke/MethodHandle" ∧ m_188.1.cls ≠ "java/lang/invoke/VarHandle" ∧ (parseMethodDescriptor m_188.1.desc).map (fun d => d.parameters.length) = some 3) := ⟨q_wg (i := 1143) (by decide +kernel) (by decide +kernel), w_17, by decide +kernel⟩
theorem s_189 : Cond.code m_189.1 m_189.2.1 m_189.2.2.1 m_189.2.2.2.1 ∈ q_gd ∧ Cond.initialized m_189.1.cls ∈ q_gd ∧ (m_189.1.cls ≠ "java/lang/invoke/MethodHandle" ∧ m_189.1.cls ≠ "java/lang/invoke/VarHandle" ∧ (parseMethodDescriptor m_189.1.desc).map (fun d => d.parameters.length) = some 2) := ⟨q_wg (i := 1148) (by decide +kernel) (by decide +kernel), w_17, by decide +kernel⟩
theorem s_190 : Cond.code m_190.1 m_190.2.1 m_190.2.2.1 m_190.2.2.2.1 ∈ q_gd ∧ Cond.initialized m_190.1.cls ∈ q_gd ∧ (m_190.1.cls ≠ "java/lang/invoke/MethodHandle" ∧ m_190.1.cls ≠ "java/lang/invoke/VarHandle" ∧ (parseMethodDescriptor m_190.1.desc).map (fun d => d.parameters.length) = some 0) := ⟨q_wg (i := 1153) (by decide +kernel) (by decide +kernel), w_17, by decide +kernel⟩
theorem s_191 : Cond.code m_191.1 m_191.2.1 m_191.2.2.1 m_191.2.2.2.1 ∈ q_gd ∧ Cond.initialized m_191.1.cls ∈ q_gd ∧ (m_191.1.cls ≠ "java/lang/invoke/MethodHandle" ∧ m_191.1.cls ≠ "java/lang/invoke/VarHandle" ∧ (parseMethodDescriptor m_191.1.desc).map (fun d => d.parameters.length) = some 4) := ⟨q_wg (i := 1157) (by decide +kernel) (by decide +kernel), w_17, by decide +kernel⟩
theorem s_192 : Cond.code m_192.1 m_192.2.1 m_192.2.2.1 m_192.2.2.2.1 ∈ q_gd ∧ Cond.initialized m_192.1.cls ∈ q_gd ∧ (m_192.1.cls ≠ "java/lang/invoke/MethodHandle" ∧ m_192.1.cls ≠ "java/lang/invoke/VarHandle" ∧ (parseMethodDescriptor m_192.1.desc).map (fun d => d.parameters.length) = some 2) := ⟨q_wg (i := 1181) (by decide +kernel) (by decide +kernel), w_17, by decide +kernel⟩
theorem s_193 : Cond.code m_193.1 m_193.2.1 m_193.2.2.1 m_193.2.2.2.1 ∈ q_gd ∧ Cond.initialized m_193.1.cls ∈ q_gd ∧ (m_193.1.cls ≠ "java/lang/invoke/MethodHandle" ∧ m_193.1.cls ≠ "java/lang/invoke/VarHandle" ∧ (parseMethodDescriptor m_193.1.desc).map (fun d => d.parameters.length) = some 2) := ⟨q_wg (i := 1185) (by decide +kernel) (by decide +kernel), w_17, by decide +kernel⟩
theorem s_194 : Cond.code m_194.1 m_194.2.1 m_194.2.2.1 m_194.2.2.2.1 ∈ q_gd ∧ Cond.initialized m_194.1.cls ∈ q_gd ∧ (m_194.1.cls ≠ "java/lang/invoke/MethodHandle" ∧ m_194.1.cls ≠ "java/lang/invoke/VarHandle" ∧ (parseMethodDescriptor m_194.1.desc).map (fun d => d.parameters.length) = some 1) := ⟨q_wg (i := 1197) (by decide +kernel) (by decide +kernel), w_17, by decide +kernel⟩
theorem s_195 : Cond.code m_195.1 m_195.2.1 m_195.2.2.1 m_195.2.2.2.1 ∈ q_gd ∧ Cond.initialized m_195.1.cls ∈ q_gd ∧ (m_195.1.cls ≠ "java/lang/invoke/MethodHandle" ∧ m_195.1.cls ≠ "java/lang/invoke/VarHandle" ∧ (parseMethodDescriptor m_195.1.desc).map (fun d => d.parameters.length) = some 0) := ⟨q_wg (i := 1201) (by decide +kernel) (by decide +kernel), w_17, by decide +kernel⟩
theorem s_196 : Cond.code m_196.1 m_196.2.1 m_196.2.2.1 m_196.2.2.2.1 ∈ q_gd ∧ Cond.initialized m_196.1.cls ∈ q_gd ∧ (m_196.1.cls ≠ "java/lang/invoke/MethodHandle" ∧ m_196.1.cls ≠ "java/lang/invoke/VarHandle" ∧ (parseMethodDescriptor m_196.1.desc).map (fun d => d.parameters.length) = some 2) := ⟨q_wg (i := 1205) (by decide +kernel) (by decide +kernel), w_17, by decide +kernel⟩
theorem s_197 : Cond.code m_197.1 m_197.2.1 m_197.2.2.1 m_197.2.2.2.1 ∈ q_gd ∧ Cond.initialized m_197.1.cls ∈ q_gd ∧ (m_197.1.cls ≠ "java/lang/invoke/MethodHandle" ∧ m_197.1.cls ≠ "java/lang/invoke/VarHandle" ∧ (parseMethodDescriptor m_197.1.desc).map (fun d => d.parameters.length) = some 2) := ⟨q_wg (i := 1209) (by decide +kernel) (by decide +kernel), w_17, by decide +kernel⟩
theorem s_198 : Cond.code m_198.1 m_198.2.1 m_198.2.2.1 m_198.2.2.2.1 ∈ q_gd ∧ Cond.initialized m_198.1.cls ∈ q_gd ∧ (m_198.1.cls ≠ "java/lang/invoke/MethodHandle" ∧ m_198.1.cls ≠ "java/lang/invoke/VarHandle" ∧ (parseMethodDescriptor m_198.1.desc).map (fun d => d.parameters.length) = some 3) := ⟨q_wg (i := 1213) (by decide +kernel) (by decide +kernel), w_17, by decide +kernel⟩
theorem s_199 : Cond.code m_199.1 m_199.2.1 m_199.2.2.1 m_199.2.2.2.1 ∈ q_gd ∧ Cond.initialized m_199.1.cls ∈ q_gd ∧ (m_199.1.cls ≠ "java/lang/invoke/MethodHandle" ∧ m_199.1.cls ≠ "java/lang/invoke/VarHandle" ∧ (parseMethodDescriptor m_199.1.desc).map (fun d => d.parameters.length) = some 1) := ⟨q_wg (i := 1217) (by decide +kernel) (by decide +kernel), w_17, by decide +kernel⟩
theorem s_200 : Cond.code m_200.1 m_200.2.1 m_200.2.2.1 m_200.2.2.2.1 ∈ q_gd ∧ Cond.initialized m_200.1.cls ∈ q_gd ∧ (m_200.1.cls ≠ "java/lang/invoke/MethodHandle" ∧ m_200.1.cls ≠ "java/lang/invoke/VarHandle" ∧ (parseMethodDescriptor m_200.1.desc).map (fun d => d.parameters.length) = some 3) := ⟨q_wg (i := 1240) (by decide +kernel) (by decide +kernel), w_17, by decide +kernel⟩
theorem s_201 : Cond.code m_201.1 m_201.2.1 m_201.2.2.1 m_201.2.2.2.1 ∈ q_gd ∧ Cond.initialized m_201.1.cls ∈ q_gd ∧ (m_201.1.cls ≠ "java/lang/invoke/MethodHandle" ∧ m_201.1.cls ≠ "java/lang/invoke/VarHandle" ∧ (parseMethodDescriptor m_201.1.desc).map (fun d => d.parameters.length) = some 1) := ⟨q_wg (i := 1245) (by decide +kernel) (by decide +kernel), w_17, by decide +kernel⟩
theorem s_202 : Cond.code m_202.1 m_202.2.1 m_202.2.2.1 m_202.2.2.2.1 ∈ q_gd ∧ Cond.initialized m_202.1.cls ∈ q_gd ∧ (m_202.1.cls ≠ "java/lang/invoke/MethodHandle" ∧ m_202.1.cls ≠ "java/lang/invoke/VarHandle" ∧ (parseMethodDescriptor m_202.1.desc).map (fun d => d.parameters.length) = some 3) := ⟨q_wg (i := 1249) (by decide +kernel) (by decide +kernel), w_17, by decide +kernel⟩
theorem s_203 : Cond.code m_203.1 m_203.2.1 m_203.2.2.1 m_203.2.2.2.1 ∈ q_gd ∧ Cond.initialized m_203.1.cls ∈ q_gd ∧ (m_203.1.cls ≠ "java/lang/invoke/MethodHandle" ∧ m_203.1.cls ≠ "java/lang/invoke/VarHandle" ∧ (parseMethodDescriptor m_203.1.desc).map (fun d => d.parameters.length) = some 3) := ⟨q_wg (i := 1253) (by decide +kernel) (by decide +kernel), w_17, by decide +kernel⟩
theorem s_204 : Cond.code m_204.1 m_204.2.1 m_204.2.2.1 m_204.2.2.2.1 ∈ q_gd ∧ Cond.initialized m_204.1.cls ∈ q_gd ∧ (m_204.1.cls ≠ "java/lang/invoke/MethodHandle" ∧ m_204.1.cls ≠ "java/lang/invoke/VarHandle" ∧ (parseMethodDescriptor m_204.1.desc).map (fun d => d.parameters.length) = some 2) := ⟨q_wg (i := 1257) (by decide +kernel) (by decide +kernel), w_17, by decide +kernel⟩
theorem s_205 : Cond.code m_205.1 m_205.2.1 m_205.2.2.1 m_205.2.2.2.1 ∈ q_gd ∧ Cond.initialized m_205.1.cls ∈ q_gd ∧ (m_205.1.cls ≠ "java/lang/invoke/MethodHandle" ∧ m_205.1.cls ≠ "java/lang/invoke/VarHandle" ∧ (parseMethodDescriptor m_205.1.desc).map (fun d => d.parameters.length) = some 3) := ⟨q_wg (i := 1261) (by decide +kernel) (by decide +kernel), w_17, by decide +kernel⟩
theorem s_206 : Cond.code m_206.1 m_206.2.1 m_206.2.2.1 m_206.2.2.2.1 ∈ q_gd ∧ Cond.initialized m_206.1.cls ∈ q_gd ∧ (m_206.1.cls ≠ "java/lang/invoke/MethodHandle" ∧ m_206.1.cls ≠ "java/lang/invoke/VarHandle" ∧ (parseMethodDescriptor m_206.1.desc).map (fun d => d.parameters.length) = some 4) := ⟨q_wg (i := 1265) (by decide +kernel) (by decide +kernel), w_17, by decide +kernel⟩
theorem s_207 : Cond.code m_207.1 m_207.2.1 m_207.2.2.1 m_207.2.2.2.1 ∈ q_gd ∧ Cond.initialized m_207.1.cls ∈ q_gd ∧ (m_207.1.cls ≠ "java/lang/invoke/MethodHandle" ∧ m_207.1.cls ≠ "java/lang/invoke/VarHandle" ∧ (parseMethodDescriptor m_207.1.desc).map (fun d => d.parameters.length) = some 2) := ⟨q_wg (i := 1269) (by decide +kernel) (by decide +kernel), w_17, by decide +kernel⟩
theorem s_208 : Cond.code m_208.1 m_208.2.1 m_208.2.2.1 m_208.2.2.2.1 ∈ q_gd ∧ Cond.initialized m_208.1.cls ∈ q_gd ∧ (m_208.1.cls ≠ "java/lang/invoke/MethodHandle" ∧ m_208.1.cls ≠ "java/lang/invoke/VarHandle" ∧ (parseMethodDescriptor m_208.1.desc).map (fun d => d.parameters.length) = some 3) := ⟨q_wg (i := 1273) (by decide +kernel) (by decide +kernel), w_17, by decide +kernel⟩
theorem s_209 : Cond.code m_209.1 m_209.2.1 m_209.2.2.1 m_209.2.2.2.1 ∈ q_gd ∧ Cond.initialized m_209.1.cls ∈ q_gd ∧ (m_209.1.cls ≠ "java/lang/invoke/MethodHandle" ∧ m_209.1.cls ≠ "java/lang/invoke/VarHandle" ∧ (parseMethodDescriptor m_209.1.desc).map (fun d => d.parameters.length) = some 0) := ⟨q_wg (i := 1277) (by decide +kernel) (by decide +kernel), w_17, by decide +kernel⟩
theorem s_210 : Cond.code m_210.1 m_210.2.1 m_210.2.2.1 m_210.2.2.2.1 ∈ q_gd ∧ Cond.initialized m_210.1.cls ∈ q_gd ∧ (m_210.1.cls ≠ "java/lang/invoke/MethodHandle" ∧ m_210.1.cls ≠ "java/lang/invoke/VarHandle" ∧ (parseMethodDescriptor m_210.1.desc).map (fun d => d.parameters.length) = some 0) := ⟨q_wg (i := 1281) (by decide +kernel) (by decide +kernel), w_17, by decide +kernel⟩
theorem s_211 : Cond.code m_211.1 m_211.2.1 m_211.2.2.1 m_211.2.2.2.1 ∈ q_gd ∧ Cond.initialized m_211.1.cls ∈ q_gd ∧ (m_211.1.cls ≠ "java/lang/invoke/MethodHandle" ∧ m_211.1.cls ≠ "java/lang/invoke/VarHandle" ∧ (parseMethodDescriptor m_211.1.desc).map (fun d => d.parameters.length) = some 1) := ⟨q_wg (i := 1285) (by decide +kernel) (by decide +kernel), w_17, by decide +kernel⟩
theorem s_212 : Cond.code m_212.1 m_212.2.1 m_212.2.2.1 m_212.2.2.2.1 ∈ q_gd ∧ Cond.initialized m_212.1.cls ∈ q_gd ∧ (m_212.1.cls ≠ "java/lang/invoke/MethodHandle" ∧ m_212.1.cls ≠ "java/lang/invoke/VarHandle" ∧ (parseMethodDescriptor m_212.1.desc).map (fun d => d.parameters.length) = some 1) := ⟨q_wg (i := 1289) (by decide +kernel) (by decide +kernel), w_17, by decide +kernel⟩
theorem s_213 : Cond.code m_213.1 m_213.2.1 m_213.2.2.1 m_213.2.2.2.1 ∈ q_gd ∧ Cond.initialized m_213.1.cls ∈ q_gd ∧ (m_213.1.cls ≠ "java/lang/invoke/MethodHandle" ∧ m_213.1.cls ≠ "java/lang/invoke/VarHandle" ∧ (parseMethodDescriptor m_213.1.desc).map (fun d => d.parameters.length) = some 2) := ⟨q_wg (i := 247) (by decide +kernel) (by decide +kernel), w_11, by decide +kernel⟩
theorem s_214 : Cond.code m_214.1 m_214.2.1 m_214.2.2.1 m_214.2.2.2.1 ∈ q_gd ∧ Cond.initialized m_214.1.cls ∈ q_gd ∧ (m_214.1.cls ≠ "java/lang/invoke/MethodHandle" ∧ m_214.1.cls ≠ "java/lang/invoke/VarHandle" ∧ (parseMethodDescriptor m_214.1.desc).map (fun d => d.parameters.length) = some 3) := ⟨q_wg (i := 252) (by decide +kernel) (by decide +kernel), w_13, by decide +kernel⟩
theorem s_215 : Cond.code m_215.1 m_215.2.1 m_215.2.2.1 m_215.2.2.2.1 ∈ q_gd ∧ Cond.initialized m_215.1.cls ∈ q_gd ∧ (m_215.1.cls ≠ "java/lang/invoke/MethodHandle" ∧ m_215.1.cls ≠ "java/lang/invoke/VarHandle" ∧ (parseMethodDescriptor m_215.1.desc).map (fun d => d.parameters.length) = some 0) := ⟨q_wg (i := 227) (by decide +kernel) (by decide +kernel), w_11, by decide +kernel⟩
theorem s_216 : Cond.code m_216.1 m_216.2.1 m_216.2.2.1 m_216.2.2.2.1 ∈ q_gd ∧ Cond.initialized m_216.1.cls ∈ q_gd ∧ (m_216.1.cls ≠ "java/lang/invoke/MethodHandle" ∧ m_216.1.cls ≠ "java/lang/invoke/VarHandle" ∧ (parseMethodDescriptor m_216.1.desc).map (fun d => d.parameters.length) = some 1) := ⟨q_wg (i := 237) (by decide +kernel) (by decide +kernel), w_11, by decide +kernel⟩
theorem s_217 : Cond.code m_217.1 m_217.2.1 m_217.2.2.1 m_217.2.2.2.1 ∈ q_gd ∧ Cond.initialized m_217.1.cls ∈ q_gd ∧ (m_217.1.cls ≠ "java/lang/invoke/MethodHandle" ∧ m_217.1.cls ≠ "java/lang/invoke/VarHandle" ∧ (parseMethodDescriptor m_217.1.desc).map (fun d => d.parameters.length) = some 0) := ⟨q_wg (i := 231) (by decide +kernel) (by decide +kernel), w_11, by decide +kernel⟩
theorem s_218 : Cond.code m_218.1 m_218.2.1 m_218.2.2.1 m_218.2.2.2.1 ∈ q_gd ∧ Cond.initialized m_218.1.cls ∈ q_gd ∧ (m_218.1.cls ≠ "java/lang/invoke/MethodHandle" ∧ m_218.1.cls ≠ "java/lang/invoke/VarHandle" ∧ (parseMethodDescriptor m_218.1.desc).map (fun d => d.parameters.length) = some 0) := ⟨q_wg (i := 241) (by decide +kernel) (by decide +kernel), w_11, by decide +kernel⟩
theorem s_219 : Cond.code m_219.1 m_219.2.1 m_219.2.2.1 m_219.2.2.2.1 ∈ q_gd ∧ Cond.initialized m_219.1.cls ∈ q_gd ∧ (m_219.1.cls ≠ "java/lang/invoke/MethodHandle" ∧ m_219.1.cls ≠ "java/lang/invoke/VarHandle" ∧ (parseMethodDescriptor m_219.1.desc).map (fun d => d.parameters.length) = some 2) := ⟨q_wg (i := 244) (by decide +kernel) (by decide +kernel), w_12, by decide +kernel⟩
theorem f_TreePassesModel_103 (M : q_M) (h : M.1.cls = "TreePassesModel") : q_fl M 103 9 8 := by
  unfold q_fl
  rw [h]
  exact ⟨(RX9, TX9, 33), rfl, by decide, Or.inl w_912⟩
theorem f_TreePassesModel_13 (M : q_M) (h : M.1.cls = "TreePassesModel") : q_fl M 13 9 2 := by
  unfold q_fl
  rw [h]
  exact ⟨(RX9, TX9, 33), rfl, by decide, Or.inl w_906⟩
theorem f_TreePassesModel_140 (M : q_M) (h : M.1.cls = "TreePassesModel") : q_fl M 140 9 5 := by
  unfold q_fl
  rw [h]
  exact ⟨(RX9, TX9, 33), rfl, by decide, Or.inl w_909⟩
theorem f_TreePassesModel_143 (M : q_M) (h : M.1.cls = "TreePassesModel") : q_fl M 143 9 7 := by
  unfold q_fl
  rw [h]
  exact ⟨(RX9, TX9, 33), rfl, by decide, Or.inl w_911⟩
theorem f_TreePassesModel_152 (M : q_M) (h : M.1.cls = "TreePassesModel") : q_fl M 152 9 10 := by
  unfold q_fl
  rw [h]
  exact ⟨(RX9, TX9, 33), rfl, by decide, Or.inl w_914⟩
theorem f_TreePassesModel_16 (M : q_M) (h : M.1.cls = "TreePassesModel") : q_fl M 16 9 3 := by
  unfold q_fl
  rw [h]
  exact ⟨(RX9, TX9, 33), rfl, by decide, Or.inl w_907⟩
theorem f_TreePassesModel_19 (M : q_M) (h : M.1.cls = "TreePassesModel") : q_fl M 19 9 4 := by
  unfold q_fl
  rw [h]
  exact ⟨(RX9, TX9, 33), rfl, by decide, Or.inl w_908⟩
theorem f_TreePassesModel_192 (M : q_M) (h : M.1.cls = "TreePassesModel") : q_fl M 192 9 18 := by
  unfold q_fl
  rw [h]
  exact ⟨(RX9, TX9, 33), rfl, by decide, Or.inl w_922⟩
theorem f_TreePassesModel_195 (M : q_M) (h : M.1.cls = "TreePassesModel") : q_fl M 195 9 14 := by
  unfold q_fl
  rw [h]
  exact ⟨(RX9, TX9, 33), rfl, by decide, Or.inl w_918⟩
theorem f_TreePassesModel_209 (M : q_M) (h : M.1.cls = "TreePassesModel") : q_fl M 209 9 21 := by
  unfold q_fl
  rw [h]
  exact ⟨(RX9, TX9, 33), rfl, by decide, Or.inl w_925⟩
theorem f_TreePassesModel_218 (M : q_M) (h : M.1.cls = "TreePassesModel") : q_fl M 218 9 24 := by
  unfold q_fl
  rw [h]
  exact ⟨(RX9, TX9, 33), rfl, by decide, Or.inl w_928⟩
theorem f_TreePassesModel_22 (M : q_M) (h : M.1.cls = "TreePassesModel") : q_fl M 22 9 6 := by
  unfold q_fl
  rw [h]
  exact ⟨(RX9, TX9, 33), rfl, by decide, Or.inl w_910⟩
theorem f_TreePassesModel_221 (M : q_M) (h : M.1.cls = "TreePassesModel") : q_fl M 221 9 25 := by
  unfold q_fl
  rw [h]
  exact ⟨(RX9, TX9, 33), rfl, by decide, Or.inl w_929⟩
theorem f_TreePassesModel_224 (M : q_M) (h : M.1.cls = "TreePassesModel") : q_fl M 224 9 26 := by
  unfold q_fl
  rw [h]
  exact ⟨(RX9, TX9, 33), rfl, by decide, Or.inl w_930⟩
theorem f_TreePassesModel_248 (M : q_M) (h : M.1.cls = "TreePassesModel") : q_fl M 248 9 27 := by
  unfold q_fl
  rw [h]
  exact ⟨(RX9, TX9, 33), rfl, by decide, Or.inl w_931⟩
theorem f_TreePassesModel_25 (M : q_M) (h : M.1.cls = "TreePassesModel") : q_fl M 25 9 9 := by
  unfold q_fl
  rw [h]
  exact ⟨(RX9, TX9, 33), rfl, by decide, Or.inl w_913⟩
theorem f_TreePassesModel_28 (M : q_M) (h : M.1.cls = "TreePassesModel") : q_fl M 28 9 11 := by
  unfold q_fl
  rw [h]
  exact ⟨(RX9, TX9, 33), rfl, by decide, Or.inl w_915⟩
theorem f_TreePassesModel_31 (M : q_M) (h : M.1.cls = "TreePassesModel") : q_fl M 31 9 12 := by
  unfold q_fl
  rw [h]
  exact ⟨(RX9, TX9, 33), rfl, by decide, Or.inl w_916⟩
theorem f_TreePassesModel_34 (M : q_M) (h : M.1.cls = "TreePassesModel") : q_fl M 34 9 13 := by
  unfold q_fl
  rw [h]
  exact ⟨(RX9, TX9, 33), rfl, by decide, Or.inl w_917⟩
theorem f_TreePassesModel_37 (M : q_M) (h : M.1.cls = "TreePassesModel") : q_fl M 37 9 15 := by
  unfold q_fl
  rw [h]
  exact ⟨(RX9, TX9, 33), rfl, by decide, Or.inl w_919⟩
theorem f_TreePassesModel_40 (M : q_M) (h : M.1.cls = "TreePassesModel") : q_fl M 40 9 16 := by
  unfold q_fl
  rw [h]
  exact ⟨(RX9, TX9, 33), rfl, by decide, Or.inl w_920⟩
theorem f_TreePassesModel_43 (M : q_M) (h : M.1.cls = "TreePassesModel") : q_fl M 43 9 17 := by
  unfold q_fl
  rw [h]
  exact ⟨(RX9, TX9, 33), rfl, by decide, Or.inl w_921⟩
theorem f_TreePassesModel_46 (M : q_M) (h : M.1.cls = "TreePassesModel") : q_fl M 46 9 19 := by
  unfold q_fl
  rw [h]
  exact ⟨(RX9, TX9, 33), rfl, by decide, Or.inl w_923⟩
theorem f_TreePassesModel_49 (M : q_M) (h : M.1.cls = "TreePassesModel") : q_fl M 49 9 20 := by
  unfold q_fl
  rw [h]
  exact ⟨(RX9, TX9, 33), rfl, by decide, Or.inl w_924⟩
theorem f_TreePassesModel_52 (M : q_M) (h : M.1.cls = "TreePassesModel") : q_fl M 52 9 22 := by
  unfold q_fl
  rw [h]
  exact ⟨(RX9, TX9, 33), rfl, by decide, Or.inl w_926⟩
theorem f_TreePassesModel_55 (M : q_M) (h : M.1.cls = "TreePassesModel") : q_fl M 55 9 23 := by
  unfold q_fl
  rw [h]
  exact ⟨(RX9, TX9, 33), rfl, by decide, Or.inl w_927⟩
theorem f_TreePassesModel_58 (M : q_M) (h : M.1.cls = "TreePassesModel") : q_fl M 58 9 28 := by
  unfold q_fl
  rw [h]
  exact ⟨(RX9, TX9, 33), rfl, by decide, Or.inl w_932⟩
theorem f_TreePassesModel_62 (M : q_M) (h : M.1.cls = "TreePassesModel") : q_fl M 62 9 29 := by
  unfold q_fl
  rw [h]
  exact ⟨(RX9, TX9, 33), rfl, by decide, Or.inl w_933⟩
theorem f_TreePassesModel_65 (M : q_M) (h : M.1.cls = "TreePassesModel") : q_fl M 65 9 30 := by
  unfold q_fl
  rw [h]
  exact ⟨(RX9, TX9, 33), rfl, by decide, Or.inl w_934⟩
theorem f_TreePassesModel_68 (M : q_M) (h : M.1.cls = "TreePassesModel") : q_fl M 68 9 31 := by
  unfold q_fl
  rw [h]
  exact ⟨(RX9, TX9, 33), rfl, by decide, Or.inl w_935⟩
theorem f_TreePassesModel_7 (M : q_M) (h : M.1.cls = "TreePassesModel") : q_fl M 7 9 1 := by
  unfold q_fl
  rw [h]
  exact ⟨(RX9, TX9, 33), rfl, by decide, Or.inl w_905⟩
theorem f_TreePassesModel_71 (M : q_M) (h : M.1.cls = "TreePassesModel") : q_fl M 71 9 32 := by
  unfold q_fl
  rw [h]
  exact ⟨(RX9, TX9, 33), rfl, by decide, Or.inl w_936⟩
theorem f_TreePassesModel_99 (M : q_M) (h : M.1.cls = "TreePassesModel") : q_fl M 99 9 0 := by
  unfold q_fl
  rw [h]
  exact ⟨(RX9, TX9, 33), rfl, by decide, Or.inl w_904⟩
theorem f_TreePasses_100 (M : q_M) (h : M.1.cls = "TreePasses") : q_fl M 100 2 6 := by
  unfold q_fl
  rw [h]
  exact ⟨(RX2, TX2, 7), rfl, by decide, Or.inr ⟨_, w_66⟩⟩
theorem f_TreePasses_12 (M : q_M) (h : M.1.cls = "TreePasses") : q_fl M 12 8 0 := by
  unfold q_fl
  rw [h]
  exact ⟨(RX8, TX8, 12), rfl, by decide, Or.inl w_399⟩
theorem f_TreePasses_19 (M : q_M) (h : M.1.cls = "TreePasses") : q_fl M 19 8 1 := by
  unfold q_fl
  rw [h]
  exact ⟨(RX8, TX8, 12), rfl, by decide, Or.inl w_400⟩
theorem f_TreePasses_195 (M : q_M) (h : M.1.cls = "TreePasses") : q_fl M 195 4 2 := by
  unfold q_fl
  rw [h]
  exact ⟨(RX4, TX4, 3), rfl, by decide, Or.inr ⟨_, w_96⟩⟩
theorem f_TreePasses_208 (M : q_M) (h : M.1.cls = "TreePasses") : q_fl M 208 7 0 := by
  unfold q_fl
  rw [h]
  exact ⟨(RX7, TX7, 7), rfl, by decide, Or.inr ⟨_, w_145⟩⟩
theorem f_TreePasses_211 (M : q_M) (h : M.1.cls = "TreePasses") : q_fl M 211 7 5 := by
  unfold q_fl
  rw [h]
  exact ⟨(RX7, TX7, 7), rfl, by decide, Or.inr ⟨_, w_151⟩⟩
theorem f_TreePasses_23 (M : q_M) (h : M.1.cls = "TreePasses") : q_fl M 23 8 2 := by
  unfold q_fl
  rw [h]
  exact ⟨(RX8, TX8, 12), rfl, by decide, Or.inl w_401⟩
theorem f_TreePasses_235 (M : q_M) (h : M.1.cls = "TreePasses") : q_fl M 235 0 13 := by
  unfold q_fl
  rw [h]
  exact ⟨(RX0, TX0, 15), rfl, by decide, Or.inr ⟨_, w_188⟩⟩
theorem f_TreePasses_31 (M : q_M) (h : M.1.cls = "TreePasses") : q_fl M 31 8 3 := by
  unfold q_fl
  rw [h]
  exact ⟨(RX8, TX8, 12), rfl, by decide, Or.inl w_402⟩
theorem f_TreePasses_35 (M : q_M) (h : M.1.cls = "TreePasses") : q_fl M 35 8 4 := by
  unfold q_fl
  rw [h]
  exact ⟨(RX8, TX8, 12), rfl, by decide, Or.inl w_403⟩
theorem f_TreePasses_41 (M : q_M) (h : M.1.cls = "TreePasses") : q_fl M 41 8 5 := by
  unfold q_fl
  rw [h]
  exact ⟨(RX8, TX8, 12), rfl, by decide, Or.inl w_404⟩
theorem f_TreePasses_45 (M : q_M) (h : M.1.cls = "TreePasses") : q_fl M 45 8 6 := by
  unfold q_fl
  rw [h]
  exact ⟨(RX8, TX8, 12), rfl, by decide, Or.inl w_405⟩
theorem f_TreePasses_51 (M : q_M) (h : M.1.cls = "TreePasses") : q_fl M 51 8 7 := by
  unfold q_fl
  rw [h]
  exact ⟨(RX8, TX8, 12), rfl, by decide, Or.inl w_406⟩
theorem f_TreePasses_58 (M : q_M) (h : M.1.cls = "TreePasses") : q_fl M 58 8 8 := by
  unfold q_fl
  rw [h]
  exact ⟨(RX8, TX8, 12), rfl, by decide, Or.inl w_407⟩
theorem f_TreePasses_65 (M : q_M) (h : M.1.cls = "TreePasses") : q_fl M 65 8 9 := by
  unfold q_fl
  rw [h]
  exact ⟨(RX8, TX8, 12), rfl, by decide, Or.inl w_408⟩
theorem f_TreePasses_69 (M : q_M) (h : M.1.cls = "TreePasses") : q_fl M 69 8 10 := by
  unfold q_fl
  rw [h]
  exact ⟨(RX8, TX8, 12), rfl, by decide, Or.inl w_409⟩
theorem f_TreePasses_72 (M : q_M) (h : M.1.cls = "TreePasses") : q_fl M 72 8 11 := by
  unfold q_fl
  rw [h]
  exact ⟨(RX8, TX8, 12), rfl, by decide, Or.inl w_410⟩
theorem f_TreePasses_Census_15 (M : q_M) (h : M.1.cls = "TreePasses$Census") : q_fl M 15 0 2 := by
  unfold q_fl
  rw [h]
  exact ⟨(RX0, TX0, 15), rfl, by decide, Or.inl w_176⟩
theorem f_TreePasses_Census_18 (M : q_M) (h : M.1.cls = "TreePasses$Census") : q_fl M 18 0 3 := by
  unfold q_fl
  rw [h]
  exact ⟨(RX0, TX0, 15), rfl, by decide, Or.inl w_177⟩
theorem f_TreePasses_Census_21 (M : q_M) (h : M.1.cls = "TreePasses$Census") : q_fl M 21 0 4 := by
  unfold q_fl
  rw [h]
  exact ⟨(RX0, TX0, 15), rfl, by decide, Or.inl w_178⟩
theorem f_TreePasses_Census_24 (M : q_M) (h : M.1.cls = "TreePasses$Census") : q_fl M 24 0 5 := by
  unfold q_fl
  rw [h]
  exact ⟨(RX0, TX0, 15), rfl, by decide, Or.inl w_179⟩
theorem f_TreePasses_Census_27 (M : q_M) (h : M.1.cls = "TreePasses$Census") : q_fl M 27 0 6 := by
  unfold q_fl
  rw [h]
  exact ⟨(RX0, TX0, 15), rfl, by decide, Or.inl w_180⟩
theorem f_TreePasses_Census_31 (M : q_M) (h : M.1.cls = "TreePasses$Census") : q_fl M 31 0 7 := by
  unfold q_fl
  rw [h]
  exact ⟨(RX0, TX0, 15), rfl, by decide, Or.inl w_181⟩
theorem f_TreePasses_Census_34 (M : q_M) (h : M.1.cls = "TreePasses$Census") : q_fl M 34 0 8 := by
  unfold q_fl
  rw [h]
  exact ⟨(RX0, TX0, 15), rfl, by decide, Or.inl w_182⟩
theorem f_TreePasses_Census_37 (M : q_M) (h : M.1.cls = "TreePasses$Census") : q_fl M 37 0 9 := by
  unfold q_fl
  rw [h]
  exact ⟨(RX0, TX0, 15), rfl, by decide, Or.inl w_183⟩
theorem f_TreePasses_Census_40 (M : q_M) (h : M.1.cls = "TreePasses$Census") : q_fl M 40 0 10 := by
  unfold q_fl
  rw [h]
  exact ⟨(RX0, TX0, 15), rfl, by decide, Or.inl w_184⟩
theorem f_TreePasses_Census_43 (M : q_M) (h : M.1.cls = "TreePasses$Census") : q_fl M 43 0 11 := by
  unfold q_fl
  rw [h]
  exact ⟨(RX0, TX0, 15), rfl, by decide, Or.inl w_185⟩
theorem f_TreePasses_Census_47 (M : q_M) (h : M.1.cls = "TreePasses$Census") : q_fl M 47 0 12 := by
  unfold q_fl
  rw [h]
  exact ⟨(RX0, TX0, 15), rfl, by decide, Or.inl w_186⟩
theorem f_TreePasses_Census_50 (M : q_M) (h : M.1.cls = "TreePasses$Census") : q_fl M 50 0 0 := by
  unfold q_fl
  rw [h]
  exact ⟨(RX0, TX0, 15), rfl, by decide, Or.inl w_174⟩
theorem f_TreePasses_Census_54 (M : q_M) (h : M.1.cls = "TreePasses$Census") : q_fl M 54 0 14 := by
  unfold q_fl
  rw [h]
  exact ⟨(RX0, TX0, 15), rfl, by decide, Or.inl w_189⟩
theorem f_TreePasses_Census_78 (M : q_M) (h : M.1.cls = "TreePasses$Census") : q_fl M 78 0 13 := by
  unfold q_fl
  rw [h]
  exact ⟨(RX0, TX0, 15), rfl, by decide, Or.inl w_187⟩
theorem f_TreePasses_Census_9 (M : q_M) (h : M.1.cls = "TreePasses$Census") : q_fl M 9 0 1 := by
  unfold q_fl
  rw [h]
  exact ⟨(RX0, TX0, 15), rfl, by decide, Or.inl w_175⟩
theorem f_TreePasses_Program_15 (M : q_M) (h : M.1.cls = "TreePasses$Program") : q_fl M 15 2 1 := by
  unfold q_fl
  rw [h]
  exact ⟨(RX2, TX2, 7), rfl, by decide, Or.inl w_60⟩
theorem f_TreePasses_Program_18 (M : q_M) (h : M.1.cls = "TreePasses$Program") : q_fl M 18 2 2 := by
  unfold q_fl
  rw [h]
  exact ⟨(RX2, TX2, 7), rfl, by decide, Or.inl w_61⟩
theorem f_TreePasses_Program_21 (M : q_M) (h : M.1.cls = "TreePasses$Program") : q_fl M 21 2 3 := by
  unfold q_fl
  rw [h]
  exact ⟨(RX2, TX2, 7), rfl, by decide, Or.inl w_62⟩
theorem f_TreePasses_Program_24 (M : q_M) (h : M.1.cls = "TreePasses$Program") : q_fl M 24 2 4 := by
  unfold q_fl
  rw [h]
  exact ⟨(RX2, TX2, 7), rfl, by decide, Or.inl w_63⟩
theorem f_TreePasses_Program_27 (M : q_M) (h : M.1.cls = "TreePasses$Program") : q_fl M 27 2 5 := by
  unfold q_fl
  rw [h]
  exact ⟨(RX2, TX2, 7), rfl, by decide, Or.inl w_64⟩
theorem f_TreePasses_Program_36 (M : q_M) (h : M.1.cls = "TreePasses$Program") : q_fl M 36 2 6 := by
  unfold q_fl
  rw [h]
  exact ⟨(RX2, TX2, 7), rfl, by decide, Or.inl w_65⟩
theorem f_TreePasses_Program_9 (M : q_M) (h : M.1.cls = "TreePasses$Program") : q_fl M 9 2 0 := by
  unfold q_fl
  rw [h]
  exact ⟨(RX2, TX2, 7), rfl, by decide, Or.inl w_59⟩
theorem f_TreePasses_Scroll_21 (M : q_M) (h : M.1.cls = "TreePasses$Scroll") : q_fl M 21 3 1 := by
  unfold q_fl
  rw [h]
  exact ⟨(RX3, TX3, 5), rfl, by decide, Or.inl w_36⟩
theorem f_TreePasses_Scroll_25 (M : q_M) (h : M.1.cls = "TreePasses$Scroll") : q_fl M 25 3 2 := by
  unfold q_fl
  rw [h]
  exact ⟨(RX3, TX3, 5), rfl, by decide, Or.inl w_37⟩
theorem f_TreePasses_Scroll_37 (M : q_M) (h : M.1.cls = "TreePasses$Scroll") : q_fl M 37 3 3 := by
  unfold q_fl
  rw [h]
  exact ⟨(RX3, TX3, 5), rfl, by decide, Or.inl w_38⟩
theorem f_TreePasses_Scroll_48 (M : q_M) (h : M.1.cls = "TreePasses$Scroll") : q_fl M 48 3 4 := by
  unfold q_fl
  rw [h]
  exact ⟨(RX3, TX3, 5), rfl, by decide, Or.inl w_39⟩
theorem f_TreePasses_Scroll_72 (M : q_M) (h : M.1.cls = "TreePasses$Scroll") : q_fl M 72 2 6 := by
  unfold q_fl
  rw [h]
  exact ⟨(RX2, TX2, 7), rfl, by decide, Or.inr ⟨_, w_67⟩⟩
theorem f_TreePasses_Scroll_9 (M : q_M) (h : M.1.cls = "TreePasses$Scroll") : q_fl M 9 3 0 := by
  unfold q_fl
  rw [h]
  exact ⟨(RX3, TX3, 5), rfl, by decide, Or.inl w_35⟩
theorem f_TreePasses_Shelf_15 (M : q_M) (h : M.1.cls = "TreePasses$Shelf") : q_fl M 15 4 0 := by
  unfold q_fl
  rw [h]
  exact ⟨(RX4, TX4, 3), rfl, by decide, Or.inl w_93⟩
theorem f_TreePasses_Shelf_22 (M : q_M) (h : M.1.cls = "TreePasses$Shelf") : q_fl M 22 4 2 := by
  unfold q_fl
  rw [h]
  exact ⟨(RX4, TX4, 3), rfl, by decide, Or.inl w_95⟩
theorem f_TreePasses_Shelf_30 (M : q_M) (h : M.1.cls = "TreePasses$Shelf") : q_fl M 30 4 1 := by
  unfold q_fl
  rw [h]
  exact ⟨(RX4, TX4, 3), rfl, by decide, Or.inl w_94⟩
theorem f_TreePasses_Standing_15 (M : q_M) (h : M.1.cls = "TreePasses$Standing") : q_fl M 15 5 1 := by
  unfold q_fl
  rw [h]
  exact ⟨(RX5, TX5, 4), rfl, by decide, Or.inl w_114⟩
theorem f_TreePasses_Standing_18 (M : q_M) (h : M.1.cls = "TreePasses$Standing") : q_fl M 18 5 2 := by
  unfold q_fl
  rw [h]
  exact ⟨(RX5, TX5, 4), rfl, by decide, Or.inl w_115⟩
theorem f_TreePasses_Standing_33 (M : q_M) (h : M.1.cls = "TreePasses$Standing") : q_fl M 33 5 3 := by
  unfold q_fl
  rw [h]
  exact ⟨(RX5, TX5, 4), rfl, by decide, Or.inl w_116⟩
theorem f_TreePasses_Standing_9 (M : q_M) (h : M.1.cls = "TreePasses$Standing") : q_fl M 9 5 0 := by
  unfold q_fl
  rw [h]
  exact ⟨(RX5, TX5, 4), rfl, by decide, Or.inl w_113⟩
theorem f_TreePasses_Unmade_12 (M : q_M) (h : M.1.cls = "TreePasses$Unmade") : q_fl M 12 6 0 := by
  unfold q_fl
  rw [h]
  exact ⟨(RX6, TX6, 1), rfl, by decide, Or.inl w_134⟩
theorem f_TreePasses_Walk_15 (M : q_M) (h : M.1.cls = "TreePasses$Walk") : q_fl M 15 7 1 := by
  unfold q_fl
  rw [h]
  exact ⟨(RX7, TX7, 7), rfl, by decide, Or.inl w_146⟩
theorem f_TreePasses_Walk_18 (M : q_M) (h : M.1.cls = "TreePasses$Walk") : q_fl M 18 7 2 := by
  unfold q_fl
  rw [h]
  exact ⟨(RX7, TX7, 7), rfl, by decide, Or.inl w_147⟩
theorem f_TreePasses_Walk_21 (M : q_M) (h : M.1.cls = "TreePasses$Walk") : q_fl M 21 7 3 := by
  unfold q_fl
  rw [h]
  exact ⟨(RX7, TX7, 7), rfl, by decide, Or.inl w_148⟩
theorem f_TreePasses_Walk_24 (M : q_M) (h : M.1.cls = "TreePasses$Walk") : q_fl M 24 7 4 := by
  unfold q_fl
  rw [h]
  exact ⟨(RX7, TX7, 7), rfl, by decide, Or.inl w_149⟩
theorem f_TreePasses_Walk_33 (M : q_M) (h : M.1.cls = "TreePasses$Walk") : q_fl M 33 7 5 := by
  unfold q_fl
  rw [h]
  exact ⟨(RX7, TX7, 7), rfl, by decide, Or.inl w_150⟩
theorem f_TreePasses_Walk_37 (M : q_M) (h : M.1.cls = "TreePasses$Walk") : q_fl M 37 7 6 := by
  unfold q_fl
  rw [h]
  exact ⟨(RX7, TX7, 7), rfl, by decide, Or.inl w_152⟩
theorem f_TreePasses_Walk_9 (M : q_M) (h : M.1.cls = "TreePasses$Walk") : q_fl M 9 7 0 := by
  unfold q_fl
  rw [h]
  exact ⟨(RX7, TX7, 7), rfl, by decide, Or.inl w_144⟩
end
section
section
variable {E : q_E} {tg : Nat → Nat} {mt : Nat → q_M} {M M' : q_M} {pc pc' : Nat}
noncomputable def o_fail : q_Op := fun _ _ _ _ _ _ _ _ _ _ => false
theorem o_fail_ok : q_OK E tg mt M pc pc' o_fail := fun _ _ _ _ _ _ _ _ _ _ _ _ _ _ _ _ e => by cases e
def f_iadd (a b : Nat) : Nat := (a + b) % 4294967296
def f_isub (a b : Nat) : Nat := (a + (4294967296 - b % 4294967296)) % 4294967296
def f_imul (a b : Nat) : Nat := (a * b) % 4294967296
def f_iand (a b : Nat) : Nat := a &&& b
def f_ior (a b : Nat) : Nat := a ||| b
def f_land (a b : Nat) : Nat := a &&& b
def f_lor (a b : Nat) : Nat := a ||| b
def f_lxor (a b : Nat) : Nat := a ^^^ b
def f_ishl (a b : Nat) : Nat := (a * 2 ^ b) % 4294967296
def f_ishr (a b : Nat) : Nat := a / 2 ^ b
def f_idiv (a b : Nat) : Nat := a / b
def f_irem (a b : Nat) : Nat := a % b
def g_ishl (_ b : Nat) : Bool := Nat.ble (Nat.succ b) 32
def g_ishr (a b : Nat) : Bool := and (Nat.ble (Nat.succ a) 2147483648) (Nat.ble (Nat.succ b) 32)
def g_idiv (a b : Nat) : Bool := and (Nat.ble (Nat.succ a) 2147483648) (and (Nat.ble (Nat.succ b) 2147483648) (Nat.ble 1 b))
def g_irem (a b : Nat) : Bool := and (Nat.ble (Nat.succ a) 2147483648) (and (Nat.ble (Nat.succ b) 2147483648) (Nat.ble 1 b))
theorem o_ishl_ok (hd : decode M.2.1 pc = .ok (.ishl, 1)) : q_OK E tg mt M pc (pc + 1) (o_binc g_ishl f_ishl) := o_binc_ok (fun g k => q_ishl hd (e_le g) k)
theorem o_ishr_ok (hd : decode M.2.1 pc = .ok (.ishr, 1)) : q_OK E tg mt M pc (pc + 1) (o_binc g_ishr f_ishr) := o_binc_ok (fun g k => q_ishr hd (e_le (e_and g).1) (e_le (e_and g).2) k)
theorem o_idiv_ok (hd : decode M.2.1 pc = .ok (.idiv, 1)) : q_OK E tg mt M pc (pc + 1) (o_binc g_idiv f_idiv) := o_binc_ok (fun g k => q_idiv hd (e_le (e_and g).1) (e_le (e_and (e_and g).2).1) (e_le (e_and (e_and g).2).2) k)
theorem o_irem_ok (hd : decode M.2.1 pc = .ok (.irem, 1)) : q_OK E tg mt M pc (pc + 1) (o_binc g_irem f_irem) := o_binc_ok (fun g k => q_irem hd (e_le (e_and g).1) (e_le (e_and (e_and g).2).1) (e_le (e_and (e_and g).2).2) k)
theorem q_tsw {pc : Nat} {tg : Nat → Nat} {bs : List Nat} {offs : Array Int} (h : (List.range bs.length).all (fun i => match bs[i]?, offs[i]? with | some b, some off => decide ((pc : Int) + off = (tg b : Int)) | _, _ => false) = true) : ∀ (i b : Nat), bs[i]? = some b → ∃ off : Int, offs[i]? = some off ∧ (pc : Int) + off = (tg b : Int) := by
  intro i b hb
  have h1 := List.all_eq_true.mp h i (List.mem_range.mpr (List.getElem?_eq_some_iff.mp hb).1)
  rw [hb] at h1
  cases ho : offs[i]? with
  | none => rw [ho] at h1; cases h1
  | some off => rw [ho] at h1; exact ⟨off, rfl, of_decide_eq_true h1⟩
def q_okB (E : q_E) (tg : Nat → Nat) (mt : Nat → q_M) (M : q_M) : Nat → List (List q_Op) → Prop
  | _, [] => True
  | b, cs :: bl => q_okC E tg mt M (tg b) cs ∧ q_okB E tg mt M (b + 1) bl
theorem q_okB_at {E : q_E} {tg : Nat → Nat} {mt : Nat → q_M} {M : q_M} : ∀ {bl : List (List q_Op)} {b0 b : Nat} {cs : List q_Op}, q_okB E tg mt M b0 bl → bl[b]? = some cs → q_okC E tg mt M (tg (b0 + b)) cs
  | [], _, _, _, _, h => by simp at h
  | c :: bl, b0, 0, cs, g, h => by cases h; exact g.1
  | c :: bl, b0, b + 1, cs, g, h => by
    rw [List.getElem?_cons_succ] at h
    have := q_okB_at g.2 h
    rw [show b0 + 1 + b = b0 + (b + 1) by omega] at this
    exact this
theorem q_okB_all {E : q_E} {tg : Nat → Nat} {mt : Nat → q_M} {M : q_M} {bl : List (List q_Op)} (g : q_okB E tg mt M 0 bl) : ∀ (b : Nat) (cs : List q_Op), bl[b]? = some cs → q_okC E tg mt M (tg b) cs := by
  intro b cs h
  have := q_okB_at g h
  rwa [Nat.zero_add] at this

theorem o_cS2_ok {j n mc ms cR sR idx : Nat} (hj : mt j = M') (hd : decode M.2.1 pc = .ok (.invokestatic idx, 3)) (ho : q_ok M M' n) (hw : Cond.methodLink M.1.cls idx M'.1 ∈ q_gd) (hx : Cond.static M'.1 ∈ q_gd) (hmc : M'.2.2.2.2.cells = mc) (hms : M'.2.2.2.2.slots = ms) (hcR : M.2.2.2.2.cells = cR) (hsR : M.2.2.2.2.slots = sR) : q_OK E tg mt M pc (pc + 3) (o_cS j n mc ms cR sR) := by
  subst hj
  exact o_cS_ok hd ho hw hx hmc hms hcR hsR
theorem o_cSN2_ok {j n mc ms cR sR idx : Nat} (hj : mt j = M') (hd : decode M.2.1 pc = .ok (.invokestatic idx, 3)) (ho : q_ok M M' n) {host : String} (hw : Cond.methodLinkNest M.1.cls idx M'.1 host ∈ q_nst) (hx : Cond.static M'.1 ∈ q_gd) (hmc : M'.2.2.2.2.cells = mc) (hms : M'.2.2.2.2.slots = ms) (hcR : M.2.2.2.2.cells = cR) (hsR : M.2.2.2.2.slots = sR) : q_OK E tg mt M pc (pc + 3) (o_cS j n mc ms cR sR) := by
  subst hj
  exact o_cSN_ok hd ho hw hx hmc hms hcR hsR
theorem o_cI2_ok {j n mc ms cR sR idx : Nat} (hj : mt j = M') (hd : decode M.2.1 pc = .ok (.invokespecial idx, 3)) (ho : q_ok M M' n) (hw : Cond.methodLink M.1.cls idx M'.1 ∈ q_gd) (hx : Cond.instanceMethod M'.1 ∈ q_gd) (hi : M'.1.name = "<init>" ∧ M'.2.2.2.1 = none) (hmc : M'.2.2.2.2.cells = mc) (hms : M'.2.2.2.2.slots = ms) (hcR : M.2.2.2.2.cells = cR) (hsR : M.2.2.2.2.slots = sR) : q_OK E tg mt M pc (pc + 3) (o_cI j n mc ms cR sR) := by
  subst hj
  exact o_cI_ok hd ho hw hx hi hmc hms hcR hsR
theorem o_cIN2_ok {j n mc ms cR sR idx : Nat} (hj : mt j = M') (hd : decode M.2.1 pc = .ok (.invokespecial idx, 3)) (ho : q_ok M M' n) {host : String} (hw : Cond.methodLinkNest M.1.cls idx M'.1 host ∈ q_nst) (hx : Cond.instanceMethod M'.1 ∈ q_gd) (hi : M'.1.name = "<init>" ∧ M'.2.2.2.1 = none) (hmc : M'.2.2.2.2.cells = mc) (hms : M'.2.2.2.2.slots = ms) (hcR : M.2.2.2.2.cells = cR) (hsR : M.2.2.2.2.slots = sR) : q_OK E tg mt M pc (pc + 3) (o_cI j n mc ms cR sR) := by
  subst hj
  exact o_cIN_ok hd ho hw hx hi hmc hms hcR hsR
theorem o_cV2_ok {j n mc ms cR sR idx ci : Nat} (hj : mt j = M') (hd : decode M.2.1 pc = .ok (.invokevirtual idx, 3)) (ho : q_ok M M' n) (hw : Cond.methodLink M.1.cls idx M'.1 ∈ q_gd) (hx : Cond.instanceMethod M'.1 ∈ q_gd ∧ Cond.selects M'.1.cls M'.1 M'.1 ∈ q_gd) (hcl : ∀ q : vw_C, q_cl[ci]? = some q → q.1 = M'.1.cls) (hmc : M'.2.2.2.2.cells = mc) (hms : M'.2.2.2.2.slots = ms) (hcR : M.2.2.2.2.cells = cR) (hsR : M.2.2.2.2.slots = sR) : q_OK E tg mt M pc (pc + 3) (o_cV (ci + 5) j n mc ms cR sR) := by
  subst hj
  exact o_cV_ok hd ho hw hx hcl hmc hms hcR hsR
theorem o_cVN2_ok {j n mc ms cR sR idx ci : Nat} (hj : mt j = M') (hd : decode M.2.1 pc = .ok (.invokevirtual idx, 3)) (ho : q_ok M M' n) {host : String} (hw : Cond.methodLinkNest M.1.cls idx M'.1 host ∈ q_nst) (hx : Cond.instanceMethod M'.1 ∈ q_gd ∧ Cond.selects M'.1.cls M'.1 M'.1 ∈ q_gd) (hcl : ∀ q : vw_C, q_cl[ci]? = some q → q.1 = M'.1.cls) (hmc : M'.2.2.2.2.cells = mc) (hms : M'.2.2.2.2.slots = ms) (hcR : M.2.2.2.2.cells = cR) (hsR : M.2.2.2.2.slots = sR) : q_OK E tg mt M pc (pc + 3) (o_cV (ci + 5) j n mc ms cR sR) := by
  subst hj
  exact o_cVN_ok hd ho hw hx hcl hmc hms hcR hsR
theorem o_cT2_ok {j n mc ms cR sR idx : Nat} (hj : mt j = M') (hd : decode M.2.1 pc = .ok (.invokevirtual idx, 3)) (ho : q_ok M M' n) (hw : Cond.methodLink M.1.cls idx M'.1 ∈ q_gd) (hx : Cond.instanceMethod M'.1 ∈ q_gd ∧ Cond.selects M'.1.cls M'.1 M'.1 ∈ q_gd) (hcl : M'.1.cls = "java/lang/String") (hmc : M'.2.2.2.2.cells = mc) (hms : M'.2.2.2.2.slots = ms) (hcR : M.2.2.2.2.cells = cR) (hsR : M.2.2.2.2.slots = sR) : q_OK E tg mt M pc (pc + 3) (o_cT j n mc ms cR sR) := by
  subst hj
  exact o_cT_ok hd ho hw hx hcl hmc hms hcR hsR
theorem o_cU2_ok {M2 : q_M} {n ci1 j1 ci2 j2 cR sR idx : Nat} {x : MethodName} (hj1 : mt j1 = M') (hj2 : mt j2 = M2) (hd : decode M.2.1 pc = .ok (.invokevirtual idx, 3)) (hw : Cond.methodLink M.1.cls idx x ∈ q_gd) (h1 : q_okU M M' x n ci1) (h2 : q_okU M M2 x n ci2) (hcR : M.2.2.2.2.cells = cR) (hsR : M.2.2.2.2.slots = sR) : q_OK E tg mt M pc (pc + 3) (o_cU n (ci1 + 5) j1 (ci2 + 5) j2 cR sR) := by
  subst hj1
  subst hj2
  exact o_cU_ok hd hw h1 h2 hcR hsR
end
end
section
def t_0 (b : Nat) : Nat := [0, 9, 19, 18].getD b 0
noncomputable def b_0_0 : List q_Op := [o_iload 0, o_push (.inl 2), o_icmp_ge 1, o_push (.inl 0), o_goto 2]
theorem k_0_0 (E : q_E) (hL : E.2.2.2.2 = 5) : q_okC E t_0 q_mt m_0 0 b_0_0 := ⟨1, o_iload_ok (fun h k => q_iload_ni (k0 := 0) (by decide +kernel) rfl h k) (fun h k => q_iload_ns (k0 := 0) (by decide +kernel) rfl h k), ⟨2, o_push_ok (fun k => q_iconst (n := 2) (by decide +kernel) (by decide +kernel) k), ⟨5, o_icmp_ge_ok (off := 7) (by decide +kernel) (by decide +kernel), ⟨6, o_push_ok (fun k => q_iconst (n := 0) (by decide +kernel) (by decide +kernel) k), ⟨0, o_goto_ok (off := 13) (by decide +kernel) (by decide +kernel), trivial⟩⟩⟩⟩⟩
noncomputable def b_0_1 : List q_Op := [o_iload 0, o_push (.inl 2), o_icmp_ne 3, o_push (.inl 1), o_goto 2]
theorem k_0_1 (E : q_E) (hL : E.2.2.2.2 = 5) : q_okC E t_0 q_mt m_0 9 b_0_1 := ⟨10, o_iload_ok (fun h k => q_iload_ni (k0 := 0) (by decide +kernel) rfl h k) (fun h k => q_iload_ns (k0 := 0) (by decide +kernel) rfl h k), ⟨11, o_push_ok (fun k => q_iconst (n := 2) (by decide +kernel) (by decide +kernel) k), ⟨14, o_icmp_ne_ok (off := 7) (by decide +kernel) (by decide +kernel), ⟨15, o_push_ok (fun k => q_iconst (n := 1) (by decide +kernel) (by decide +kernel) k), ⟨0, o_goto_ok (off := 4) (by decide +kernel) (by decide +kernel), trivial⟩⟩⟩⟩⟩
noncomputable def b_0_2 : List q_Op := [o_iret 0 0]
theorem k_0_2 (E : q_E) (hL : E.2.2.2.2 = 5) : q_okC E t_0 q_mt m_0 19 b_0_2 := ⟨0, o_iret_ok (by decide +kernel) rfl rfl rfl, trivial⟩
noncomputable def b_0_3 : List q_Op := [o_push (.inl 2), o_fall 2]
theorem k_0_3 (E : q_E) (hL : E.2.2.2.2 = 5) : q_okC E t_0 q_mt m_0 18 b_0_3 := ⟨19, o_push_ok (fun k => q_iconst (n := 2) (by decide +kernel) (by decide +kernel) k), ⟨0, o_fall_ok rfl, trivial⟩⟩
noncomputable def b_0 : List (List q_Op) := [b_0_0, b_0_1, b_0_2, b_0_3]
theorem a_0 (E : q_E) (hL : E.2.2.2.2 = 5) : q_okB E t_0 q_mt m_0 0 b_0 := ⟨k_0_0 E hL, k_0_1 E hL, k_0_2 E hL, k_0_3 E hL, trivial⟩
theorem h_0 (E : q_E) (hL : E.2.2.2.2 = 5) : q_okM E q_mt m_0 (1, b_0) := ⟨t_0, rfl, rfl, q_okB_all (a_0 E hL), by decide +kernel⟩
def t_1 (b : Nat) : Nat := [0, 23, 53, 27, 45, 49, 54].getD b 0
noncomputable def b_1_0 : List q_Op := [o_iload 1, o_cS 0 1 0 0 0 0, o_istore 4, o_iload 4, o_if_le 1, o_aload 0, o_getR 14 28, o_iload 2, o_ald 3, o_if_eq 2, o_goto 3]
theorem k_1_0 (E : q_E) (hL : E.2.2.2.2 = 5) : q_okC E t_1 q_mt m_1 0 b_1_0 := ⟨1, o_iload_ok (fun h k => q_iload_ni (k0 := 1) (by decide +kernel) rfl h k) (fun h k => q_iload_ns (k0 := 1) (by decide +kernel) rfl h k), ⟨4, o_cS2_ok e_0 (by decide +kernel) ⟨by decide +kernel, s_0⟩ w_1041 w_1042 rfl rfl rfl rfl, ⟨6, o_istore_ok (fun k => q_istorei (by decide +kernel) (by decide) k) (fun k => q_istores (by decide +kernel) (by decide) k), ⟨8, o_iload_ok (fun h k => q_iloadi (by decide +kernel) h k) (fun h k => q_iloads (by decide +kernel) h k), ⟨11, o_if_le_ok (off := 15) (by decide +kernel) (by decide +kernel), ⟨12, o_aload_ok (fun h k => q_aload_nr (k0 := 0) (by decide +kernel) rfl h k) (fun h k => q_aload_nq (k0 := 0) (by decide +kernel) rfl h k), ⟨15, o_getR_ok (ci := 9) (by decide +kernel) (f_TreePassesModel_58 m_1 rfl) rfl, ⟨16, o_iload_ok (fun h k => q_iload_ni (k0 := 2) (by decide +kernel) rfl h k) (fun h k => q_iload_ns (k0 := 2) (by decide +kernel) rfl h k), ⟨17, o_ald_ok (Or.inr (Or.inr ⟨rfl, rfl⟩)) (by decide +kernel), ⟨20, o_if_eq_ok (off := 36) (by decide +kernel) (by decide +kernel), ⟨0, o_goto_ok (off := 7) (by decide +kernel) (by decide +kernel), trivial⟩⟩⟩⟩⟩⟩⟩⟩⟩⟩⟩
noncomputable def b_1_1 : List q_Op := [o_iload 2, o_if_ne 2, o_fall 3]
theorem k_1_1 (E : q_E) (hL : E.2.2.2.2 = 5) : q_okC E t_1 q_mt m_1 23 b_1_1 := ⟨24, o_iload_ok (fun h k => q_iload_ni (k0 := 2) (by decide +kernel) rfl h k) (fun h k => q_iload_ns (k0 := 2) (by decide +kernel) rfl h k), ⟨27, o_if_ne_ok (off := 29) (by decide +kernel) (by decide +kernel), ⟨0, o_fall_ok rfl, trivial⟩⟩⟩
noncomputable def b_1_2 : List q_Op := [o_push (.inl 0), o_fall 6]
theorem k_1_2 (E : q_E) (hL : E.2.2.2.2 = 5) : q_okC E t_1 q_mt m_1 53 b_1_2 := ⟨54, o_push_ok (fun k => q_iconst (n := 0) (by decide +kernel) (by decide +kernel) k), ⟨0, o_fall_ok rfl, trivial⟩⟩
noncomputable def b_1_3 : List q_Op := [o_iload 4, o_push (.inl 1), o_icmp_le 4, o_aload 0, o_getR 14 28, o_iload 3, o_ald 3, o_if_eq 2, o_goto 5]
theorem k_1_3 (E : q_E) (hL : E.2.2.2.2 = 5) : q_okC E t_1 q_mt m_1 27 b_1_3 := ⟨29, o_iload_ok (fun h k => q_iloadi (by decide +kernel) h k) (fun h k => q_iloads (by decide +kernel) h k), ⟨30, o_push_ok (fun k => q_iconst (n := 1) (by decide +kernel) (by decide +kernel) k), ⟨33, o_icmp_le_ok (off := 15) (by decide +kernel) (by decide +kernel), ⟨34, o_aload_ok (fun h k => q_aload_nr (k0 := 0) (by decide +kernel) rfl h k) (fun h k => q_aload_nq (k0 := 0) (by decide +kernel) rfl h k), ⟨37, o_getR_ok (ci := 9) (by decide +kernel) (f_TreePassesModel_58 m_1 rfl) rfl, ⟨38, o_iload_ok (fun h k => q_iload_ni (k0 := 3) (by decide +kernel) rfl h k) (fun h k => q_iload_ns (k0 := 3) (by decide +kernel) rfl h k), ⟨39, o_ald_ok (Or.inr (Or.inr ⟨rfl, rfl⟩)) (by decide +kernel), ⟨42, o_if_eq_ok (off := 14) (by decide +kernel) (by decide +kernel), ⟨0, o_goto_ok (off := 7) (by decide +kernel) (by decide +kernel), trivial⟩⟩⟩⟩⟩⟩⟩⟩⟩
noncomputable def b_1_4 : List q_Op := [o_iload 3, o_if_ne 2, o_fall 5]
theorem k_1_4 (E : q_E) (hL : E.2.2.2.2 = 5) : q_okC E t_1 q_mt m_1 45 b_1_4 := ⟨46, o_iload_ok (fun h k => q_iload_ni (k0 := 3) (by decide +kernel) rfl h k) (fun h k => q_iload_ns (k0 := 3) (by decide +kernel) rfl h k), ⟨49, o_if_ne_ok (off := 7) (by decide +kernel) (by decide +kernel), ⟨0, o_fall_ok rfl, trivial⟩⟩⟩
noncomputable def b_1_5 : List q_Op := [o_push (.inl 1), o_goto 6]
theorem k_1_5 (E : q_E) (hL : E.2.2.2.2 = 5) : q_okC E t_1 q_mt m_1 49 b_1_5 := ⟨50, o_push_ok (fun k => q_iconst (n := 1) (by decide +kernel) (by decide +kernel) k), ⟨0, o_goto_ok (off := 4) (by decide +kernel) (by decide +kernel), trivial⟩⟩
noncomputable def b_1_6 : List q_Op := [o_zret 0 0]
theorem k_1_6 (E : q_E) (hL : E.2.2.2.2 = 5) : q_okC E t_1 q_mt m_1 54 b_1_6 := ⟨0, o_zret_ok (by decide +kernel) rfl rfl rfl, trivial⟩
noncomputable def b_1 : List (List q_Op) := [b_1_0, b_1_1, b_1_2, b_1_3, b_1_4, b_1_5, b_1_6]
theorem a_1 (E : q_E) (hL : E.2.2.2.2 = 5) : q_okB E t_1 q_mt m_1 0 b_1 := ⟨k_1_0 E hL, k_1_1 E hL, k_1_2 E hL, k_1_3 E hL, k_1_4 E hL, k_1_5 E hL, k_1_6 E hL, trivial⟩
theorem h_1 (E : q_E) (hL : E.2.2.2.2 = 5) : q_okM E q_mt m_1 (5, b_1) := ⟨t_1, rfl, rfl, q_okB_all (a_1 E hL), by decide +kernel⟩
def t_2 (b : Nat) : Nat := [0, 13, 14].getD b 0
noncomputable def b_2_0 : List q_Op := [o_iload 0, o_if_lt 1, o_iload 0, o_iload 1, o_icmp_ge 1, o_push (.inl 1), o_goto 2]
theorem k_2_0 (E : q_E) (hL : E.2.2.2.2 = 5) : q_okC E t_2 q_mt m_2 0 b_2_0 := ⟨1, o_iload_ok (fun h k => q_iload_ni (k0 := 0) (by decide +kernel) rfl h k) (fun h k => q_iload_ns (k0 := 0) (by decide +kernel) rfl h k), ⟨4, o_if_lt_ok (off := 12) (by decide +kernel) (by decide +kernel), ⟨5, o_iload_ok (fun h k => q_iload_ni (k0 := 0) (by decide +kernel) rfl h k) (fun h k => q_iload_ns (k0 := 0) (by decide +kernel) rfl h k), ⟨6, o_iload_ok (fun h k => q_iload_ni (k0 := 1) (by decide +kernel) rfl h k) (fun h k => q_iload_ns (k0 := 1) (by decide +kernel) rfl h k), ⟨9, o_icmp_ge_ok (off := 7) (by decide +kernel) (by decide +kernel), ⟨10, o_push_ok (fun k => q_iconst (n := 1) (by decide +kernel) (by decide +kernel) k), ⟨0, o_goto_ok (off := 4) (by decide +kernel) (by decide +kernel), trivial⟩⟩⟩⟩⟩⟩⟩
noncomputable def b_2_1 : List q_Op := [o_push (.inl 0), o_fall 2]
theorem k_2_1 (E : q_E) (hL : E.2.2.2.2 = 5) : q_okC E t_2 q_mt m_2 13 b_2_1 := ⟨14, o_push_ok (fun k => q_iconst (n := 0) (by decide +kernel) (by decide +kernel) k), ⟨0, o_fall_ok rfl, trivial⟩⟩
noncomputable def b_2_2 : List q_Op := [o_zret 0 0]
theorem k_2_2 (E : q_E) (hL : E.2.2.2.2 = 5) : q_okC E t_2 q_mt m_2 14 b_2_2 := ⟨0, o_zret_ok (by decide +kernel) rfl rfl rfl, trivial⟩
noncomputable def b_2 : List (List q_Op) := [b_2_0, b_2_1, b_2_2]
theorem a_2 (E : q_E) (hL : E.2.2.2.2 = 5) : q_okB E t_2 q_mt m_2 0 b_2 := ⟨k_2_0 E hL, k_2_1 E hL, k_2_2 E hL, trivial⟩
theorem h_2 (E : q_E) (hL : E.2.2.2.2 = 5) : q_okM E q_mt m_2 (2, b_2) := ⟨t_2, rfl, rfl, q_okB_all (a_2 E hL), by decide +kernel⟩
def t_3 (b : Nat) : Nat := [0].getD b 0
noncomputable def b_3_0 : List q_Op := [o_aload 0, o_getR 14 2, o_push (.inl 63), o_push (.inl 12), o_iload 1, o_bin f_imul, o_bin f_iadd, o_iload 2, o_bin f_iadd, o_iald, o_iret 0 0]
theorem k_3_0 (E : q_E) (hL : E.2.2.2.2 = 5) : q_okC E t_3 q_mt m_3 0 b_3_0 := ⟨1, o_aload_ok (fun h k => q_aload_nr (k0 := 0) (by decide +kernel) rfl h k) (fun h k => q_aload_nq (k0 := 0) (by decide +kernel) rfl h k), ⟨4, o_getR_ok (ci := 9) (by decide +kernel) (f_TreePassesModel_13 m_3 rfl) rfl, ⟨6, o_push_ok (fun k => q_bipush (n := 63) (by decide +kernel) (by decide +kernel) k), ⟨8, o_push_ok (fun k => q_bipush (n := 12) (by decide +kernel) (by decide +kernel) k), ⟨9, o_iload_ok (fun h k => q_iload_ni (k0 := 1) (by decide +kernel) rfl h k) (fun h k => q_iload_ns (k0 := 1) (by decide +kernel) rfl h k), ⟨10, o_bin_ok (fun k => q_imul (by decide +kernel) k), ⟨11, o_bin_ok (fun k => q_iadd (by decide +kernel) k), ⟨12, o_iload_ok (fun h k => q_iload_ni (k0 := 2) (by decide +kernel) rfl h k) (fun h k => q_iload_ns (k0 := 2) (by decide +kernel) rfl h k), ⟨13, o_bin_ok (fun k => q_iadd (by decide +kernel) k), ⟨14, o_iald_ok hL (by decide +kernel), ⟨0, o_iret_ok (by decide +kernel) rfl rfl rfl, trivial⟩⟩⟩⟩⟩⟩⟩⟩⟩⟩⟩
noncomputable def b_3 : List (List q_Op) := [b_3_0]
theorem a_3 (E : q_E) (hL : E.2.2.2.2 = 5) : q_okB E t_3 q_mt m_3 0 b_3 := ⟨k_3_0 E hL, trivial⟩
theorem h_3 (E : q_E) (hL : E.2.2.2.2 = 5) : q_okM E q_mt m_3 (3, b_3) := ⟨t_3, rfl, rfl, q_okB_all (a_3 E hL), by decide +kernel⟩
def t_4 (b : Nat) : Nat := [0, 40, 42].getD b 0
noncomputable def b_4_0 : List q_Op := [o_aload 0, o_getI 8 3, o_if_lt 1, o_aload 0, o_getI 8 3, o_aload 0, o_getI 8 2, o_icmp_ge 1, o_aload 0, o_getI 8 3, o_push (.inl 200), o_icmp_ge 1, o_aload 0, o_getR 8 0, o_aload 0, o_getI 8 3, o_ald 2, o_goto 2]
theorem k_4_0 (E : q_E) (hL : E.2.2.2.2 = 5) : q_okC E t_4 q_mt m_4 0 b_4_0 := ⟨1, o_aload_ok (fun h k => q_aload_nr (k0 := 0) (by decide +kernel) rfl h k) (fun h k => q_aload_nq (k0 := 0) (by decide +kernel) rfl h k), ⟨4, o_getI_ok (ci := 3) (by decide +kernel) (f_TreePasses_Scroll_37 m_4 rfl) rfl, ⟨7, o_if_lt_ok (off := 36) (by decide +kernel) (by decide +kernel), ⟨8, o_aload_ok (fun h k => q_aload_nr (k0 := 0) (by decide +kernel) rfl h k) (fun h k => q_aload_nq (k0 := 0) (by decide +kernel) rfl h k), ⟨11, o_getI_ok (ci := 3) (by decide +kernel) (f_TreePasses_Scroll_37 m_4 rfl) rfl, ⟨12, o_aload_ok (fun h k => q_aload_nr (k0 := 0) (by decide +kernel) rfl h k) (fun h k => q_aload_nq (k0 := 0) (by decide +kernel) rfl h k), ⟨15, o_getI_ok (ci := 3) (by decide +kernel) (f_TreePasses_Scroll_25 m_4 rfl) rfl, ⟨18, o_icmp_ge_ok (off := 25) (by decide +kernel) (by decide +kernel), ⟨19, o_aload_ok (fun h k => q_aload_nr (k0 := 0) (by decide +kernel) rfl h k) (fun h k => q_aload_nq (k0 := 0) (by decide +kernel) rfl h k), ⟨22, o_getI_ok (ci := 3) (by decide +kernel) (f_TreePasses_Scroll_37 m_4 rfl) rfl, ⟨25, o_push_ok (fun k => q_sipush (n := 200) (by decide +kernel) (by decide +kernel) k), ⟨28, o_icmp_ge_ok (off := 15) (by decide +kernel) (by decide +kernel), ⟨29, o_aload_ok (fun h k => q_aload_nr (k0 := 0) (by decide +kernel) rfl h k) (fun h k => q_aload_nq (k0 := 0) (by decide +kernel) rfl h k), ⟨32, o_getR_ok (ci := 3) (by decide +kernel) (f_TreePasses_Scroll_9 m_4 rfl) rfl, ⟨33, o_aload_ok (fun h k => q_aload_nr (k0 := 0) (by decide +kernel) rfl h k) (fun h k => q_aload_nq (k0 := 0) (by decide +kernel) rfl h k), ⟨36, o_getI_ok (ci := 3) (by decide +kernel) (f_TreePasses_Scroll_37 m_4 rfl) rfl, ⟨37, o_ald_ok (Or.inr (Or.inl ⟨rfl, rfl⟩)) (by decide +kernel), ⟨0, o_goto_ok (off := 5) (by decide +kernel) (by decide +kernel), trivial⟩⟩⟩⟩⟩⟩⟩⟩⟩⟩⟩⟩⟩⟩⟩⟩⟩⟩
noncomputable def b_4_1 : List q_Op := [o_push (.inl 4294967292), o_fall 2]
theorem k_4_1 (E : q_E) (hL : E.2.2.2.2 = 5) : q_okC E t_4 q_mt m_4 40 b_4_1 := ⟨42, o_push_ok (fun k => q_bipush (n := -4) (by decide +kernel) (by decide +kernel) k), ⟨0, o_fall_ok rfl, trivial⟩⟩
noncomputable def b_4_2 : List q_Op := [o_iret 0 0]
theorem k_4_2 (E : q_E) (hL : E.2.2.2.2 = 5) : q_okC E t_4 q_mt m_4 42 b_4_2 := ⟨0, o_iret_ok (by decide +kernel) rfl rfl rfl, trivial⟩
noncomputable def b_4 : List (List q_Op) := [b_4_0, b_4_1, b_4_2]
theorem a_4 (E : q_E) (hL : E.2.2.2.2 = 5) : q_okB E t_4 q_mt m_4 0 b_4 := ⟨k_4_0 E hL, k_4_1 E hL, k_4_2 E hL, trivial⟩
theorem h_4 (E : q_E) (hL : E.2.2.2.2 = 5) : q_okM E q_mt m_4 (1, b_4) := ⟨t_4, rfl, rfl, q_okB_all (a_4 E hL), by decide +kernel⟩
def t_5 (b : Nat) : Nat := [0, 12].getD b 0
noncomputable def b_5_0 : List q_Op := [o_aload 0, o_getI 8 2, o_push (.inl 200), o_icmp_lt 1, o_push (.inl 0), o_zret 0 0]
theorem k_5_0 (E : q_E) (hL : E.2.2.2.2 = 5) : q_okC E t_5 q_mt m_5 0 b_5_0 := ⟨1, o_aload_ok (fun h k => q_aload_nr (k0 := 0) (by decide +kernel) rfl h k) (fun h k => q_aload_nq (k0 := 0) (by decide +kernel) rfl h k), ⟨4, o_getI_ok (ci := 3) (by decide +kernel) (f_TreePasses_Scroll_25 m_5 rfl) rfl, ⟨7, o_push_ok (fun k => q_sipush (n := 200) (by decide +kernel) (by decide +kernel) k), ⟨10, o_icmp_lt_ok (off := 5) (by decide +kernel) (by decide +kernel), ⟨11, o_push_ok (fun k => q_iconst (n := 0) (by decide +kernel) (by decide +kernel) k), ⟨0, o_zret_ok (by decide +kernel) rfl rfl rfl, trivial⟩⟩⟩⟩⟩⟩
noncomputable def b_5_1 : List q_Op := [o_aload 0, o_getR 8 0, o_aload 0, o_getI 8 2, o_iload 1, o_i2c, o_ast 2 65536, o_aload 0, o_dup, o_getI 8 2, o_push (.inl 1), o_bin f_iadd, o_putI 8 2 18446744073709551616, o_push (.inl 1), o_zret 0 0]
theorem k_5_1 (E : q_E) (hL : E.2.2.2.2 = 5) : q_okC E t_5 q_mt m_5 12 b_5_1 := ⟨13, o_aload_ok (fun h k => q_aload_nr (k0 := 0) (by decide +kernel) rfl h k) (fun h k => q_aload_nq (k0 := 0) (by decide +kernel) rfl h k), ⟨16, o_getR_ok (ci := 3) (by decide +kernel) (f_TreePasses_Scroll_9 m_5 rfl) rfl, ⟨17, o_aload_ok (fun h k => q_aload_nr (k0 := 0) (by decide +kernel) rfl h k) (fun h k => q_aload_nq (k0 := 0) (by decide +kernel) rfl h k), ⟨20, o_getI_ok (ci := 3) (by decide +kernel) (f_TreePasses_Scroll_25 m_5 rfl) rfl, ⟨21, o_iload_ok (fun h k => q_iload_ni (k0 := 1) (by decide +kernel) rfl h k) (fun h k => q_iload_ns (k0 := 1) (by decide +kernel) rfl h k), ⟨22, o_i2c_ok (by decide +kernel), ⟨23, o_ast_ok (Or.inr (Or.inl ⟨rfl, rfl, rfl⟩)) (by decide +kernel), ⟨24, o_aload_ok (fun h k => q_aload_nr (k0 := 0) (by decide +kernel) rfl h k) (fun h k => q_aload_nq (k0 := 0) (by decide +kernel) rfl h k), ⟨25, o_dup_ok (by decide +kernel), ⟨28, o_getI_ok (ci := 3) (by decide +kernel) (f_TreePasses_Scroll_25 m_5 rfl) rfl, ⟨29, o_push_ok (fun k => q_iconst (n := 1) (by decide +kernel) (by decide +kernel) k), ⟨30, o_bin_ok (fun k => q_iadd (by decide +kernel) k), ⟨33, o_putI_ok (ci := 3) (by decide +kernel) (f_TreePasses_Scroll_25 m_5 rfl) (fun q hq => by cases hq; exact Or.inl rfl) (Or.inl ⟨rfl, rfl⟩), ⟨34, o_push_ok (fun k => q_iconst (n := 1) (by decide +kernel) (by decide +kernel) k), ⟨0, o_zret_ok (by decide +kernel) rfl rfl rfl, trivial⟩⟩⟩⟩⟩⟩⟩⟩⟩⟩⟩⟩⟩⟩⟩
noncomputable def b_5 : List (List q_Op) := [b_5_0, b_5_1]
theorem a_5 (E : q_E) (hL : E.2.2.2.2 = 5) : q_okB E t_5 q_mt m_5 0 b_5 := ⟨k_5_0 E hL, k_5_1 E hL, trivial⟩
theorem h_5 (E : q_E) (hL : E.2.2.2.2 = 5) : q_okM E q_mt m_5 (2, b_5) := ⟨t_5, rfl, rfl, q_okB_all (a_5 E hL), by decide +kernel⟩
def t_6 (b : Nat) : Nat := [0, 32, 33].getD b 0
noncomputable def b_6_0 : List q_Op := [o_iload 1, o_push (.inl 16), o_cS 2 2 0 0 0 0, o_if_eq 1, o_iload 2, o_push (.inl 12), o_cS 2 2 0 0 0 0, o_if_eq 1, o_aload 0, o_getR 7 4, o_iload 1, o_push (.inl 12), o_bin f_imul, o_iload 2, o_bin f_iadd, o_iald, o_goto 2]
theorem k_6_0 (E : q_E) (hL : E.2.2.2.2 = 5) : q_okC E t_6 q_mt m_6 0 b_6_0 := ⟨1, o_iload_ok (fun h k => q_iload_ni (k0 := 1) (by decide +kernel) rfl h k) (fun h k => q_iload_ns (k0 := 1) (by decide +kernel) rfl h k), ⟨3, o_push_ok (fun k => q_bipush (n := 16) (by decide +kernel) (by decide +kernel) k), ⟨6, o_cSN2_ok e_2 (by decide +kernel) ⟨by decide +kernel, s_2⟩ w_335 w_308 rfl rfl rfl rfl, ⟨9, o_if_eq_ok (off := 26) (by decide +kernel) (by decide +kernel), ⟨10, o_iload_ok (fun h k => q_iload_ni (k0 := 2) (by decide +kernel) rfl h k) (fun h k => q_iload_ns (k0 := 2) (by decide +kernel) rfl h k), ⟨12, o_push_ok (fun k => q_bipush (n := 12) (by decide +kernel) (by decide +kernel) k), ⟨15, o_cSN2_ok e_2 (by decide +kernel) ⟨by decide +kernel, s_2⟩ w_335 w_308 rfl rfl rfl rfl, ⟨18, o_if_eq_ok (off := 17) (by decide +kernel) (by decide +kernel), ⟨19, o_aload_ok (fun h k => q_aload_nr (k0 := 0) (by decide +kernel) rfl h k) (fun h k => q_aload_nq (k0 := 0) (by decide +kernel) rfl h k), ⟨22, o_getR_ok (ci := 2) (by decide +kernel) (f_TreePasses_Program_24 m_6 rfl) rfl, ⟨23, o_iload_ok (fun h k => q_iload_ni (k0 := 1) (by decide +kernel) rfl h k) (fun h k => q_iload_ns (k0 := 1) (by decide +kernel) rfl h k), ⟨25, o_push_ok (fun k => q_bipush (n := 12) (by decide +kernel) (by decide +kernel) k), ⟨26, o_bin_ok (fun k => q_imul (by decide +kernel) k), ⟨27, o_iload_ok (fun h k => q_iload_ni (k0 := 2) (by decide +kernel) rfl h k) (fun h k => q_iload_ns (k0 := 2) (by decide +kernel) rfl h k), ⟨28, o_bin_ok (fun k => q_iadd (by decide +kernel) k), ⟨29, o_iald_ok hL (by decide +kernel), ⟨0, o_goto_ok (off := 4) (by decide +kernel) (by decide +kernel), trivial⟩⟩⟩⟩⟩⟩⟩⟩⟩⟩⟩⟩⟩⟩⟩⟩⟩
noncomputable def b_6_1 : List q_Op := [o_push (.inl 0), o_fall 2]
theorem k_6_1 (E : q_E) (hL : E.2.2.2.2 = 5) : q_okC E t_6 q_mt m_6 32 b_6_1 := ⟨33, o_push_ok (fun k => q_iconst (n := 0) (by decide +kernel) (by decide +kernel) k), ⟨0, o_fall_ok rfl, trivial⟩⟩
noncomputable def b_6_2 : List q_Op := [o_iret 0 0]
theorem k_6_2 (E : q_E) (hL : E.2.2.2.2 = 5) : q_okC E t_6 q_mt m_6 33 b_6_2 := ⟨0, o_iret_ok (by decide +kernel) rfl rfl rfl, trivial⟩
noncomputable def b_6 : List (List q_Op) := [b_6_0, b_6_1, b_6_2]
theorem a_6 (E : q_E) (hL : E.2.2.2.2 = 5) : q_okB E t_6 q_mt m_6 0 b_6 := ⟨k_6_0 E hL, k_6_1 E hL, k_6_2 E hL, trivial⟩
theorem h_6 (E : q_E) (hL : E.2.2.2.2 = 5) : q_okM E q_mt m_6 (3, b_6) := ⟨t_6, rfl, rfl, q_okB_all (a_6 E hL), by decide +kernel⟩
def t_7 (b : Nat) : Nat := [0, 17, 18].getD b 0
noncomputable def b_7_0 : List q_Op := [o_iload 0, o_if_lt 1, o_iload 0, o_push (.inl 5), o_icmp_ge 1, o_push (.inr (.inr (.inr (.inr (.inr (.inl 1)))))), o_iload 0, o_iald, o_goto 2]
theorem k_7_0 (E : q_E) (hL : E.2.2.2.2 = 5) : q_okC E t_7 q_mt m_7 0 b_7_0 := ⟨1, o_iload_ok (fun h k => q_iload_ni (k0 := 0) (by decide +kernel) rfl h k) (fun h k => q_iload_ns (k0 := 0) (by decide +kernel) rfl h k), ⟨4, o_if_lt_ok (off := 16) (by decide +kernel) (by decide +kernel), ⟨5, o_iload_ok (fun h k => q_iload_ni (k0 := 0) (by decide +kernel) rfl h k) (fun h k => q_iload_ns (k0 := 0) (by decide +kernel) rfl h k), ⟨6, o_push_ok (fun k => q_iconst (n := 5) (by decide +kernel) (by decide +kernel) k), ⟨9, o_icmp_ge_ok (off := 11) (by decide +kernel) (by decide +kernel), ⟨12, o_push_ok (fun k => q_gets1 (by decide +kernel) w_325 k), ⟨13, o_iload_ok (fun h k => q_iload_ni (k0 := 0) (by decide +kernel) rfl h k) (fun h k => q_iload_ns (k0 := 0) (by decide +kernel) rfl h k), ⟨14, o_iald_ok hL (by decide +kernel), ⟨0, o_goto_ok (off := 4) (by decide +kernel) (by decide +kernel), trivial⟩⟩⟩⟩⟩⟩⟩⟩⟩
noncomputable def b_7_1 : List q_Op := [o_push (.inl 0), o_fall 2]
theorem k_7_1 (E : q_E) (hL : E.2.2.2.2 = 5) : q_okC E t_7 q_mt m_7 17 b_7_1 := ⟨18, o_push_ok (fun k => q_iconst (n := 0) (by decide +kernel) (by decide +kernel) k), ⟨0, o_fall_ok rfl, trivial⟩⟩
noncomputable def b_7_2 : List q_Op := [o_iret 0 0]
theorem k_7_2 (E : q_E) (hL : E.2.2.2.2 = 5) : q_okC E t_7 q_mt m_7 18 b_7_2 := ⟨0, o_iret_ok (by decide +kernel) rfl rfl rfl, trivial⟩
noncomputable def b_7 : List (List q_Op) := [b_7_0, b_7_1, b_7_2]
theorem a_7 (E : q_E) (hL : E.2.2.2.2 = 5) : q_okB E t_7 q_mt m_7 0 b_7 := ⟨k_7_0 E hL, k_7_1 E hL, k_7_2 E hL, trivial⟩
theorem h_7 (E : q_E) (hL : E.2.2.2.2 = 5) : q_okM E q_mt m_7 (1, b_7) := ⟨t_7, rfl, rfl, q_okB_all (a_7 E hL), by decide +kernel⟩
def t_8 (b : Nat) : Nat := [0, 23, 30].getD b 0
noncomputable def b_8_0 : List q_Op := [o_aload 0, o_cV 8 4 0 0 0 0 0, o_push (.inl 48), o_bin f_isub, o_istore 2, o_aload 0, o_getI 8 4, o_if_ne 1, o_iload 2, o_iload 1, o_cS 2 2 0 0 0 0, o_if_ne 2, o_fall 1]
theorem k_8_0 (E : q_E) (hL : E.2.2.2.2 = 5) : q_okC E t_8 q_mt m_8 0 b_8_0 := ⟨1, o_aload_ok (fun h k => q_aload_nr (k0 := 0) (by decide +kernel) rfl h k) (fun h k => q_aload_nq (k0 := 0) (by decide +kernel) rfl h k), ⟨4, o_cV2_ok (ci := 3) e_4 (by decide +kernel) ⟨by decide +kernel, s_4⟩ w_295 ⟨w_297, wp_2⟩ (fun q hq => by cases hq; rfl) rfl rfl rfl rfl, ⟨6, o_push_ok (fun k => q_bipush (n := 48) (by decide +kernel) (by decide +kernel) k), ⟨7, o_bin_ok (fun k => q_isub (by decide +kernel) k), ⟨8, o_istore_ok (fun k => q_istore_ni (k0 := 2) (by decide +kernel) rfl (by decide) k) (fun k => q_istore_ns (k0 := 2) (by decide +kernel) rfl (by decide) k), ⟨9, o_aload_ok (fun h k => q_aload_nr (k0 := 0) (by decide +kernel) rfl h k) (fun h k => q_aload_nq (k0 := 0) (by decide +kernel) rfl h k), ⟨12, o_getI_ok (ci := 3) (by decide +kernel) (f_TreePasses_Scroll_48 m_8 rfl) rfl, ⟨15, o_if_ne_ok (off := 11) (by decide +kernel) (by decide +kernel), ⟨16, o_iload_ok (fun h k => q_iload_ni (k0 := 2) (by decide +kernel) rfl h k) (fun h k => q_iload_ns (k0 := 2) (by decide +kernel) rfl h k), ⟨17, o_iload_ok (fun h k => q_iload_ni (k0 := 1) (by decide +kernel) rfl h k) (fun h k => q_iload_ns (k0 := 1) (by decide +kernel) rfl h k), ⟨20, o_cSN2_ok e_2 (by decide +kernel) ⟨by decide +kernel, s_2⟩ w_307 w_308 rfl rfl rfl rfl, ⟨23, o_if_ne_ok (off := 10) (by decide +kernel) (by decide +kernel), ⟨0, o_fall_ok rfl, trivial⟩⟩⟩⟩⟩⟩⟩⟩⟩⟩⟩⟩⟩
noncomputable def b_8_1 : List q_Op := [o_aload 0, o_push (.inl 1), o_putI 8 4 2, o_push (.inl 0), o_iret 0 0]
theorem k_8_1 (E : q_E) (hL : E.2.2.2.2 = 5) : q_okC E t_8 q_mt m_8 23 b_8_1 := ⟨24, o_aload_ok (fun h k => q_aload_nr (k0 := 0) (by decide +kernel) rfl h k) (fun h k => q_aload_nq (k0 := 0) (by decide +kernel) rfl h k), ⟨25, o_push_ok (fun k => q_iconst (n := 1) (by decide +kernel) (by decide +kernel) k), ⟨28, o_putI_ok (ci := 3) (by decide +kernel) (f_TreePasses_Scroll_48 m_8 rfl) (fun q hq => by cases hq; exact Or.inl rfl) (Or.inr ⟨rfl, rfl⟩), ⟨29, o_push_ok (fun k => q_iconst (n := 0) (by decide +kernel) (by decide +kernel) k), ⟨0, o_iret_ok (by decide +kernel) rfl rfl rfl, trivial⟩⟩⟩⟩⟩
noncomputable def b_8_2 : List q_Op := [o_aload 0, o_dup, o_getI 8 3, o_push (.inl 1), o_bin f_iadd, o_putI 8 3 18446744073709551616, o_iload 2, o_iret 0 0]
theorem k_8_2 (E : q_E) (hL : E.2.2.2.2 = 5) : q_okC E t_8 q_mt m_8 30 b_8_2 := ⟨31, o_aload_ok (fun h k => q_aload_nr (k0 := 0) (by decide +kernel) rfl h k) (fun h k => q_aload_nq (k0 := 0) (by decide +kernel) rfl h k), ⟨32, o_dup_ok (by decide +kernel), ⟨35, o_getI_ok (ci := 3) (by decide +kernel) (f_TreePasses_Scroll_37 m_8 rfl) rfl, ⟨36, o_push_ok (fun k => q_iconst (n := 1) (by decide +kernel) (by decide +kernel) k), ⟨37, o_bin_ok (fun k => q_iadd (by decide +kernel) k), ⟨40, o_putI_ok (ci := 3) (by decide +kernel) (f_TreePasses_Scroll_37 m_8 rfl) (fun q hq => by cases hq; exact Or.inl rfl) (Or.inl ⟨rfl, rfl⟩), ⟨41, o_iload_ok (fun h k => q_iload_ni (k0 := 2) (by decide +kernel) rfl h k) (fun h k => q_iload_ns (k0 := 2) (by decide +kernel) rfl h k), ⟨0, o_iret_ok (by decide +kernel) rfl rfl rfl, trivial⟩⟩⟩⟩⟩⟩⟩⟩
noncomputable def b_8 : List (List q_Op) := [b_8_0, b_8_1, b_8_2]
theorem a_8 (E : q_E) (hL : E.2.2.2.2 = 5) : q_okB E t_8 q_mt m_8 0 b_8 := ⟨k_8_0 E hL, k_8_1 E hL, k_8_2 E hL, trivial⟩
theorem h_8 (E : q_E) (hL : E.2.2.2.2 = 5) : q_okM E q_mt m_8 (3, b_8) := ⟨t_8, rfl, rfl, q_okB_all (a_8 E hL), by decide +kernel⟩
def t_9 (b : Nat) : Nat := [0, 15, 21].getD b 0
noncomputable def b_9_0 : List q_Op := [o_aload 0, o_getI 8 4, o_if_ne 1, o_aload 0, o_cV 8 4 0 0 0 0 0, o_iload 1, o_icmp_eq 2, o_fall 1]
theorem k_9_0 (E : q_E) (hL : E.2.2.2.2 = 5) : q_okC E t_9 q_mt m_9 0 b_9_0 := ⟨1, o_aload_ok (fun h k => q_aload_nr (k0 := 0) (by decide +kernel) rfl h k) (fun h k => q_aload_nq (k0 := 0) (by decide +kernel) rfl h k), ⟨4, o_getI_ok (ci := 3) (by decide +kernel) (f_TreePasses_Scroll_48 m_9 rfl) rfl, ⟨7, o_if_ne_ok (off := 11) (by decide +kernel) (by decide +kernel), ⟨8, o_aload_ok (fun h k => q_aload_nr (k0 := 0) (by decide +kernel) rfl h k) (fun h k => q_aload_nq (k0 := 0) (by decide +kernel) rfl h k), ⟨11, o_cV2_ok (ci := 3) e_4 (by decide +kernel) ⟨by decide +kernel, s_4⟩ w_295 ⟨w_297, wp_2⟩ (fun q hq => by cases hq; rfl) rfl rfl rfl rfl, ⟨12, o_iload_ok (fun h k => q_iload_ni (k0 := 1) (by decide +kernel) rfl h k) (fun h k => q_iload_ns (k0 := 1) (by decide +kernel) rfl h k), ⟨15, o_icmp_eq_ok (off := 9) (by decide +kernel) (by decide +kernel), ⟨0, o_fall_ok rfl, trivial⟩⟩⟩⟩⟩⟩⟩⟩
noncomputable def b_9_1 : List q_Op := [o_aload 0, o_push (.inl 1), o_putI 8 4 2, o_vret 0 0]
theorem k_9_1 (E : q_E) (hL : E.2.2.2.2 = 5) : q_okC E t_9 q_mt m_9 15 b_9_1 := ⟨16, o_aload_ok (fun h k => q_aload_nr (k0 := 0) (by decide +kernel) rfl h k) (fun h k => q_aload_nq (k0 := 0) (by decide +kernel) rfl h k), ⟨17, o_push_ok (fun k => q_iconst (n := 1) (by decide +kernel) (by decide +kernel) k), ⟨20, o_putI_ok (ci := 3) (by decide +kernel) (f_TreePasses_Scroll_48 m_9 rfl) (fun q hq => by cases hq; exact Or.inl rfl) (Or.inr ⟨rfl, rfl⟩), ⟨0, o_vret_ok (by decide +kernel) rfl rfl rfl, trivial⟩⟩⟩⟩
noncomputable def b_9_2 : List q_Op := [o_aload 0, o_dup, o_getI 8 3, o_push (.inl 1), o_bin f_iadd, o_putI 8 3 18446744073709551616, o_vret 0 0]
theorem k_9_2 (E : q_E) (hL : E.2.2.2.2 = 5) : q_okC E t_9 q_mt m_9 21 b_9_2 := ⟨22, o_aload_ok (fun h k => q_aload_nr (k0 := 0) (by decide +kernel) rfl h k) (fun h k => q_aload_nq (k0 := 0) (by decide +kernel) rfl h k), ⟨23, o_dup_ok (by decide +kernel), ⟨26, o_getI_ok (ci := 3) (by decide +kernel) (f_TreePasses_Scroll_37 m_9 rfl) rfl, ⟨27, o_push_ok (fun k => q_iconst (n := 1) (by decide +kernel) (by decide +kernel) k), ⟨28, o_bin_ok (fun k => q_iadd (by decide +kernel) k), ⟨31, o_putI_ok (ci := 3) (by decide +kernel) (f_TreePasses_Scroll_37 m_9 rfl) (fun q hq => by cases hq; exact Or.inl rfl) (Or.inl ⟨rfl, rfl⟩), ⟨0, o_vret_ok (by decide +kernel) rfl rfl rfl, trivial⟩⟩⟩⟩⟩⟩⟩
noncomputable def b_9 : List (List q_Op) := [b_9_0, b_9_1, b_9_2]
theorem a_9 (E : q_E) (hL : E.2.2.2.2 = 5) : q_okB E t_9 q_mt m_9 0 b_9 := ⟨k_9_0 E hL, k_9_1 E hL, k_9_2 E hL, trivial⟩
theorem h_9 (E : q_E) (hL : E.2.2.2.2 = 5) : q_okM E q_mt m_9 (2, b_9) := ⟨t_9, rfl, rfl, q_okB_all (a_9 E hL), by decide +kernel⟩
def t_10 (b : Nat) : Nat := [0].getD b 0
noncomputable def b_10_0 : List q_Op := [o_iload 0, o_push (.inl 3), o_bin f_imul, o_iload 1, o_bin f_iadd, o_push (.inl 5), o_bin f_imul, o_iload 2, o_bin f_iadd, o_push (.inl 3), o_bin f_imul, o_iload 3, o_bin f_iadd, o_iret 0 0]
theorem k_10_0 (E : q_E) (hL : E.2.2.2.2 = 5) : q_okC E t_10 q_mt m_10 0 b_10_0 := ⟨1, o_iload_ok (fun h k => q_iload_ni (k0 := 0) (by decide +kernel) rfl h k) (fun h k => q_iload_ns (k0 := 0) (by decide +kernel) rfl h k), ⟨2, o_push_ok (fun k => q_iconst (n := 3) (by decide +kernel) (by decide +kernel) k), ⟨3, o_bin_ok (fun k => q_imul (by decide +kernel) k), ⟨4, o_iload_ok (fun h k => q_iload_ni (k0 := 1) (by decide +kernel) rfl h k) (fun h k => q_iload_ns (k0 := 1) (by decide +kernel) rfl h k), ⟨5, o_bin_ok (fun k => q_iadd (by decide +kernel) k), ⟨6, o_push_ok (fun k => q_iconst (n := 5) (by decide +kernel) (by decide +kernel) k), ⟨7, o_bin_ok (fun k => q_imul (by decide +kernel) k), ⟨8, o_iload_ok (fun h k => q_iload_ni (k0 := 2) (by decide +kernel) rfl h k) (fun h k => q_iload_ns (k0 := 2) (by decide +kernel) rfl h k), ⟨9, o_bin_ok (fun k => q_iadd (by decide +kernel) k), ⟨10, o_push_ok (fun k => q_iconst (n := 3) (by decide +kernel) (by decide +kernel) k), ⟨11, o_bin_ok (fun k => q_imul (by decide +kernel) k), ⟨12, o_iload_ok (fun h k => q_iload_ni (k0 := 3) (by decide +kernel) rfl h k) (fun h k => q_iload_ns (k0 := 3) (by decide +kernel) rfl h k), ⟨13, o_bin_ok (fun k => q_iadd (by decide +kernel) k), ⟨0, o_iret_ok (by decide +kernel) rfl rfl rfl, trivial⟩⟩⟩⟩⟩⟩⟩⟩⟩⟩⟩⟩⟩⟩
noncomputable def b_10 : List (List q_Op) := [b_10_0]
theorem a_10 (E : q_E) (hL : E.2.2.2.2 = 5) : q_okB E t_10 q_mt m_10 0 b_10 := ⟨k_10_0 E hL, trivial⟩
theorem h_10 (E : q_E) (hL : E.2.2.2.2 = 5) : q_okM E q_mt m_10 (4, b_10) := ⟨t_10, rfl, rfl, q_okB_all (a_10 E hL), by decide +kernel⟩
def t_11 (b : Nat) : Nat := [0, 17, 18].getD b 0
noncomputable def b_11_0 : List q_Op := [o_iload 1, o_push (.inl 2), o_cS 2 2 0 0 0 0, o_if_eq 1, o_aload 0, o_getR 7 2, o_iload 1, o_iald, o_goto 2]
theorem k_11_0 (E : q_E) (hL : E.2.2.2.2 = 5) : q_okC E t_11 q_mt m_11 0 b_11_0 := ⟨1, o_iload_ok (fun h k => q_iload_ni (k0 := 1) (by decide +kernel) rfl h k) (fun h k => q_iload_ns (k0 := 1) (by decide +kernel) rfl h k), ⟨2, o_push_ok (fun k => q_iconst (n := 2) (by decide +kernel) (by decide +kernel) k), ⟨5, o_cSN2_ok e_2 (by decide +kernel) ⟨by decide +kernel, s_2⟩ w_335 w_308 rfl rfl rfl rfl, ⟨8, o_if_eq_ok (off := 12) (by decide +kernel) (by decide +kernel), ⟨9, o_aload_ok (fun h k => q_aload_nr (k0 := 0) (by decide +kernel) rfl h k) (fun h k => q_aload_nq (k0 := 0) (by decide +kernel) rfl h k), ⟨12, o_getR_ok (ci := 2) (by decide +kernel) (f_TreePasses_Program_18 m_11 rfl) rfl, ⟨13, o_iload_ok (fun h k => q_iload_ni (k0 := 1) (by decide +kernel) rfl h k) (fun h k => q_iload_ns (k0 := 1) (by decide +kernel) rfl h k), ⟨14, o_iald_ok hL (by decide +kernel), ⟨0, o_goto_ok (off := 4) (by decide +kernel) (by decide +kernel), trivial⟩⟩⟩⟩⟩⟩⟩⟩⟩
noncomputable def b_11_1 : List q_Op := [o_push (.inl 0), o_fall 2]
theorem k_11_1 (E : q_E) (hL : E.2.2.2.2 = 5) : q_okC E t_11 q_mt m_11 17 b_11_1 := ⟨18, o_push_ok (fun k => q_iconst (n := 0) (by decide +kernel) (by decide +kernel) k), ⟨0, o_fall_ok rfl, trivial⟩⟩
noncomputable def b_11_2 : List q_Op := [o_iret 0 0]
theorem k_11_2 (E : q_E) (hL : E.2.2.2.2 = 5) : q_okC E t_11 q_mt m_11 18 b_11_2 := ⟨0, o_iret_ok (by decide +kernel) rfl rfl rfl, trivial⟩
noncomputable def b_11 : List (List q_Op) := [b_11_0, b_11_1, b_11_2]
theorem a_11 (E : q_E) (hL : E.2.2.2.2 = 5) : q_okB E t_11 q_mt m_11 0 b_11 := ⟨k_11_0 E hL, k_11_1 E hL, k_11_2 E hL, trivial⟩
theorem h_11 (E : q_E) (hL : E.2.2.2.2 = 5) : q_okM E q_mt m_11 (2, b_11) := ⟨t_11, rfl, rfl, q_okB_all (a_11 E hL), by decide +kernel⟩
def t_12 (b : Nat) : Nat := [0, 40, 41, 79, 71].getD b 0
noncomputable def b_12_0 : List q_Op := [o_aload 0, o_iload 1, o_push (.inl 0), o_cV 7 6 2 0 0 0 0, o_istore 3, o_iload 3, o_aload 0, o_iload 1, o_push (.inl 1), o_cV 7 6 2 0 0 0 0, o_aload 0, o_iload 1, o_push (.inl 2), o_cV 7 6 2 0 0 0 0, o_iload 2, o_cS 10 4 0 0 0 0, o_istore 4, o_aload 0, o_iload 3, o_cV 7 11 1 0 0 0 0, o_push (.inl 1), o_bin f_iand, o_if_eq 1, o_push (.inl 1), o_goto 2]
theorem k_12_0 (E : q_E) (hL : E.2.2.2.2 = 5) : q_okC E t_12 q_mt m_12 0 b_12_0 := ⟨1, o_aload_ok (fun h k => q_aload_nr (k0 := 0) (by decide +kernel) rfl h k) (fun h k => q_aload_nq (k0 := 0) (by decide +kernel) rfl h k), ⟨2, o_iload_ok (fun h k => q_iload_ni (k0 := 1) (by decide +kernel) rfl h k) (fun h k => q_iload_ns (k0 := 1) (by decide +kernel) rfl h k), ⟨3, o_push_ok (fun k => q_iconst (n := 0) (by decide +kernel) (by decide +kernel) k), ⟨6, o_cV2_ok (ci := 2) e_6 (by decide +kernel) ⟨by decide +kernel, s_6⟩ w_380 ⟨w_381, w_382⟩ (fun q hq => by cases hq; rfl) rfl rfl rfl rfl, ⟨7, o_istore_ok (fun k => q_istore_ni (k0 := 3) (by decide +kernel) rfl (by decide) k) (fun k => q_istore_ns (k0 := 3) (by decide +kernel) rfl (by decide) k), ⟨8, o_iload_ok (fun h k => q_iload_ni (k0 := 3) (by decide +kernel) rfl h k) (fun h k => q_iload_ns (k0 := 3) (by decide +kernel) rfl h k), ⟨9, o_aload_ok (fun h k => q_aload_nr (k0 := 0) (by decide +kernel) rfl h k) (fun h k => q_aload_nq (k0 := 0) (by decide +kernel) rfl h k), ⟨10, o_iload_ok (fun h k => q_iload_ni (k0 := 1) (by decide +kernel) rfl h k) (fun h k => q_iload_ns (k0 := 1) (by decide +kernel) rfl h k), ⟨11, o_push_ok (fun k => q_iconst (n := 1) (by decide +kernel) (by decide +kernel) k), ⟨14, o_cV2_ok (ci := 2) e_6 (by decide +kernel) ⟨by decide +kernel, s_6⟩ w_380 ⟨w_381, w_382⟩ (fun q hq => by cases hq; rfl) rfl rfl rfl rfl, ⟨15, o_aload_ok (fun h k => q_aload_nr (k0 := 0) (by decide +kernel) rfl h k) (fun h k => q_aload_nq (k0 := 0) (by decide +kernel) rfl h k), ⟨16, o_iload_ok (fun h k => q_iload_ni (k0 := 1) (by decide +kernel) rfl h k) (fun h k => q_iload_ns (k0 := 1) (by decide +kernel) rfl h k), ⟨17, o_push_ok (fun k => q_iconst (n := 2) (by decide +kernel) (by decide +kernel) k), ⟨20, o_cV2_ok (ci := 2) e_6 (by decide +kernel) ⟨by decide +kernel, s_6⟩ w_380 ⟨w_381, w_382⟩ (fun q hq => by cases hq; rfl) rfl rfl rfl rfl, ⟨21, o_iload_ok (fun h k => q_iload_ni (k0 := 2) (by decide +kernel) rfl h k) (fun h k => q_iload_ns (k0 := 2) (by decide +kernel) rfl h k), ⟨24, o_cS2_ok e_10 (by decide +kernel) ⟨by decide +kernel, s_10⟩ w_388 w_389 rfl rfl rfl rfl, ⟨26, o_istore_ok (fun k => q_istorei (by decide +kernel) (by decide) k) (fun k => q_istores (by decide +kernel) (by decide) k), ⟨27, o_aload_ok (fun h k => q_aload_nr (k0 := 0) (by decide +kernel) rfl h k) (fun h k => q_aload_nq (k0 := 0) (by decide +kernel) rfl h k), ⟨28, o_iload_ok (fun h k => q_iload_ni (k0 := 3) (by decide +kernel) rfl h k) (fun h k => q_iload_ns (k0 := 3) (by decide +kernel) rfl h k), ⟨31, o_cV2_ok (ci := 2) e_11 (by decide +kernel) ⟨by decide +kernel, s_11⟩ w_391 ⟨w_392, w_393⟩ (fun q hq => by cases hq; rfl) rfl rfl rfl rfl, ⟨32, o_push_ok (fun k => q_iconst (n := 1) (by decide +kernel) (by decide +kernel) k), ⟨33, o_bin_ok (fun k => q_iand (by decide +kernel) k), ⟨36, o_if_eq_ok (off := 7) (by decide +kernel) (by decide +kernel), ⟨37, o_push_ok (fun k => q_iconst (n := 1) (by decide +kernel) (by decide +kernel) k), ⟨0, o_goto_ok (off := 4) (by decide +kernel) (by decide +kernel), trivial⟩⟩⟩⟩⟩⟩⟩⟩⟩⟩⟩⟩⟩⟩⟩⟩⟩⟩⟩⟩⟩⟩⟩⟩⟩
noncomputable def b_12_1 : List q_Op := [o_push (.inl 0), o_fall 2]
theorem k_12_1 (E : q_E) (hL : E.2.2.2.2 = 5) : q_okC E t_12 q_mt m_12 40 b_12_1 := ⟨41, o_push_ok (fun k => q_iconst (n := 0) (by decide +kernel) (by decide +kernel) k), ⟨0, o_fall_ok rfl, trivial⟩⟩
noncomputable def b_12_2 : List q_Op := [o_istore 5, o_iload 4, o_aload 0, o_getR 7 5, o_len, o_cS 2 2 0 0 0 0, o_if_eq 3, o_aload 0, o_getR 7 5, o_iload 4, o_iald, o_if_lt 4, o_iload 5, o_if_eq 3, o_fall 4]
theorem k_12_2 (E : q_E) (hL : E.2.2.2.2 = 5) : q_okC E t_12 q_mt m_12 41 b_12_2 := ⟨43, o_istore_ok (fun k => q_istorei (by decide +kernel) (by decide) k) (fun k => q_istores (by decide +kernel) (by decide) k), ⟨45, o_iload_ok (fun h k => q_iloadi (by decide +kernel) h k) (fun h k => q_iloads (by decide +kernel) h k), ⟨46, o_aload_ok (fun h k => q_aload_nr (k0 := 0) (by decide +kernel) rfl h k) (fun h k => q_aload_nq (k0 := 0) (by decide +kernel) rfl h k), ⟨49, o_getR_ok (ci := 2) (by decide +kernel) (f_TreePasses_Program_27 m_12 rfl) rfl, ⟨50, o_len_ok hL (by decide +kernel), ⟨53, o_cSN2_ok e_2 (by decide +kernel) ⟨by decide +kernel, s_2⟩ w_335 w_308 rfl rfl rfl rfl, ⟨56, o_if_eq_ok (off := 26) (by decide +kernel) (by decide +kernel), ⟨57, o_aload_ok (fun h k => q_aload_nr (k0 := 0) (by decide +kernel) rfl h k) (fun h k => q_aload_nq (k0 := 0) (by decide +kernel) rfl h k), ⟨60, o_getR_ok (ci := 2) (by decide +kernel) (f_TreePasses_Program_27 m_12 rfl) rfl, ⟨62, o_iload_ok (fun h k => q_iloadi (by decide +kernel) h k) (fun h k => q_iloads (by decide +kernel) h k), ⟨63, o_iald_ok hL (by decide +kernel), ⟨66, o_if_lt_ok (off := 8) (by decide +kernel) (by decide +kernel), ⟨68, o_iload_ok (fun h k => q_iloadi (by decide +kernel) h k) (fun h k => q_iloads (by decide +kernel) h k), ⟨71, o_if_eq_ok (off := 11) (by decide +kernel) (by decide +kernel), ⟨0, o_fall_ok rfl, trivial⟩⟩⟩⟩⟩⟩⟩⟩⟩⟩⟩⟩⟩⟩⟩
noncomputable def b_12_3 : List q_Op := [o_vret 0 0]
theorem k_12_3 (E : q_E) (hL : E.2.2.2.2 = 5) : q_okC E t_12 q_mt m_12 79 b_12_3 := ⟨0, o_vret_ok (by decide +kernel) rfl rfl rfl, trivial⟩
noncomputable def b_12_4 : List q_Op := [o_aload 0, o_getR 7 5, o_iload 4, o_iload 1, o_ast 0 18446744073709551616, o_fall 3]
theorem k_12_4 (E : q_E) (hL : E.2.2.2.2 = 5) : q_okC E t_12 q_mt m_12 71 b_12_4 := ⟨72, o_aload_ok (fun h k => q_aload_nr (k0 := 0) (by decide +kernel) rfl h k) (fun h k => q_aload_nq (k0 := 0) (by decide +kernel) rfl h k), ⟨75, o_getR_ok (ci := 2) (by decide +kernel) (f_TreePasses_Program_27 m_12 rfl) rfl, ⟨77, o_iload_ok (fun h k => q_iloadi (by decide +kernel) h k) (fun h k => q_iloads (by decide +kernel) h k), ⟨78, o_iload_ok (fun h k => q_iload_ni (k0 := 1) (by decide +kernel) rfl h k) (fun h k => q_iload_ns (k0 := 1) (by decide +kernel) rfl h k), ⟨79, o_ast_ok (Or.inl ⟨rfl, rfl, rfl⟩) (by decide +kernel), ⟨0, o_fall_ok rfl, trivial⟩⟩⟩⟩⟩⟩
noncomputable def b_12 : List (List q_Op) := [b_12_0, b_12_1, b_12_2, b_12_3, b_12_4]
theorem a_12 (E : q_E) (hL : E.2.2.2.2 = 5) : q_okB E t_12 q_mt m_12 0 b_12 := ⟨k_12_0 E hL, k_12_1 E hL, k_12_2 E hL, k_12_3 E hL, k_12_4 E hL, trivial⟩
theorem h_12 (E : q_E) (hL : E.2.2.2.2 = 5) : q_okM E q_mt m_12 (6, b_12) := ⟨t_12, rfl, rfl, q_okB_all (a_12 E hL), by decide +kernel⟩
def t_13 (b : Nat) : Nat := [0, 45, 76, 83].getD b 0
noncomputable def b_13_0 : List q_Op := [o_aload 0, o_cV 8 4 0 0 0 0 0, o_istore 3, o_iload 3, o_push (.inl 48), o_icmp_lt 1, o_iload 3, o_push (.inl 57), o_icmp_gt 1, o_iload 1, o_cS 7 1 0 0 0 0, o_if_le 1, o_aload 0, o_push (.inl 3), o_cV 8 8 1 0 0 0 0, o_istore 4, o_push (.inl 10), o_push (.inl 2), o_iload 4, o_bin f_imul, o_bin f_iadd, o_aload 0, o_iload 1, o_cV 8 26 1 0 0 0 0, o_bin f_iadd, o_iret 0 0]
theorem k_13_0 (E : q_E) (hL : E.2.2.2.2 = 5) : q_okC E t_13 q_mt m_13 0 b_13_0 := ⟨1, o_aload_ok (fun h k => q_aload_nr (k0 := 0) (by decide +kernel) rfl h k) (fun h k => q_aload_nq (k0 := 0) (by decide +kernel) rfl h k), ⟨4, o_cV2_ok (ci := 3) e_4 (by decide +kernel) ⟨by decide +kernel, s_4⟩ w_295 ⟨w_297, wp_2⟩ (fun q hq => by cases hq; rfl) rfl rfl rfl rfl, ⟨5, o_istore_ok (fun k => q_istore_ni (k0 := 3) (by decide +kernel) rfl (by decide) k) (fun k => q_istore_ns (k0 := 3) (by decide +kernel) rfl (by decide) k), ⟨6, o_iload_ok (fun h k => q_iload_ni (k0 := 3) (by decide +kernel) rfl h k) (fun h k => q_iload_ns (k0 := 3) (by decide +kernel) rfl h k), ⟨8, o_push_ok (fun k => q_bipush (n := 48) (by decide +kernel) (by decide +kernel) k), ⟨11, o_icmp_lt_ok (off := 37) (by decide +kernel) (by decide +kernel), ⟨12, o_iload_ok (fun h k => q_iload_ni (k0 := 3) (by decide +kernel) rfl h k) (fun h k => q_iload_ns (k0 := 3) (by decide +kernel) rfl h k), ⟨14, o_push_ok (fun k => q_bipush (n := 57) (by decide +kernel) (by decide +kernel) k), ⟨17, o_icmp_gt_ok (off := 31) (by decide +kernel) (by decide +kernel), ⟨18, o_iload_ok (fun h k => q_iload_ni (k0 := 1) (by decide +kernel) rfl h k) (fun h k => q_iload_ns (k0 := 1) (by decide +kernel) rfl h k), ⟨21, o_cSN2_ok e_7 (by decide +kernel) ⟨by decide +kernel, s_7⟩ w_322 w_323 rfl rfl rfl rfl, ⟨24, o_if_le_ok (off := 24) (by decide +kernel) (by decide +kernel), ⟨25, o_aload_ok (fun h k => q_aload_nr (k0 := 0) (by decide +kernel) rfl h k) (fun h k => q_aload_nq (k0 := 0) (by decide +kernel) rfl h k), ⟨26, o_push_ok (fun k => q_iconst (n := 3) (by decide +kernel) (by decide +kernel) k), ⟨29, o_cV2_ok (ci := 3) e_8 (by decide +kernel) ⟨by decide +kernel, s_8⟩ w_303 ⟨w_305, wp_4⟩ (fun q hq => by cases hq; rfl) rfl rfl rfl rfl, ⟨31, o_istore_ok (fun k => q_istorei (by decide +kernel) (by decide) k) (fun k => q_istores (by decide +kernel) (by decide) k), ⟨33, o_push_ok (fun k => q_bipush (n := 10) (by decide +kernel) (by decide +kernel) k), ⟨34, o_push_ok (fun k => q_iconst (n := 2) (by decide +kernel) (by decide +kernel) k), ⟨36, o_iload_ok (fun h k => q_iloadi (by decide +kernel) h k) (fun h k => q_iloads (by decide +kernel) h k), ⟨37, o_bin_ok (fun k => q_imul (by decide +kernel) k), ⟨38, o_bin_ok (fun k => q_iadd (by decide +kernel) k), ⟨39, o_aload_ok (fun h k => q_aload_nr (k0 := 0) (by decide +kernel) rfl h k) (fun h k => q_aload_nq (k0 := 0) (by decide +kernel) rfl h k), ⟨40, o_iload_ok (fun h k => q_iload_ni (k0 := 1) (by decide +kernel) rfl h k) (fun h k => q_iload_ns (k0 := 1) (by decide +kernel) rfl h k), ⟨43, o_cV2_ok (ci := 3) e_26 (by decide +kernel) ⟨by decide +kernel, s_26⟩ w_327 ⟨w_329, wp_8⟩ (fun q hq => by cases hq; rfl) rfl rfl rfl rfl, ⟨44, o_bin_ok (fun k => q_iadd (by decide +kernel) k), ⟨0, o_iret_ok (by decide +kernel) rfl rfl rfl, trivial⟩⟩⟩⟩⟩⟩⟩⟩⟩⟩⟩⟩⟩⟩⟩⟩⟩⟩⟩⟩⟩⟩⟩⟩⟩⟩
noncomputable def b_13_1 : List q_Op := [o_iload 3, o_push (.inl 97), o_bin f_isub, o_istore 4, o_aload 0, o_getI 8 4, o_if_ne 2, o_iload 4, o_push (.inl 5), o_cS 2 2 0 0 0 0, o_if_eq 2, o_iload 4, o_cS 7 1 0 0 0 0, o_iload 2, o_icmp_le 3, o_fall 2]
theorem k_13_1 (E : q_E) (hL : E.2.2.2.2 = 5) : q_okC E t_13 q_mt m_13 45 b_13_1 := ⟨46, o_iload_ok (fun h k => q_iload_ni (k0 := 3) (by decide +kernel) rfl h k) (fun h k => q_iload_ns (k0 := 3) (by decide +kernel) rfl h k), ⟨48, o_push_ok (fun k => q_bipush (n := 97) (by decide +kernel) (by decide +kernel) k), ⟨49, o_bin_ok (fun k => q_isub (by decide +kernel) k), ⟨51, o_istore_ok (fun k => q_istorei (by decide +kernel) (by decide) k) (fun k => q_istores (by decide +kernel) (by decide) k), ⟨52, o_aload_ok (fun h k => q_aload_nr (k0 := 0) (by decide +kernel) rfl h k) (fun h k => q_aload_nq (k0 := 0) (by decide +kernel) rfl h k), ⟨55, o_getI_ok (ci := 3) (by decide +kernel) (f_TreePasses_Scroll_48 m_13 rfl) rfl, ⟨58, o_if_ne_ok (off := 21) (by decide +kernel) (by decide +kernel), ⟨60, o_iload_ok (fun h k => q_iloadi (by decide +kernel) h k) (fun h k => q_iloads (by decide +kernel) h k), ⟨61, o_push_ok (fun k => q_iconst (n := 5) (by decide +kernel) (by decide +kernel) k), ⟨64, o_cSN2_ok e_2 (by decide +kernel) ⟨by decide +kernel, s_2⟩ w_307 w_308 rfl rfl rfl rfl, ⟨67, o_if_eq_ok (off := 12) (by decide +kernel) (by decide +kernel), ⟨69, o_iload_ok (fun h k => q_iloadi (by decide +kernel) h k) (fun h k => q_iloads (by decide +kernel) h k), ⟨72, o_cSN2_ok e_7 (by decide +kernel) ⟨by decide +kernel, s_7⟩ w_322 w_323 rfl rfl rfl rfl, ⟨73, o_iload_ok (fun h k => q_iload_ni (k0 := 2) (by decide +kernel) rfl h k) (fun h k => q_iload_ns (k0 := 2) (by decide +kernel) rfl h k), ⟨76, o_icmp_le_ok (off := 10) (by decide +kernel) (by decide +kernel), ⟨0, o_fall_ok rfl, trivial⟩⟩⟩⟩⟩⟩⟩⟩⟩⟩⟩⟩⟩⟩⟩⟩
noncomputable def b_13_2 : List q_Op := [o_aload 0, o_push (.inl 1), o_putI 8 4 2, o_push (.inl 0), o_iret 0 0]
theorem k_13_2 (E : q_E) (hL : E.2.2.2.2 = 5) : q_okC E t_13 q_mt m_13 76 b_13_2 := ⟨77, o_aload_ok (fun h k => q_aload_nr (k0 := 0) (by decide +kernel) rfl h k) (fun h k => q_aload_nq (k0 := 0) (by decide +kernel) rfl h k), ⟨78, o_push_ok (fun k => q_iconst (n := 1) (by decide +kernel) (by decide +kernel) k), ⟨81, o_putI_ok (ci := 3) (by decide +kernel) (f_TreePasses_Scroll_48 m_13 rfl) (fun q hq => by cases hq; exact Or.inl rfl) (Or.inr ⟨rfl, rfl⟩), ⟨82, o_push_ok (fun k => q_iconst (n := 0) (by decide +kernel) (by decide +kernel) k), ⟨0, o_iret_ok (by decide +kernel) rfl rfl rfl, trivial⟩⟩⟩⟩⟩
noncomputable def b_13_3 : List q_Op := [o_aload 0, o_dup, o_getI 8 3, o_push (.inl 1), o_bin f_iadd, o_putI 8 3 18446744073709551616, o_iload 4, o_iret 0 0]
theorem k_13_3 (E : q_E) (hL : E.2.2.2.2 = 5) : q_okC E t_13 q_mt m_13 83 b_13_3 := ⟨84, o_aload_ok (fun h k => q_aload_nr (k0 := 0) (by decide +kernel) rfl h k) (fun h k => q_aload_nq (k0 := 0) (by decide +kernel) rfl h k), ⟨85, o_dup_ok (by decide +kernel), ⟨88, o_getI_ok (ci := 3) (by decide +kernel) (f_TreePasses_Scroll_37 m_13 rfl) rfl, ⟨89, o_push_ok (fun k => q_iconst (n := 1) (by decide +kernel) (by decide +kernel) k), ⟨90, o_bin_ok (fun k => q_iadd (by decide +kernel) k), ⟨93, o_putI_ok (ci := 3) (by decide +kernel) (f_TreePasses_Scroll_37 m_13 rfl) (fun q hq => by cases hq; exact Or.inl rfl) (Or.inl ⟨rfl, rfl⟩), ⟨95, o_iload_ok (fun h k => q_iloadi (by decide +kernel) h k) (fun h k => q_iloads (by decide +kernel) h k), ⟨0, o_iret_ok (by decide +kernel) rfl rfl rfl, trivial⟩⟩⟩⟩⟩⟩⟩⟩
noncomputable def b_13 : List (List q_Op) := [b_13_0, b_13_1, b_13_2, b_13_3]
theorem a_13 (E : q_E) (hL : E.2.2.2.2 = 5) : q_okB E t_13 q_mt m_13 0 b_13 := ⟨k_13_0 E hL, k_13_1 E hL, k_13_2 E hL, k_13_3 E hL, trivial⟩
theorem h_13 (E : q_E) (hL : E.2.2.2.2 = 5) : q_okM E q_mt m_13 (5, b_13) := ⟨t_13, rfl, rfl, q_okB_all (a_13 E hL), by decide +kernel⟩
def t_14 (b : Nat) : Nat := [0, 88, 171, 70, 106, 52, 176, 141, 145, 146].getD b 0
noncomputable def b_14_0 : List q_Op := [o_aload 0, o_cV 8 4 0 0 0 0 0, o_tsw 2147483757 8 2 [1, 2, 2, 3, 2, 4, 2, 5]]
theorem k_14_0 (E : q_E) (hL : E.2.2.2.2 = 5) : q_okC E t_14 q_mt m_14 0 b_14_0 := ⟨1, o_aload_ok (fun h k => q_aload_nr (k0 := 0) (by decide +kernel) rfl h k) (fun h k => q_aload_nq (k0 := 0) (by decide +kernel) rfl h k), ⟨4, o_cV2_ok (ci := 3) e_4 (by decide +kernel) ⟨by decide +kernel, s_4⟩ w_295 ⟨w_297, wp_2⟩ (fun q hq => by cases hq; rfl) rfl rfl rfl rfl, ⟨0, o_tsw_ok (dflt := 167) (l0 := 109) (h0 := 116) (offs := #[84, 167, 167, 66, 167, 102, 167, 48]) (len := 48) (by decide +kernel) (by decide) (by decide) (by decide +kernel) (q_tsw (by decide +kernel)), trivial⟩⟩⟩
noncomputable def b_14_1 : List q_Op := [o_aload 0, o_dup, o_getI 8 3, o_push (.inl 1), o_bin f_iadd, o_putI 8 3 18446744073709551616, o_aload 0, o_aload 1, o_cV 8 28 1 0 0 0 0, o_goto 6]
theorem k_14_1 (E : q_E) (hL : E.2.2.2.2 = 5) : q_okC E t_14 q_mt m_14 88 b_14_1 := ⟨89, o_aload_ok (fun h k => q_aload_nr (k0 := 0) (by decide +kernel) rfl h k) (fun h k => q_aload_nq (k0 := 0) (by decide +kernel) rfl h k), ⟨90, o_dup_ok (by decide +kernel), ⟨93, o_getI_ok (ci := 3) (by decide +kernel) (f_TreePasses_Scroll_37 m_14 rfl) rfl, ⟨94, o_push_ok (fun k => q_iconst (n := 1) (by decide +kernel) (by decide +kernel) k), ⟨95, o_bin_ok (fun k => q_iadd (by decide +kernel) k), ⟨98, o_putI_ok (ci := 3) (by decide +kernel) (f_TreePasses_Scroll_37 m_14 rfl) (fun q hq => by cases hq; exact Or.inl rfl) (Or.inl ⟨rfl, rfl⟩), ⟨99, o_aload_ok (fun h k => q_aload_nr (k0 := 0) (by decide +kernel) rfl h k) (fun h k => q_aload_nq (k0 := 0) (by decide +kernel) rfl h k), ⟨100, o_aload_ok (fun h k => q_aload_nr (k0 := 1) (by decide +kernel) rfl h k) (fun h k => q_aload_nq (k0 := 1) (by decide +kernel) rfl h k), ⟨103, o_cV2_ok (ci := 3) e_28 (by decide +kernel) ⟨by decide +kernel, s_28⟩ w_347 ⟨w_349, wp_10⟩ (fun q hq => by cases hq; rfl) rfl rfl rfl rfl, ⟨0, o_goto_ok (off := 73) (by decide +kernel) (by decide +kernel), trivial⟩⟩⟩⟩⟩⟩⟩⟩⟩⟩
noncomputable def b_14_2 : List q_Op := [o_aload 0, o_push (.inl 1), o_putI 8 4 2, o_fall 6]
theorem k_14_2 (E : q_E) (hL : E.2.2.2.2 = 5) : q_okC E t_14 q_mt m_14 171 b_14_2 := ⟨172, o_aload_ok (fun h k => q_aload_nr (k0 := 0) (by decide +kernel) rfl h k) (fun h k => q_aload_nq (k0 := 0) (by decide +kernel) rfl h k), ⟨173, o_push_ok (fun k => q_iconst (n := 1) (by decide +kernel) (by decide +kernel) k), ⟨176, o_putI_ok (ci := 3) (by decide +kernel) (f_TreePasses_Scroll_48 m_14 rfl) (fun q hq => by cases hq; exact Or.inl rfl) (Or.inr ⟨rfl, rfl⟩), ⟨0, o_fall_ok rfl, trivial⟩⟩⟩⟩
noncomputable def b_14_3 : List q_Op := [o_aload 0, o_dup, o_getI 8 3, o_push (.inl 1), o_bin f_iadd, o_putI 8 3 18446744073709551616, o_aload 0, o_aload 1, o_cV 8 120 1 0 0 0 0, o_goto 6]
theorem k_14_3 (E : q_E) (hL : E.2.2.2.2 = 5) : q_okC E t_14 q_mt m_14 70 b_14_3 := ⟨71, o_aload_ok (fun h k => q_aload_nr (k0 := 0) (by decide +kernel) rfl h k) (fun h k => q_aload_nq (k0 := 0) (by decide +kernel) rfl h k), ⟨72, o_dup_ok (by decide +kernel), ⟨75, o_getI_ok (ci := 3) (by decide +kernel) (f_TreePasses_Scroll_37 m_14 rfl) rfl, ⟨76, o_push_ok (fun k => q_iconst (n := 1) (by decide +kernel) (by decide +kernel) k), ⟨77, o_bin_ok (fun k => q_iadd (by decide +kernel) k), ⟨80, o_putI_ok (ci := 3) (by decide +kernel) (f_TreePasses_Scroll_37 m_14 rfl) (fun q hq => by cases hq; exact Or.inl rfl) (Or.inl ⟨rfl, rfl⟩), ⟨81, o_aload_ok (fun h k => q_aload_nr (k0 := 0) (by decide +kernel) rfl h k) (fun h k => q_aload_nq (k0 := 0) (by decide +kernel) rfl h k), ⟨82, o_aload_ok (fun h k => q_aload_nr (k0 := 1) (by decide +kernel) rfl h k) (fun h k => q_aload_nq (k0 := 1) (by decide +kernel) rfl h k), ⟨85, o_cV2_ok (ci := 3) e_120 (by decide +kernel) ⟨by decide +kernel, s_120⟩ w_339 ⟨w_341, wp_9⟩ (fun q hq => by cases hq; rfl) rfl rfl rfl rfl, ⟨0, o_goto_ok (off := 91) (by decide +kernel) (by decide +kernel), trivial⟩⟩⟩⟩⟩⟩⟩⟩⟩⟩
noncomputable def b_14_4 : List q_Op := [o_aload 0, o_dup, o_getI 8 3, o_push (.inl 1), o_bin f_iadd, o_putI 8 3 18446744073709551616, o_aload 0, o_aload 0, o_getR 8 1, o_cV 8 19 1 0 0 0 0, o_aload 0, o_aload 0, o_getI 8 4, o_if_ne 7, o_aload 1, o_getI 7 6, o_push (.inl 16), o_icmp_lt 8, o_fall 7]
theorem k_14_4 (E : q_E) (hL : E.2.2.2.2 = 5) : q_okC E t_14 q_mt m_14 106 b_14_4 := ⟨107, o_aload_ok (fun h k => q_aload_nr (k0 := 0) (by decide +kernel) rfl h k) (fun h k => q_aload_nq (k0 := 0) (by decide +kernel) rfl h k), ⟨108, o_dup_ok (by decide +kernel), ⟨111, o_getI_ok (ci := 3) (by decide +kernel) (f_TreePasses_Scroll_37 m_14 rfl) rfl, ⟨112, o_push_ok (fun k => q_iconst (n := 1) (by decide +kernel) (by decide +kernel) k), ⟨113, o_bin_ok (fun k => q_iadd (by decide +kernel) k), ⟨116, o_putI_ok (ci := 3) (by decide +kernel) (f_TreePasses_Scroll_37 m_14 rfl) (fun q hq => by cases hq; exact Or.inl rfl) (Or.inl ⟨rfl, rfl⟩), ⟨117, o_aload_ok (fun h k => q_aload_nr (k0 := 0) (by decide +kernel) rfl h k) (fun h k => q_aload_nq (k0 := 0) (by decide +kernel) rfl h k), ⟨118, o_aload_ok (fun h k => q_aload_nr (k0 := 0) (by decide +kernel) rfl h k) (fun h k => q_aload_nq (k0 := 0) (by decide +kernel) rfl h k), ⟨121, o_getR_ok (ci := 3) (by decide +kernel) (f_TreePasses_Scroll_21 m_14 rfl) rfl, ⟨124, o_cV2_ok (ci := 3) e_19 (by decide +kernel) ⟨by decide +kernel, s_19⟩ w_364 ⟨w_366, wp_12⟩ (fun q hq => by cases hq; rfl) rfl rfl rfl rfl, ⟨125, o_aload_ok (fun h k => q_aload_nr (k0 := 0) (by decide +kernel) rfl h k) (fun h k => q_aload_nq (k0 := 0) (by decide +kernel) rfl h k), ⟨126, o_aload_ok (fun h k => q_aload_nr (k0 := 0) (by decide +kernel) rfl h k) (fun h k => q_aload_nq (k0 := 0) (by decide +kernel) rfl h k), ⟨129, o_getI_ok (ci := 3) (by decide +kernel) (f_TreePasses_Scroll_48 m_14 rfl) rfl, ⟨132, o_if_ne_ok (off := 12) (by decide +kernel) (by decide +kernel), ⟨133, o_aload_ok (fun h k => q_aload_nr (k0 := 1) (by decide +kernel) rfl h k) (fun h k => q_aload_nq (k0 := 1) (by decide +kernel) rfl h k), ⟨136, o_getI_ok (ci := 2) (by decide +kernel) (f_TreePasses_Scroll_72 m_14 rfl) rfl, ⟨138, o_push_ok (fun k => q_bipush (n := 16) (by decide +kernel) (by decide +kernel) k), ⟨141, o_icmp_lt_ok (off := 7) (by decide +kernel) (by decide +kernel), ⟨0, o_fall_ok rfl, trivial⟩⟩⟩⟩⟩⟩⟩⟩⟩⟩⟩⟩⟩⟩⟩⟩⟩⟩⟩
noncomputable def b_14_5 : List q_Op := [o_aload 0, o_dup, o_getI 8 3, o_push (.inl 1), o_bin f_iadd, o_putI 8 3 18446744073709551616, o_aload 0, o_aload 1, o_cV 8 35 1 0 0 0 0, o_goto 6]
theorem k_14_5 (E : q_E) (hL : E.2.2.2.2 = 5) : q_okC E t_14 q_mt m_14 52 b_14_5 := ⟨53, o_aload_ok (fun h k => q_aload_nr (k0 := 0) (by decide +kernel) rfl h k) (fun h k => q_aload_nq (k0 := 0) (by decide +kernel) rfl h k), ⟨54, o_dup_ok (by decide +kernel), ⟨57, o_getI_ok (ci := 3) (by decide +kernel) (f_TreePasses_Scroll_37 m_14 rfl) rfl, ⟨58, o_push_ok (fun k => q_iconst (n := 1) (by decide +kernel) (by decide +kernel) k), ⟨59, o_bin_ok (fun k => q_iadd (by decide +kernel) k), ⟨62, o_putI_ok (ci := 3) (by decide +kernel) (f_TreePasses_Scroll_37 m_14 rfl) (fun q hq => by cases hq; exact Or.inl rfl) (Or.inl ⟨rfl, rfl⟩), ⟨63, o_aload_ok (fun h k => q_aload_nr (k0 := 0) (by decide +kernel) rfl h k) (fun h k => q_aload_nq (k0 := 0) (by decide +kernel) rfl h k), ⟨64, o_aload_ok (fun h k => q_aload_nr (k0 := 1) (by decide +kernel) rfl h k) (fun h k => q_aload_nq (k0 := 1) (by decide +kernel) rfl h k), ⟨67, o_cV2_ok (ci := 3) e_35 (by decide +kernel) ⟨by decide +kernel, s_35⟩ w_299 ⟨w_301, wp_3⟩ (fun q hq => by cases hq; rfl) rfl rfl rfl rfl, ⟨0, o_goto_ok (off := 109) (by decide +kernel) (by decide +kernel), trivial⟩⟩⟩⟩⟩⟩⟩⟩⟩⟩
noncomputable def b_14_6 : List q_Op := [o_vret 0 0]
theorem k_14_6 (E : q_E) (hL : E.2.2.2.2 = 5) : q_okC E t_14 q_mt m_14 176 b_14_6 := ⟨0, o_vret_ok (by decide +kernel) rfl rfl rfl, trivial⟩
noncomputable def b_14_7 : List q_Op := [o_push (.inl 1), o_goto 9]
theorem k_14_7 (E : q_E) (hL : E.2.2.2.2 = 5) : q_okC E t_14 q_mt m_14 141 b_14_7 := ⟨142, o_push_ok (fun k => q_iconst (n := 1) (by decide +kernel) (by decide +kernel) k), ⟨0, o_goto_ok (off := 4) (by decide +kernel) (by decide +kernel), trivial⟩⟩
noncomputable def b_14_8 : List q_Op := [o_push (.inl 0), o_fall 9]
theorem k_14_8 (E : q_E) (hL : E.2.2.2.2 = 5) : q_okC E t_14 q_mt m_14 145 b_14_8 := ⟨146, o_push_ok (fun k => q_iconst (n := 0) (by decide +kernel) (by decide +kernel) k), ⟨0, o_fall_ok rfl, trivial⟩⟩
noncomputable def b_14_9 : List q_Op := [o_putI 8 4 2, o_aload 0, o_getI 8 4, o_if_ne 6, o_aload 1, o_aload 1, o_getI 7 6, o_aload 0, o_getR 8 1, o_cV 7 21 2 0 0 0 0, o_goto 6]
theorem k_14_9 (E : q_E) (hL : E.2.2.2.2 = 5) : q_okC E t_14 q_mt m_14 146 b_14_9 := ⟨149, o_putI_ok (ci := 3) (by decide +kernel) (f_TreePasses_Scroll_48 m_14 rfl) (fun q hq => by cases hq; exact Or.inl rfl) (Or.inr ⟨rfl, rfl⟩), ⟨150, o_aload_ok (fun h k => q_aload_nr (k0 := 0) (by decide +kernel) rfl h k) (fun h k => q_aload_nq (k0 := 0) (by decide +kernel) rfl h k), ⟨153, o_getI_ok (ci := 3) (by decide +kernel) (f_TreePasses_Scroll_48 m_14 rfl) rfl, ⟨156, o_if_ne_ok (off := 23) (by decide +kernel) (by decide +kernel), ⟨157, o_aload_ok (fun h k => q_aload_nr (k0 := 1) (by decide +kernel) rfl h k) (fun h k => q_aload_nq (k0 := 1) (by decide +kernel) rfl h k), ⟨158, o_aload_ok (fun h k => q_aload_nr (k0 := 1) (by decide +kernel) rfl h k) (fun h k => q_aload_nq (k0 := 1) (by decide +kernel) rfl h k), ⟨161, o_getI_ok (ci := 2) (by decide +kernel) (f_TreePasses_Scroll_72 m_14 rfl) rfl, ⟨162, o_aload_ok (fun h k => q_aload_nr (k0 := 0) (by decide +kernel) rfl h k) (fun h k => q_aload_nq (k0 := 0) (by decide +kernel) rfl h k), ⟨165, o_getR_ok (ci := 3) (by decide +kernel) (f_TreePasses_Scroll_21 m_14 rfl) rfl, ⟨168, o_cV2_ok (ci := 2) e_21 (by decide +kernel) ⟨by decide +kernel, s_21⟩ w_372 ⟨w_373, w_374⟩ (fun q hq => by cases hq; rfl) rfl rfl rfl rfl, ⟨0, o_goto_ok (off := 8) (by decide +kernel) (by decide +kernel), trivial⟩⟩⟩⟩⟩⟩⟩⟩⟩⟩⟩
noncomputable def b_14 : List (List q_Op) := [b_14_0, b_14_1, b_14_2, b_14_3, b_14_4, b_14_5, b_14_6, b_14_7, b_14_8, b_14_9]
theorem a_14 (E : q_E) (hL : E.2.2.2.2 = 5) : q_okB E t_14 q_mt m_14 0 b_14 := ⟨k_14_0 E hL, k_14_1 E hL, k_14_2 E hL, k_14_3 E hL, k_14_4 E hL, k_14_5 E hL, k_14_6 E hL, k_14_7 E hL, k_14_8 E hL, k_14_9 E hL, trivial⟩
theorem h_14 (E : q_E) (hL : E.2.2.2.2 = 5) : q_okM E q_mt m_14 (2, b_14) := ⟨t_14, rfl, rfl, q_okB_all (a_14 E hL), by decide +kernel⟩
def t_15 (b : Nat) : Nat := [0, 23, 30].getD b 0
noncomputable def b_15_0 : List q_Op := [o_aload 0, o_cV 8 4 0 0 0 0 0, o_push (.inl 97), o_bin f_isub, o_istore 1, o_aload 0, o_getI 8 4, o_if_ne 1, o_iload 1, o_push (.inl 5), o_cS 2 2 0 0 0 0, o_if_ne 2, o_fall 1]
theorem k_15_0 (E : q_E) (hL : E.2.2.2.2 = 5) : q_okC E t_15 q_mt m_15 0 b_15_0 := ⟨1, o_aload_ok (fun h k => q_aload_nr (k0 := 0) (by decide +kernel) rfl h k) (fun h k => q_aload_nq (k0 := 0) (by decide +kernel) rfl h k), ⟨4, o_cV2_ok (ci := 3) e_4 (by decide +kernel) ⟨by decide +kernel, s_4⟩ w_295 ⟨w_297, wp_2⟩ (fun q hq => by cases hq; rfl) rfl rfl rfl rfl, ⟨6, o_push_ok (fun k => q_bipush (n := 97) (by decide +kernel) (by decide +kernel) k), ⟨7, o_bin_ok (fun k => q_isub (by decide +kernel) k), ⟨8, o_istore_ok (fun k => q_istore_ni (k0 := 1) (by decide +kernel) rfl (by decide) k) (fun k => q_istore_ns (k0 := 1) (by decide +kernel) rfl (by decide) k), ⟨9, o_aload_ok (fun h k => q_aload_nr (k0 := 0) (by decide +kernel) rfl h k) (fun h k => q_aload_nq (k0 := 0) (by decide +kernel) rfl h k), ⟨12, o_getI_ok (ci := 3) (by decide +kernel) (f_TreePasses_Scroll_48 m_15 rfl) rfl, ⟨15, o_if_ne_ok (off := 11) (by decide +kernel) (by decide +kernel), ⟨16, o_iload_ok (fun h k => q_iload_ni (k0 := 1) (by decide +kernel) rfl h k) (fun h k => q_iload_ns (k0 := 1) (by decide +kernel) rfl h k), ⟨17, o_push_ok (fun k => q_iconst (n := 5) (by decide +kernel) (by decide +kernel) k), ⟨20, o_cSN2_ok e_2 (by decide +kernel) ⟨by decide +kernel, s_2⟩ w_307 w_308 rfl rfl rfl rfl, ⟨23, o_if_ne_ok (off := 10) (by decide +kernel) (by decide +kernel), ⟨0, o_fall_ok rfl, trivial⟩⟩⟩⟩⟩⟩⟩⟩⟩⟩⟩⟩⟩
noncomputable def b_15_1 : List q_Op := [o_aload 0, o_push (.inl 1), o_putI 8 4 2, o_push (.inl 0), o_iret 0 0]
theorem k_15_1 (E : q_E) (hL : E.2.2.2.2 = 5) : q_okC E t_15 q_mt m_15 23 b_15_1 := ⟨24, o_aload_ok (fun h k => q_aload_nr (k0 := 0) (by decide +kernel) rfl h k) (fun h k => q_aload_nq (k0 := 0) (by decide +kernel) rfl h k), ⟨25, o_push_ok (fun k => q_iconst (n := 1) (by decide +kernel) (by decide +kernel) k), ⟨28, o_putI_ok (ci := 3) (by decide +kernel) (f_TreePasses_Scroll_48 m_15 rfl) (fun q hq => by cases hq; exact Or.inl rfl) (Or.inr ⟨rfl, rfl⟩), ⟨29, o_push_ok (fun k => q_iconst (n := 0) (by decide +kernel) (by decide +kernel) k), ⟨0, o_iret_ok (by decide +kernel) rfl rfl rfl, trivial⟩⟩⟩⟩⟩
noncomputable def b_15_2 : List q_Op := [o_aload 0, o_dup, o_getI 8 3, o_push (.inl 1), o_bin f_iadd, o_putI 8 3 18446744073709551616, o_iload 1, o_iret 0 0]
theorem k_15_2 (E : q_E) (hL : E.2.2.2.2 = 5) : q_okC E t_15 q_mt m_15 30 b_15_2 := ⟨31, o_aload_ok (fun h k => q_aload_nr (k0 := 0) (by decide +kernel) rfl h k) (fun h k => q_aload_nq (k0 := 0) (by decide +kernel) rfl h k), ⟨32, o_dup_ok (by decide +kernel), ⟨35, o_getI_ok (ci := 3) (by decide +kernel) (f_TreePasses_Scroll_37 m_15 rfl) rfl, ⟨36, o_push_ok (fun k => q_iconst (n := 1) (by decide +kernel) (by decide +kernel) k), ⟨37, o_bin_ok (fun k => q_iadd (by decide +kernel) k), ⟨40, o_putI_ok (ci := 3) (by decide +kernel) (f_TreePasses_Scroll_37 m_15 rfl) (fun q hq => by cases hq; exact Or.inl rfl) (Or.inl ⟨rfl, rfl⟩), ⟨41, o_iload_ok (fun h k => q_iload_ni (k0 := 1) (by decide +kernel) rfl h k) (fun h k => q_iload_ns (k0 := 1) (by decide +kernel) rfl h k), ⟨0, o_iret_ok (by decide +kernel) rfl rfl rfl, trivial⟩⟩⟩⟩⟩⟩⟩⟩
noncomputable def b_15 : List (List q_Op) := [b_15_0, b_15_1, b_15_2]
theorem a_15 (E : q_E) (hL : E.2.2.2.2 = 5) : q_okB E t_15 q_mt m_15 0 b_15 := ⟨k_15_0 E hL, k_15_1 E hL, k_15_2 E hL, trivial⟩
theorem h_15 (E : q_E) (hL : E.2.2.2.2 = 5) : q_okM E q_mt m_15 (2, b_15) := ⟨t_15, rfl, rfl, q_okB_all (a_15 E hL), by decide +kernel⟩
def t_16 (b : Nat) : Nat := [0, 74, 6].getD b 0
noncomputable def b_16_0 : List q_Op := [o_push (.inl 0), o_istore 5, o_push (.inl 1), o_istore 6, o_fall 2]
theorem k_16_0 (E : q_E) (hL : E.2.2.2.2 = 5) : q_okC E t_16 q_mt m_16 0 b_16_0 := ⟨1, o_push_ok (fun k => q_iconst (n := 0) (by decide +kernel) (by decide +kernel) k), ⟨3, o_istore_ok (fun k => q_istorei (by decide +kernel) (by decide) k) (fun k => q_istores (by decide +kernel) (by decide) k), ⟨4, o_push_ok (fun k => q_iconst (n := 1) (by decide +kernel) (by decide +kernel) k), ⟨6, o_istore_ok (fun k => q_istorei (by decide +kernel) (by decide) k) (fun k => q_istores (by decide +kernel) (by decide) k), ⟨0, o_fall_ok rfl, trivial⟩⟩⟩⟩⟩
noncomputable def b_16_1 : List q_Op := [o_iload 5, o_iret 0 0]
theorem k_16_1 (E : q_E) (hL : E.2.2.2.2 = 5) : q_okC E t_16 q_mt m_16 74 b_16_1 := ⟨76, o_iload_ok (fun h k => q_iloadi (by decide +kernel) h k) (fun h k => q_iloads (by decide +kernel) h k), ⟨0, o_iret_ok (by decide +kernel) rfl rfl rfl, trivial⟩⟩
noncomputable def b_16_2 : List q_Op := [o_iload 6, o_if_le 1, o_iload 5, o_iload 3, o_icmp_ge 1, o_iload 2, o_iload 5, o_bin f_iadd, o_aload 1, o_len, o_icmp_ge 1, o_aload 0, o_getI 8 4, o_if_ne 1, o_aload 0, o_iload 4, o_iload 3, o_iload 5, o_bin f_isub, o_iload 6, o_bin f_isub, o_cV 8 13 2 0 0 0 0, o_istore 7, o_aload 1, o_iload 2, o_iload 5, o_bin f_iadd, o_iload 7, o_ast 0 18446744073709551616, o_iload 6, o_iload 7, o_cS 7 1 0 0 0 0, o_push (.inl 1), o_bin f_isub, o_bin f_iadd, o_istore 6, o_iinc 5 1, o_goto 2]
theorem k_16_2 (E : q_E) (hL : E.2.2.2.2 = 5) : q_okC E t_16 q_mt m_16 6 b_16_2 := ⟨8, o_iload_ok (fun h k => q_iloadi (by decide +kernel) h k) (fun h k => q_iloads (by decide +kernel) h k), ⟨11, o_if_le_ok (off := 66) (by decide +kernel) (by decide +kernel), ⟨13, o_iload_ok (fun h k => q_iloadi (by decide +kernel) h k) (fun h k => q_iloads (by decide +kernel) h k), ⟨14, o_iload_ok (fun h k => q_iload_ni (k0 := 3) (by decide +kernel) rfl h k) (fun h k => q_iload_ns (k0 := 3) (by decide +kernel) rfl h k), ⟨17, o_icmp_ge_ok (off := 60) (by decide +kernel) (by decide +kernel), ⟨18, o_iload_ok (fun h k => q_iload_ni (k0 := 2) (by decide +kernel) rfl h k) (fun h k => q_iload_ns (k0 := 2) (by decide +kernel) rfl h k), ⟨20, o_iload_ok (fun h k => q_iloadi (by decide +kernel) h k) (fun h k => q_iloads (by decide +kernel) h k), ⟨21, o_bin_ok (fun k => q_iadd (by decide +kernel) k), ⟨22, o_aload_ok (fun h k => q_aload_nr (k0 := 1) (by decide +kernel) rfl h k) (fun h k => q_aload_nq (k0 := 1) (by decide +kernel) rfl h k), ⟨23, o_len_ok hL (by decide +kernel), ⟨26, o_icmp_ge_ok (off := 51) (by decide +kernel) (by decide +kernel), ⟨27, o_aload_ok (fun h k => q_aload_nr (k0 := 0) (by decide +kernel) rfl h k) (fun h k => q_aload_nq (k0 := 0) (by decide +kernel) rfl h k), ⟨30, o_getI_ok (ci := 3) (by decide +kernel) (f_TreePasses_Scroll_48 m_16 rfl) rfl, ⟨33, o_if_ne_ok (off := 44) (by decide +kernel) (by decide +kernel), ⟨34, o_aload_ok (fun h k => q_aload_nr (k0 := 0) (by decide +kernel) rfl h k) (fun h k => q_aload_nq (k0 := 0) (by decide +kernel) rfl h k), ⟨36, o_iload_ok (fun h k => q_iloadi (by decide +kernel) h k) (fun h k => q_iloads (by decide +kernel) h k), ⟨37, o_iload_ok (fun h k => q_iload_ni (k0 := 3) (by decide +kernel) rfl h k) (fun h k => q_iload_ns (k0 := 3) (by decide +kernel) rfl h k), ⟨39, o_iload_ok (fun h k => q_iloadi (by decide +kernel) h k) (fun h k => q_iloads (by decide +kernel) h k), ⟨40, o_bin_ok (fun k => q_isub (by decide +kernel) k), ⟨42, o_iload_ok (fun h k => q_iloadi (by decide +kernel) h k) (fun h k => q_iloads (by decide +kernel) h k), ⟨43, o_bin_ok (fun k => q_isub (by decide +kernel) k), ⟨46, o_cV2_ok (ci := 3) e_13 (by decide +kernel) ⟨by decide +kernel, s_13⟩ w_318 ⟨w_320, wp_7⟩ (fun q hq => by cases hq; rfl) rfl rfl rfl rfl, ⟨48, o_istore_ok (fun k => q_istorei (by decide +kernel) (by decide) k) (fun k => q_istores (by decide +kernel) (by decide) k), ⟨49, o_aload_ok (fun h k => q_aload_nr (k0 := 1) (by decide +kernel) rfl h k) (fun h k => q_aload_nq (k0 := 1) (by decide +kernel) rfl h k), ⟨50, o_iload_ok (fun h k => q_iload_ni (k0 := 2) (by decide +kernel) rfl h k) (fun h k => q_iload_ns (k0 := 2) (by decide +kernel) rfl h k), ⟨52, o_iload_ok (fun h k => q_iloadi (by decide +kernel) h k) (fun h k => q_iloads (by decide +kernel) h k), ⟨53, o_bin_ok (fun k => q_iadd (by decide +kernel) k), ⟨55, o_iload_ok (fun h k => q_iloadi (by decide +kernel) h k) (fun h k => q_iloads (by decide +kernel) h k), ⟨56, o_ast_ok (Or.inl ⟨rfl, rfl, rfl⟩) (by decide +kernel), ⟨58, o_iload_ok (fun h k => q_iloadi (by decide +kernel) h k) (fun h k => q_iloads (by decide +kernel) h k), ⟨60, o_iload_ok (fun h k => q_iloadi (by decide +kernel) h k) (fun h k => q_iloads (by decide +kernel) h k), ⟨63, o_cSN2_ok e_7 (by decide +kernel) ⟨by decide +kernel, s_7⟩ w_322 w_323 rfl rfl rfl rfl, ⟨64, o_push_ok (fun k => q_iconst (n := 1) (by decide +kernel) (by decide +kernel) k), ⟨65, o_bin_ok (fun k => q_isub (by decide +kernel) k), ⟨66, o_bin_ok (fun k => q_iadd (by decide +kernel) k), ⟨68, o_istore_ok (fun k => q_istorei (by decide +kernel) (by decide) k) (fun k => q_istores (by decide +kernel) (by decide) k), ⟨71, o_iinc_ok (n := 1) (by decide +kernel) (by decide +kernel) (by decide), ⟨0, o_goto_ok (off := -65) (by decide +kernel) (by decide +kernel), trivial⟩⟩⟩⟩⟩⟩⟩⟩⟩⟩⟩⟩⟩⟩⟩⟩⟩⟩⟩⟩⟩⟩⟩⟩⟩⟩⟩⟩⟩⟩⟩⟩⟩⟩⟩⟩⟩⟩
noncomputable def b_16 : List (List q_Op) := [b_16_0, b_16_1, b_16_2]
theorem a_16 (E : q_E) (hL : E.2.2.2.2 = 5) : q_okB E t_16 q_mt m_16 0 b_16 := ⟨k_16_0 E hL, k_16_1 E hL, k_16_2 E hL, trivial⟩
theorem h_16 (E : q_E) (hL : E.2.2.2.2 = 5) : q_okM E q_mt m_16 (8, b_16) := ⟨t_16, rfl, rfl, q_okB_all (a_16 E hL), by decide +kernel⟩
def t_17 (b : Nat) : Nat := [0, 16, 22].getD b 0
noncomputable def b_17_0 : List q_Op := [o_push (.inl 38), o_push (.inl 12), o_iload 0, o_bin f_imul, o_bin f_iadd, o_iload 1, o_push (.inl 3), o_icmp_ge 1, o_iload 1, o_goto 2]
theorem k_17_0 (E : q_E) (hL : E.2.2.2.2 = 5) : q_okC E t_17 q_mt m_17 0 b_17_0 := ⟨2, o_push_ok (fun k => q_bipush (n := 38) (by decide +kernel) (by decide +kernel) k), ⟨4, o_push_ok (fun k => q_bipush (n := 12) (by decide +kernel) (by decide +kernel) k), ⟨5, o_iload_ok (fun h k => q_iload_ni (k0 := 0) (by decide +kernel) rfl h k) (fun h k => q_iload_ns (k0 := 0) (by decide +kernel) rfl h k), ⟨6, o_bin_ok (fun k => q_imul (by decide +kernel) k), ⟨7, o_bin_ok (fun k => q_iadd (by decide +kernel) k), ⟨8, o_iload_ok (fun h k => q_iload_ni (k0 := 1) (by decide +kernel) rfl h k) (fun h k => q_iload_ns (k0 := 1) (by decide +kernel) rfl h k), ⟨9, o_push_ok (fun k => q_iconst (n := 3) (by decide +kernel) (by decide +kernel) k), ⟨12, o_icmp_ge_ok (off := 7) (by decide +kernel) (by decide +kernel), ⟨13, o_iload_ok (fun h k => q_iload_ni (k0 := 1) (by decide +kernel) rfl h k) (fun h k => q_iload_ns (k0 := 1) (by decide +kernel) rfl h k), ⟨0, o_goto_ok (off := 9) (by decide +kernel) (by decide +kernel), trivial⟩⟩⟩⟩⟩⟩⟩⟩⟩⟩
noncomputable def b_17_1 : List q_Op := [o_push (.inl 4), o_iload 1, o_bin f_imul, o_push (.inl 8), o_bin f_isub, o_fall 2]
theorem k_17_1 (E : q_E) (hL : E.2.2.2.2 = 5) : q_okC E t_17 q_mt m_17 16 b_17_1 := ⟨17, o_push_ok (fun k => q_iconst (n := 4) (by decide +kernel) (by decide +kernel) k), ⟨18, o_iload_ok (fun h k => q_iload_ni (k0 := 1) (by decide +kernel) rfl h k) (fun h k => q_iload_ns (k0 := 1) (by decide +kernel) rfl h k), ⟨19, o_bin_ok (fun k => q_imul (by decide +kernel) k), ⟨21, o_push_ok (fun k => q_bipush (n := 8) (by decide +kernel) (by decide +kernel) k), ⟨22, o_bin_ok (fun k => q_isub (by decide +kernel) k), ⟨0, o_fall_ok rfl, trivial⟩⟩⟩⟩⟩⟩
noncomputable def b_17_2 : List q_Op := [o_bin f_iadd, o_iload 2, o_bin f_iadd, o_iret 0 0]
theorem k_17_2 (E : q_E) (hL : E.2.2.2.2 = 5) : q_okC E t_17 q_mt m_17 22 b_17_2 := ⟨23, o_bin_ok (fun k => q_iadd (by decide +kernel) k), ⟨24, o_iload_ok (fun h k => q_iload_ni (k0 := 2) (by decide +kernel) rfl h k) (fun h k => q_iload_ns (k0 := 2) (by decide +kernel) rfl h k), ⟨25, o_bin_ok (fun k => q_iadd (by decide +kernel) k), ⟨0, o_iret_ok (by decide +kernel) rfl rfl rfl, trivial⟩⟩⟩⟩
noncomputable def b_17 : List (List q_Op) := [b_17_0, b_17_1, b_17_2]
theorem a_17 (E : q_E) (hL : E.2.2.2.2 = 5) : q_okB E t_17 q_mt m_17 0 b_17 := ⟨k_17_0 E hL, k_17_1 E hL, k_17_2 E hL, trivial⟩
theorem h_17 (E : q_E) (hL : E.2.2.2.2 = 5) : q_okM E q_mt m_17 (3, b_17) := ⟨t_17, rfl, rfl, q_okB_all (a_17 E hL), by decide +kernel⟩
def t_18 (b : Nat) : Nat := [0, 121, 80, 76, 81, 111, 106, 113, 15].getD b 0
noncomputable def b_18_0 : List q_Op := [o_push (.inl 4294967292), o_istore 5, o_aload 0, o_getR 14 2, o_push (.inl 62), o_iald, o_push (.inl 1), o_bin f_isub, o_istore 6, o_fall 8]
theorem k_18_0 (E : q_E) (hL : E.2.2.2.2 = 5) : q_okC E t_18 q_mt m_18 0 b_18_0 := ⟨2, o_push_ok (fun k => q_bipush (n := -4) (by decide +kernel) (by decide +kernel) k), ⟨4, o_istore_ok (fun k => q_istorei (by decide +kernel) (by decide) k) (fun k => q_istores (by decide +kernel) (by decide) k), ⟨5, o_aload_ok (fun h k => q_aload_nr (k0 := 0) (by decide +kernel) rfl h k) (fun h k => q_aload_nq (k0 := 0) (by decide +kernel) rfl h k), ⟨8, o_getR_ok (ci := 9) (by decide +kernel) (f_TreePassesModel_13 m_18 rfl) rfl, ⟨10, o_push_ok (fun k => q_bipush (n := 62) (by decide +kernel) (by decide +kernel) k), ⟨11, o_iald_ok hL (by decide +kernel), ⟨12, o_push_ok (fun k => q_iconst (n := 1) (by decide +kernel) (by decide +kernel) k), ⟨13, o_bin_ok (fun k => q_isub (by decide +kernel) k), ⟨15, o_istore_ok (fun k => q_istorei (by decide +kernel) (by decide) k) (fun k => q_istores (by decide +kernel) (by decide) k), ⟨0, o_fall_ok rfl, trivial⟩⟩⟩⟩⟩⟩⟩⟩⟩⟩
noncomputable def b_18_1 : List q_Op := [o_iload 5, o_iret 0 0]
theorem k_18_1 (E : q_E) (hL : E.2.2.2.2 = 5) : q_okC E t_18 q_mt m_18 121 b_18_1 := ⟨123, o_iload_ok (fun h k => q_iloadi (by decide +kernel) h k) (fun h k => q_iloads (by decide +kernel) h k), ⟨0, o_iret_ok (by decide +kernel) rfl rfl rfl, trivial⟩⟩
noncomputable def b_18_2 : List q_Op := [o_push (.inl 0), o_fall 4]
theorem k_18_2 (E : q_E) (hL : E.2.2.2.2 = 5) : q_okC E t_18 q_mt m_18 80 b_18_2 := ⟨81, o_push_ok (fun k => q_iconst (n := 0) (by decide +kernel) (by decide +kernel) k), ⟨0, o_fall_ok rfl, trivial⟩⟩
noncomputable def b_18_3 : List q_Op := [o_push (.inl 1), o_goto 4]
theorem k_18_3 (E : q_E) (hL : E.2.2.2.2 = 5) : q_okC E t_18 q_mt m_18 76 b_18_3 := ⟨77, o_push_ok (fun k => q_iconst (n := 1) (by decide +kernel) (by decide +kernel) k), ⟨0, o_goto_ok (off := 4) (by decide +kernel) (by decide +kernel), trivial⟩⟩
noncomputable def b_18_4 : List q_Op := [o_istore 7, o_iload 7, o_if_eq 5, o_iload 5, o_push (.inl 4294967292), o_icmp_eq 6, o_aload 0, o_getR 14 2, o_iload 1, o_iald, o_push (.inl 2), o_binc g_irem f_irem, o_if_ne 5, o_fall 6]
theorem k_18_4 (E : q_E) (hL : E.2.2.2.2 = 5) : q_okC E t_18 q_mt m_18 81 b_18_4 := ⟨83, o_istore_ok (fun k => q_istorei (by decide +kernel) (by decide) k) (fun k => q_istores (by decide +kernel) (by decide) k), ⟨85, o_iload_ok (fun h k => q_iloadi (by decide +kernel) h k) (fun h k => q_iloads (by decide +kernel) h k), ⟨88, o_if_eq_ok (off := 26) (by decide +kernel) (by decide +kernel), ⟨90, o_iload_ok (fun h k => q_iloadi (by decide +kernel) h k) (fun h k => q_iloads (by decide +kernel) h k), ⟨92, o_push_ok (fun k => q_bipush (n := -4) (by decide +kernel) (by decide +kernel) k), ⟨95, o_icmp_eq_ok (off := 14) (by decide +kernel) (by decide +kernel), ⟨96, o_aload_ok (fun h k => q_aload_nr (k0 := 0) (by decide +kernel) rfl h k) (fun h k => q_aload_nq (k0 := 0) (by decide +kernel) rfl h k), ⟨99, o_getR_ok (ci := 9) (by decide +kernel) (f_TreePassesModel_13 m_18 rfl) rfl, ⟨100, o_iload_ok (fun h k => q_iload_ni (k0 := 1) (by decide +kernel) rfl h k) (fun h k => q_iload_ns (k0 := 1) (by decide +kernel) rfl h k), ⟨101, o_iald_ok hL (by decide +kernel), ⟨102, o_push_ok (fun k => q_iconst (n := 2) (by decide +kernel) (by decide +kernel) k), ⟨103, o_irem_ok (by decide +kernel), ⟨106, o_if_ne_ok (off := 8) (by decide +kernel) (by decide +kernel), ⟨0, o_fall_ok rfl, trivial⟩⟩⟩⟩⟩⟩⟩⟩⟩⟩⟩⟩⟩⟩
noncomputable def b_18_5 : List q_Op := [o_iload 5, o_fall 7]
theorem k_18_5 (E : q_E) (hL : E.2.2.2.2 = 5) : q_okC E t_18 q_mt m_18 111 b_18_5 := ⟨113, o_iload_ok (fun h k => q_iloadi (by decide +kernel) h k) (fun h k => q_iloads (by decide +kernel) h k), ⟨0, o_fall_ok rfl, trivial⟩⟩
noncomputable def b_18_6 : List q_Op := [o_iload 6, o_goto 7]
theorem k_18_6 (E : q_E) (hL : E.2.2.2.2 = 5) : q_okC E t_18 q_mt m_18 106 b_18_6 := ⟨108, o_iload_ok (fun h k => q_iloadi (by decide +kernel) h k) (fun h k => q_iloads (by decide +kernel) h k), ⟨0, o_goto_ok (off := 5) (by decide +kernel) (by decide +kernel), trivial⟩⟩
noncomputable def b_18_7 : List q_Op := [o_istore 5, o_iinc 6 4294967295, o_goto 8]
theorem k_18_7 (E : q_E) (hL : E.2.2.2.2 = 5) : q_okC E t_18 q_mt m_18 113 b_18_7 := ⟨115, o_istore_ok (fun k => q_istorei (by decide +kernel) (by decide) k) (fun k => q_istores (by decide +kernel) (by decide) k), ⟨118, o_iinc_ok (n := -1) (by decide +kernel) (by decide +kernel) (by decide), ⟨0, o_goto_ok (off := -103) (by decide +kernel) (by decide +kernel), trivial⟩⟩⟩
noncomputable def b_18_8 : List q_Op := [o_iload 6, o_if_lt 1, o_aload 0, o_iload 6, o_push (.inl 0), o_cV 14 3 2 0 0 0 0, o_iload 1, o_icmp_ne 2, o_aload 0, o_iload 6, o_push (.inl 1), o_cV 14 3 2 0 0 0 0, o_iload 2, o_icmp_ne 2, o_aload 0, o_iload 6, o_push (.inl 2), o_cV 14 3 2 0 0 0 0, o_iload 3, o_icmp_ne 2, o_aload 0, o_iload 6, o_push (.inl 3), o_cV 14 3 2 0 0 0 0, o_push (.inl 2), o_icmp_eq 3, o_aload 0, o_iload 6, o_push (.inl 3), o_cV 14 3 2 0 0 0 0, o_iload 4, o_icmp_ne 2, o_fall 3]
theorem k_18_8 (E : q_E) (hL : E.2.2.2.2 = 5) : q_okC E t_18 q_mt m_18 15 b_18_8 := ⟨17, o_iload_ok (fun h k => q_iloadi (by decide +kernel) h k) (fun h k => q_iloads (by decide +kernel) h k), ⟨20, o_if_lt_ok (off := 104) (by decide +kernel) (by decide +kernel), ⟨21, o_aload_ok (fun h k => q_aload_nr (k0 := 0) (by decide +kernel) rfl h k) (fun h k => q_aload_nq (k0 := 0) (by decide +kernel) rfl h k), ⟨23, o_iload_ok (fun h k => q_iloadi (by decide +kernel) h k) (fun h k => q_iloads (by decide +kernel) h k), ⟨24, o_push_ok (fun k => q_iconst (n := 0) (by decide +kernel) (by decide +kernel) k), ⟨27, o_cV2_ok (ci := 9) e_3 (by decide +kernel) ⟨by decide +kernel, s_3⟩ w_1104 ⟨w_1106, wp_53⟩ (fun q hq => by cases hq; rfl) rfl rfl rfl rfl, ⟨28, o_iload_ok (fun h k => q_iload_ni (k0 := 1) (by decide +kernel) rfl h k) (fun h k => q_iload_ns (k0 := 1) (by decide +kernel) rfl h k), ⟨31, o_icmp_ne_ok (off := 52) (by decide +kernel) (by decide +kernel), ⟨32, o_aload_ok (fun h k => q_aload_nr (k0 := 0) (by decide +kernel) rfl h k) (fun h k => q_aload_nq (k0 := 0) (by decide +kernel) rfl h k), ⟨34, o_iload_ok (fun h k => q_iloadi (by decide +kernel) h k) (fun h k => q_iloads (by decide +kernel) h k), ⟨35, o_push_ok (fun k => q_iconst (n := 1) (by decide +kernel) (by decide +kernel) k), ⟨38, o_cV2_ok (ci := 9) e_3 (by decide +kernel) ⟨by decide +kernel, s_3⟩ w_1104 ⟨w_1106, wp_53⟩ (fun q hq => by cases hq; rfl) rfl rfl rfl rfl, ⟨39, o_iload_ok (fun h k => q_iload_ni (k0 := 2) (by decide +kernel) rfl h k) (fun h k => q_iload_ns (k0 := 2) (by decide +kernel) rfl h k), ⟨42, o_icmp_ne_ok (off := 41) (by decide +kernel) (by decide +kernel), ⟨43, o_aload_ok (fun h k => q_aload_nr (k0 := 0) (by decide +kernel) rfl h k) (fun h k => q_aload_nq (k0 := 0) (by decide +kernel) rfl h k), ⟨45, o_iload_ok (fun h k => q_iloadi (by decide +kernel) h k) (fun h k => q_iloads (by decide +kernel) h k), ⟨46, o_push_ok (fun k => q_iconst (n := 2) (by decide +kernel) (by decide +kernel) k), ⟨49, o_cV2_ok (ci := 9) e_3 (by decide +kernel) ⟨by decide +kernel, s_3⟩ w_1104 ⟨w_1106, wp_53⟩ (fun q hq => by cases hq; rfl) rfl rfl rfl rfl, ⟨50, o_iload_ok (fun h k => q_iload_ni (k0 := 3) (by decide +kernel) rfl h k) (fun h k => q_iload_ns (k0 := 3) (by decide +kernel) rfl h k), ⟨53, o_icmp_ne_ok (off := 30) (by decide +kernel) (by decide +kernel), ⟨54, o_aload_ok (fun h k => q_aload_nr (k0 := 0) (by decide +kernel) rfl h k) (fun h k => q_aload_nq (k0 := 0) (by decide +kernel) rfl h k), ⟨56, o_iload_ok (fun h k => q_iloadi (by decide +kernel) h k) (fun h k => q_iloads (by decide +kernel) h k), ⟨57, o_push_ok (fun k => q_iconst (n := 3) (by decide +kernel) (by decide +kernel) k), ⟨60, o_cV2_ok (ci := 9) e_3 (by decide +kernel) ⟨by decide +kernel, s_3⟩ w_1104 ⟨w_1106, wp_53⟩ (fun q hq => by cases hq; rfl) rfl rfl rfl rfl, ⟨61, o_push_ok (fun k => q_iconst (n := 2) (by decide +kernel) (by decide +kernel) k), ⟨64, o_icmp_eq_ok (off := 15) (by decide +kernel) (by decide +kernel), ⟨65, o_aload_ok (fun h k => q_aload_nr (k0 := 0) (by decide +kernel) rfl h k) (fun h k => q_aload_nq (k0 := 0) (by decide +kernel) rfl h k), ⟨67, o_iload_ok (fun h k => q_iloadi (by decide +kernel) h k) (fun h k => q_iloads (by decide +kernel) h k), ⟨68, o_push_ok (fun k => q_iconst (n := 3) (by decide +kernel) (by decide +kernel) k), ⟨71, o_cV2_ok (ci := 9) e_3 (by decide +kernel) ⟨by decide +kernel, s_3⟩ w_1104 ⟨w_1106, wp_53⟩ (fun q hq => by cases hq; rfl) rfl rfl rfl rfl, ⟨73, o_iload_ok (fun h k => q_iloadi (by decide +kernel) h k) (fun h k => q_iloads (by decide +kernel) h k), ⟨76, o_icmp_ne_ok (off := 7) (by decide +kernel) (by decide +kernel), ⟨0, o_fall_ok rfl, trivial⟩⟩⟩⟩⟩⟩⟩⟩⟩⟩⟩⟩⟩⟩⟩⟩⟩⟩⟩⟩⟩⟩⟩⟩⟩⟩⟩⟩⟩⟩⟩⟩⟩
noncomputable def b_18 : List (List q_Op) := [b_18_0, b_18_1, b_18_2, b_18_3, b_18_4, b_18_5, b_18_6, b_18_7, b_18_8]
theorem a_18 (E : q_E) (hL : E.2.2.2.2 = 5) : q_okB E t_18 q_mt m_18 0 b_18 := ⟨k_18_0 E hL, k_18_1 E hL, k_18_2 E hL, k_18_3 E hL, k_18_4 E hL, k_18_5 E hL, k_18_6 E hL, k_18_7 E hL, k_18_8 E hL, trivial⟩
theorem h_18 (E : q_E) (hL : E.2.2.2.2 = 5) : q_okM E q_mt m_18 (8, b_18) := ⟨t_18, rfl, rfl, q_okB_all (a_18 E hL), by decide +kernel⟩
def t_19 (b : Nat) : Nat := [0, 13].getD b 0
noncomputable def b_19_0 : List q_Op := [o_aload 1, o_len, o_push (.inl 12), o_icmp_ge 1, o_aload 0, o_push (.inl 1), o_putI 8 4 2, o_vret 0 0]
theorem k_19_0 (E : q_E) (hL : E.2.2.2.2 = 5) : q_okC E t_19 q_mt m_19 0 b_19_0 := ⟨1, o_aload_ok (fun h k => q_aload_nr (k0 := 1) (by decide +kernel) rfl h k) (fun h k => q_aload_nq (k0 := 1) (by decide +kernel) rfl h k), ⟨2, o_len_ok hL (by decide +kernel), ⟨4, o_push_ok (fun k => q_bipush (n := 12) (by decide +kernel) (by decide +kernel) k), ⟨7, o_icmp_ge_ok (off := 9) (by decide +kernel) (by decide +kernel), ⟨8, o_aload_ok (fun h k => q_aload_nr (k0 := 0) (by decide +kernel) rfl h k) (fun h k => q_aload_nq (k0 := 0) (by decide +kernel) rfl h k), ⟨9, o_push_ok (fun k => q_iconst (n := 1) (by decide +kernel) (by decide +kernel) k), ⟨12, o_putI_ok (ci := 3) (by decide +kernel) (f_TreePasses_Scroll_48 m_19 rfl) (fun q hq => by cases hq; exact Or.inl rfl) (Or.inr ⟨rfl, rfl⟩), ⟨0, o_vret_ok (by decide +kernel) rfl rfl rfl, trivial⟩⟩⟩⟩⟩⟩⟩⟩
noncomputable def b_19_1 : List q_Op := [o_aload 1, o_push (.inl 0), o_aload 0, o_push (.inl 2), o_cV 8 8 1 0 0 0 0, o_ast 0 18446744073709551616, o_aload 1, o_push (.inl 1), o_aload 0, o_push (.inl 3), o_cV 8 8 1 0 0 0 0, o_ast 0 18446744073709551616, o_aload 1, o_push (.inl 2), o_aload 0, o_cV 8 15 0 0 0 0 0, o_ast 0 18446744073709551616, o_aload 1, o_push (.inl 3), o_aload 0, o_cV 8 20 0 0 0 0 0, o_ast 0 18446744073709551616, o_aload 0, o_push (.inl 61), o_cV 8 9 1 0 0 0 0, o_aload 1, o_push (.inl 4), o_aload 0, o_aload 1, o_push (.inl 5), o_push (.inl 7), o_aload 1, o_push (.inl 2), o_iald, o_cV 8 16 4 0 0 0 0, o_ast 0 18446744073709551616, o_vret 0 0]
theorem k_19_1 (E : q_E) (hL : E.2.2.2.2 = 5) : q_okC E t_19 q_mt m_19 13 b_19_1 := ⟨14, o_aload_ok (fun h k => q_aload_nr (k0 := 1) (by decide +kernel) rfl h k) (fun h k => q_aload_nq (k0 := 1) (by decide +kernel) rfl h k), ⟨15, o_push_ok (fun k => q_iconst (n := 0) (by decide +kernel) (by decide +kernel) k), ⟨16, o_aload_ok (fun h k => q_aload_nr (k0 := 0) (by decide +kernel) rfl h k) (fun h k => q_aload_nq (k0 := 0) (by decide +kernel) rfl h k), ⟨17, o_push_ok (fun k => q_iconst (n := 2) (by decide +kernel) (by decide +kernel) k), ⟨20, o_cV2_ok (ci := 3) e_8 (by decide +kernel) ⟨by decide +kernel, s_8⟩ w_303 ⟨w_305, wp_4⟩ (fun q hq => by cases hq; rfl) rfl rfl rfl rfl, ⟨21, o_ast_ok (Or.inl ⟨rfl, rfl, rfl⟩) (by decide +kernel), ⟨22, o_aload_ok (fun h k => q_aload_nr (k0 := 1) (by decide +kernel) rfl h k) (fun h k => q_aload_nq (k0 := 1) (by decide +kernel) rfl h k), ⟨23, o_push_ok (fun k => q_iconst (n := 1) (by decide +kernel) (by decide +kernel) k), ⟨24, o_aload_ok (fun h k => q_aload_nr (k0 := 0) (by decide +kernel) rfl h k) (fun h k => q_aload_nq (k0 := 0) (by decide +kernel) rfl h k), ⟨25, o_push_ok (fun k => q_iconst (n := 3) (by decide +kernel) (by decide +kernel) k), ⟨28, o_cV2_ok (ci := 3) e_8 (by decide +kernel) ⟨by decide +kernel, s_8⟩ w_303 ⟨w_305, wp_4⟩ (fun q hq => by cases hq; rfl) rfl rfl rfl rfl, ⟨29, o_ast_ok (Or.inl ⟨rfl, rfl, rfl⟩) (by decide +kernel), ⟨30, o_aload_ok (fun h k => q_aload_nr (k0 := 1) (by decide +kernel) rfl h k) (fun h k => q_aload_nq (k0 := 1) (by decide +kernel) rfl h k), ⟨31, o_push_ok (fun k => q_iconst (n := 2) (by decide +kernel) (by decide +kernel) k), ⟨32, o_aload_ok (fun h k => q_aload_nr (k0 := 0) (by decide +kernel) rfl h k) (fun h k => q_aload_nq (k0 := 0) (by decide +kernel) rfl h k), ⟨35, o_cV2_ok (ci := 3) e_15 (by decide +kernel) ⟨by decide +kernel, s_15⟩ w_351 ⟨w_353, wp_11⟩ (fun q hq => by cases hq; rfl) rfl rfl rfl rfl, ⟨36, o_ast_ok (Or.inl ⟨rfl, rfl, rfl⟩) (by decide +kernel), ⟨37, o_aload_ok (fun h k => q_aload_nr (k0 := 1) (by decide +kernel) rfl h k) (fun h k => q_aload_nq (k0 := 1) (by decide +kernel) rfl h k), ⟨38, o_push_ok (fun k => q_iconst (n := 3) (by decide +kernel) (by decide +kernel) k), ⟨39, o_aload_ok (fun h k => q_aload_nr (k0 := 0) (by decide +kernel) rfl h k) (fun h k => q_aload_nq (k0 := 0) (by decide +kernel) rfl h k), ⟨42, o_cV2_ok (ci := 3) e_20 (by decide +kernel) ⟨by decide +kernel, s_20⟩ w_368 ⟨w_370, wp_13⟩ (fun q hq => by cases hq; rfl) rfl rfl rfl rfl, ⟨43, o_ast_ok (Or.inl ⟨rfl, rfl, rfl⟩) (by decide +kernel), ⟨44, o_aload_ok (fun h k => q_aload_nr (k0 := 0) (by decide +kernel) rfl h k) (fun h k => q_aload_nq (k0 := 0) (by decide +kernel) rfl h k), ⟨46, o_push_ok (fun k => q_bipush (n := 61) (by decide +kernel) (by decide +kernel) k), ⟨49, o_cV2_ok (ci := 3) e_9 (by decide +kernel) ⟨by decide +kernel, s_9⟩ w_310 ⟨w_312, wp_5⟩ (fun q hq => by cases hq; rfl) rfl rfl rfl rfl, ⟨50, o_aload_ok (fun h k => q_aload_nr (k0 := 1) (by decide +kernel) rfl h k) (fun h k => q_aload_nq (k0 := 1) (by decide +kernel) rfl h k), ⟨51, o_push_ok (fun k => q_iconst (n := 4) (by decide +kernel) (by decide +kernel) k), ⟨52, o_aload_ok (fun h k => q_aload_nr (k0 := 0) (by decide +kernel) rfl h k) (fun h k => q_aload_nq (k0 := 0) (by decide +kernel) rfl h k), ⟨53, o_aload_ok (fun h k => q_aload_nr (k0 := 1) (by decide +kernel) rfl h k) (fun h k => q_aload_nq (k0 := 1) (by decide +kernel) rfl h k), ⟨54, o_push_ok (fun k => q_iconst (n := 5) (by decide +kernel) (by decide +kernel) k), ⟨56, o_push_ok (fun k => q_bipush (n := 7) (by decide +kernel) (by decide +kernel) k), ⟨57, o_aload_ok (fun h k => q_aload_nr (k0 := 1) (by decide +kernel) rfl h k) (fun h k => q_aload_nq (k0 := 1) (by decide +kernel) rfl h k), ⟨58, o_push_ok (fun k => q_iconst (n := 2) (by decide +kernel) (by decide +kernel) k), ⟨59, o_iald_ok hL (by decide +kernel), ⟨62, o_cV2_ok (ci := 3) e_16 (by decide +kernel) ⟨by decide +kernel, s_16⟩ w_314 ⟨w_316, wp_6⟩ (fun q hq => by cases hq; rfl) rfl rfl rfl rfl, ⟨63, o_ast_ok (Or.inl ⟨rfl, rfl, rfl⟩) (by decide +kernel), ⟨0, o_vret_ok (by decide +kernel) rfl rfl rfl, trivial⟩⟩⟩⟩⟩⟩⟩⟩⟩⟩⟩⟩⟩⟩⟩⟩⟩⟩⟩⟩⟩⟩⟩⟩⟩⟩⟩⟩⟩⟩⟩⟩⟩⟩⟩⟩⟩
noncomputable def b_19 : List (List q_Op) := [b_19_0, b_19_1]
theorem a_19 (E : q_E) (hL : E.2.2.2.2 = 5) : q_okB E t_19 q_mt m_19 0 b_19 := ⟨k_19_0 E hL, k_19_1 E hL, trivial⟩
theorem h_19 (E : q_E) (hL : E.2.2.2.2 = 5) : q_okM E q_mt m_19 (2, b_19) := ⟨t_19, rfl, rfl, q_okB_all (a_19 E hL), by decide +kernel⟩
def t_20 (b : Nat) : Nat := [0, 28].getD b 0
noncomputable def b_20_0 : List q_Op := [o_aload 0, o_getI 8 4, o_if_ne 1, o_aload 0, o_cV 8 4 0 0 0 0 0, o_push (.inl 42), o_icmp_ne 1, o_aload 0, o_dup, o_getI 8 3, o_push (.inl 1), o_bin f_iadd, o_putI 8 3 18446744073709551616, o_push (.inl 2), o_iret 0 0]
theorem k_20_0 (E : q_E) (hL : E.2.2.2.2 = 5) : q_okC E t_20 q_mt m_20 0 b_20_0 := ⟨1, o_aload_ok (fun h k => q_aload_nr (k0 := 0) (by decide +kernel) rfl h k) (fun h k => q_aload_nq (k0 := 0) (by decide +kernel) rfl h k), ⟨4, o_getI_ok (ci := 3) (by decide +kernel) (f_TreePasses_Scroll_48 m_20 rfl) rfl, ⟨7, o_if_ne_ok (off := 24) (by decide +kernel) (by decide +kernel), ⟨8, o_aload_ok (fun h k => q_aload_nr (k0 := 0) (by decide +kernel) rfl h k) (fun h k => q_aload_nq (k0 := 0) (by decide +kernel) rfl h k), ⟨11, o_cV2_ok (ci := 3) e_4 (by decide +kernel) ⟨by decide +kernel, s_4⟩ w_295 ⟨w_297, wp_2⟩ (fun q hq => by cases hq; rfl) rfl rfl rfl rfl, ⟨13, o_push_ok (fun k => q_bipush (n := 42) (by decide +kernel) (by decide +kernel) k), ⟨16, o_icmp_ne_ok (off := 15) (by decide +kernel) (by decide +kernel), ⟨17, o_aload_ok (fun h k => q_aload_nr (k0 := 0) (by decide +kernel) rfl h k) (fun h k => q_aload_nq (k0 := 0) (by decide +kernel) rfl h k), ⟨18, o_dup_ok (by decide +kernel), ⟨21, o_getI_ok (ci := 3) (by decide +kernel) (f_TreePasses_Scroll_37 m_20 rfl) rfl, ⟨22, o_push_ok (fun k => q_iconst (n := 1) (by decide +kernel) (by decide +kernel) k), ⟨23, o_bin_ok (fun k => q_iadd (by decide +kernel) k), ⟨26, o_putI_ok (ci := 3) (by decide +kernel) (f_TreePasses_Scroll_37 m_20 rfl) (fun q hq => by cases hq; exact Or.inl rfl) (Or.inl ⟨rfl, rfl⟩), ⟨27, o_push_ok (fun k => q_iconst (n := 2) (by decide +kernel) (by decide +kernel) k), ⟨0, o_iret_ok (by decide +kernel) rfl rfl rfl, trivial⟩⟩⟩⟩⟩⟩⟩⟩⟩⟩⟩⟩⟩⟩⟩
noncomputable def b_20_1 : List q_Op := [o_aload 0, o_push (.inl 2), o_cV 8 8 1 0 0 0 0, o_iret 0 0]
theorem k_20_1 (E : q_E) (hL : E.2.2.2.2 = 5) : q_okC E t_20 q_mt m_20 28 b_20_1 := ⟨29, o_aload_ok (fun h k => q_aload_nr (k0 := 0) (by decide +kernel) rfl h k) (fun h k => q_aload_nq (k0 := 0) (by decide +kernel) rfl h k), ⟨30, o_push_ok (fun k => q_iconst (n := 2) (by decide +kernel) (by decide +kernel) k), ⟨33, o_cV2_ok (ci := 3) e_8 (by decide +kernel) ⟨by decide +kernel, s_8⟩ w_303 ⟨w_305, wp_4⟩ (fun q hq => by cases hq; rfl) rfl rfl rfl rfl, ⟨0, o_iret_ok (by decide +kernel) rfl rfl rfl, trivial⟩⟩⟩⟩
noncomputable def b_20 : List (List q_Op) := [b_20_0, b_20_1]
theorem a_20 (E : q_E) (hL : E.2.2.2.2 = 5) : q_okB E t_20 q_mt m_20 0 b_20 := ⟨k_20_0 E hL, k_20_1 E hL, trivial⟩
theorem h_20 (E : q_E) (hL : E.2.2.2.2 = 5) : q_okM E q_mt m_20 (1, b_20) := ⟨t_20, rfl, rfl, q_okB_all (a_20 E hL), by decide +kernel⟩
def t_21 (b : Nat) : Nat := [0, 25, 26, 59].getD b 0
noncomputable def b_21_0 : List q_Op := [o_iload 1, o_if_lt 1, o_iload 1, o_aload 0, o_getI 7 6, o_icmp_gt 1, o_iload 1, o_push (.inl 16), o_icmp_ge 1, o_aload 2, o_len, o_push (.inl 12), o_icmp_ge 2, o_fall 1]
theorem k_21_0 (E : q_E) (hL : E.2.2.2.2 = 5) : q_okC E t_21 q_mt m_21 0 b_21_0 := ⟨1, o_iload_ok (fun h k => q_iload_ni (k0 := 1) (by decide +kernel) rfl h k) (fun h k => q_iload_ns (k0 := 1) (by decide +kernel) rfl h k), ⟨4, o_if_lt_ok (off := 24) (by decide +kernel) (by decide +kernel), ⟨5, o_iload_ok (fun h k => q_iload_ni (k0 := 1) (by decide +kernel) rfl h k) (fun h k => q_iload_ns (k0 := 1) (by decide +kernel) rfl h k), ⟨6, o_aload_ok (fun h k => q_aload_nr (k0 := 0) (by decide +kernel) rfl h k) (fun h k => q_aload_nq (k0 := 0) (by decide +kernel) rfl h k), ⟨9, o_getI_ok (ci := 2) (by decide +kernel) (f_TreePasses_Program_36 m_21 rfl) rfl, ⟨12, o_icmp_gt_ok (off := 16) (by decide +kernel) (by decide +kernel), ⟨13, o_iload_ok (fun h k => q_iload_ni (k0 := 1) (by decide +kernel) rfl h k) (fun h k => q_iload_ns (k0 := 1) (by decide +kernel) rfl h k), ⟨15, o_push_ok (fun k => q_bipush (n := 16) (by decide +kernel) (by decide +kernel) k), ⟨18, o_icmp_ge_ok (off := 10) (by decide +kernel) (by decide +kernel), ⟨19, o_aload_ok (fun h k => q_aload_nr (k0 := 2) (by decide +kernel) rfl h k) (fun h k => q_aload_nq (k0 := 2) (by decide +kernel) rfl h k), ⟨20, o_len_ok hL (by decide +kernel), ⟨22, o_push_ok (fun k => q_bipush (n := 12) (by decide +kernel) (by decide +kernel) k), ⟨25, o_icmp_ge_ok (off := 4) (by decide +kernel) (by decide +kernel), ⟨0, o_fall_ok rfl, trivial⟩⟩⟩⟩⟩⟩⟩⟩⟩⟩⟩⟩⟩⟩
noncomputable def b_21_1 : List q_Op := [o_vret 0 0]
theorem k_21_1 (E : q_E) (hL : E.2.2.2.2 = 5) : q_okC E t_21 q_mt m_21 25 b_21_1 := ⟨0, o_vret_ok (by decide +kernel) rfl rfl rfl, trivial⟩
noncomputable def b_21_2 : List q_Op := [o_aload 2, o_push (.inl 0), o_aload 0, o_getR 7 4, o_iload 1, o_push (.inl 12), o_bin f_imul, o_push (.inl 12), o_copy 26, o_iload 1, o_aload 0, o_getI 7 6, o_icmp_ne 3, o_aload 0, o_dup, o_getI 7 6, o_push (.inl 1), o_bin f_iadd, o_putI 7 6 18446744073709551616, o_fall 3]
theorem k_21_2 (E : q_E) (hL : E.2.2.2.2 = 5) : q_okC E t_21 q_mt m_21 26 b_21_2 := ⟨27, o_aload_ok (fun h k => q_aload_nr (k0 := 2) (by decide +kernel) rfl h k) (fun h k => q_aload_nq (k0 := 2) (by decide +kernel) rfl h k), ⟨28, o_push_ok (fun k => q_iconst (n := 0) (by decide +kernel) (by decide +kernel) k), ⟨29, o_aload_ok (fun h k => q_aload_nr (k0 := 0) (by decide +kernel) rfl h k) (fun h k => q_aload_nq (k0 := 0) (by decide +kernel) rfl h k), ⟨32, o_getR_ok (ci := 2) (by decide +kernel) (f_TreePasses_Program_24 m_21 rfl) rfl, ⟨33, o_iload_ok (fun h k => q_iload_ni (k0 := 1) (by decide +kernel) rfl h k) (fun h k => q_iload_ns (k0 := 1) (by decide +kernel) rfl h k), ⟨35, o_push_ok (fun k => q_bipush (n := 12) (by decide +kernel) (by decide +kernel) k), ⟨36, o_bin_ok (fun k => q_imul (by decide +kernel) k), ⟨38, o_push_ok (fun k => q_bipush (n := 12) (by decide +kernel) (by decide +kernel) k), ⟨41, o_copy_ok (by decide +kernel) w_336 ⟨w_cn, w_cs, w_ci⟩ (by decide) rfl, ⟨42, o_iload_ok (fun h k => q_iload_ni (k0 := 1) (by decide +kernel) rfl h k) (fun h k => q_iload_ns (k0 := 1) (by decide +kernel) rfl h k), ⟨43, o_aload_ok (fun h k => q_aload_nr (k0 := 0) (by decide +kernel) rfl h k) (fun h k => q_aload_nq (k0 := 0) (by decide +kernel) rfl h k), ⟨46, o_getI_ok (ci := 2) (by decide +kernel) (f_TreePasses_Program_36 m_21 rfl) rfl, ⟨49, o_icmp_ne_ok (off := 13) (by decide +kernel) (by decide +kernel), ⟨50, o_aload_ok (fun h k => q_aload_nr (k0 := 0) (by decide +kernel) rfl h k) (fun h k => q_aload_nq (k0 := 0) (by decide +kernel) rfl h k), ⟨51, o_dup_ok (by decide +kernel), ⟨54, o_getI_ok (ci := 2) (by decide +kernel) (f_TreePasses_Program_36 m_21 rfl) rfl, ⟨55, o_push_ok (fun k => q_iconst (n := 1) (by decide +kernel) (by decide +kernel) k), ⟨56, o_bin_ok (fun k => q_iadd (by decide +kernel) k), ⟨59, o_putI_ok (ci := 2) (by decide +kernel) (f_TreePasses_Program_36 m_21 rfl) (fun q hq => by cases hq; exact Or.inl rfl) (Or.inl ⟨rfl, rfl⟩), ⟨0, o_fall_ok rfl, trivial⟩⟩⟩⟩⟩⟩⟩⟩⟩⟩⟩⟩⟩⟩⟩⟩⟩⟩⟩⟩
noncomputable def b_21_3 : List q_Op := [o_vret 0 0]
theorem k_21_3 (E : q_E) (hL : E.2.2.2.2 = 5) : q_okC E t_21 q_mt m_21 59 b_21_3 := ⟨0, o_vret_ok (by decide +kernel) rfl rfl rfl, trivial⟩
noncomputable def b_21 : List (List q_Op) := [b_21_0, b_21_1, b_21_2, b_21_3]
theorem a_21 (E : q_E) (hL : E.2.2.2.2 = 5) : q_okB E t_21 q_mt m_21 0 b_21 := ⟨k_21_0 E hL, k_21_1 E hL, k_21_2 E hL, k_21_3 E hL, trivial⟩
theorem h_21 (E : q_E) (hL : E.2.2.2.2 = 5) : q_okM E q_mt m_21 (3, b_21) := ⟨t_21, rfl, rfl, q_okB_all (a_21 E hL), by decide +kernel⟩
def t_22 (b : Nat) : Nat := [0].getD b 0
noncomputable def b_22_0 : List q_Op := [o_push (.inl 63), o_push (.inl 12), o_aload 0, o_getR 14 3, o_push (.inl 62), o_iald, o_bin f_imul, o_bin f_iadd, o_istore 9, o_aload 0, o_getR 14 3, o_iload 9, o_iload 1, o_ast 0 18446744073709551616, o_aload 0, o_getR 14 3, o_iload 9, o_push (.inl 1), o_bin f_iadd, o_iload 2, o_ast 0 18446744073709551616, o_aload 0, o_getR 14 3, o_iload 9, o_push (.inl 2), o_bin f_iadd, o_iload 3, o_ast 0 18446744073709551616, o_aload 0, o_getR 14 3, o_iload 9, o_push (.inl 3), o_bin f_iadd, o_iload 4, o_ast 0 18446744073709551616, o_aload 0, o_getR 14 3, o_iload 9, o_push (.inl 4), o_bin f_iadd, o_iload 5, o_ast 0 18446744073709551616, o_aload 0, o_getR 14 3, o_iload 9, o_push (.inl 5), o_bin f_iadd, o_iload 6, o_ast 0 18446744073709551616, o_aload 0, o_getR 14 3, o_iload 9, o_push (.inl 6), o_bin f_iadd, o_iload 7, o_ast 0 18446744073709551616, o_aload 0, o_getR 14 3, o_iload 9, o_push (.inl 7), o_bin f_iadd, o_iload 8, o_ast 0 18446744073709551616, o_aload 0, o_getR 14 3, o_push (.inl 62), o_dup2, o_iald, o_push (.inl 1), o_bin f_iadd, o_ast 0 18446744073709551616, o_vret 0 0]
theorem k_22_0 (E : q_E) (hL : E.2.2.2.2 = 5) : q_okC E t_22 q_mt m_22 0 b_22_0 := ⟨2, o_push_ok (fun k => q_bipush (n := 63) (by decide +kernel) (by decide +kernel) k), ⟨4, o_push_ok (fun k => q_bipush (n := 12) (by decide +kernel) (by decide +kernel) k), ⟨5, o_aload_ok (fun h k => q_aload_nr (k0 := 0) (by decide +kernel) rfl h k) (fun h k => q_aload_nq (k0 := 0) (by decide +kernel) rfl h k), ⟨8, o_getR_ok (ci := 9) (by decide +kernel) (f_TreePassesModel_16 m_22 rfl) rfl, ⟨10, o_push_ok (fun k => q_bipush (n := 62) (by decide +kernel) (by decide +kernel) k), ⟨11, o_iald_ok hL (by decide +kernel), ⟨12, o_bin_ok (fun k => q_imul (by decide +kernel) k), ⟨13, o_bin_ok (fun k => q_iadd (by decide +kernel) k), ⟨15, o_istore_ok (fun k => q_istorei (by decide +kernel) (by decide) k) (fun k => q_istores (by decide +kernel) (by decide) k), ⟨16, o_aload_ok (fun h k => q_aload_nr (k0 := 0) (by decide +kernel) rfl h k) (fun h k => q_aload_nq (k0 := 0) (by decide +kernel) rfl h k), ⟨19, o_getR_ok (ci := 9) (by decide +kernel) (f_TreePassesModel_16 m_22 rfl) rfl, ⟨21, o_iload_ok (fun h k => q_iloadi (by decide +kernel) h k) (fun h k => q_iloads (by decide +kernel) h k), ⟨22, o_iload_ok (fun h k => q_iload_ni (k0 := 1) (by decide +kernel) rfl h k) (fun h k => q_iload_ns (k0 := 1) (by decide +kernel) rfl h k), ⟨23, o_ast_ok (Or.inl ⟨rfl, rfl, rfl⟩) (by decide +kernel), ⟨24, o_aload_ok (fun h k => q_aload_nr (k0 := 0) (by decide +kernel) rfl h k) (fun h k => q_aload_nq (k0 := 0) (by decide +kernel) rfl h k), ⟨27, o_getR_ok (ci := 9) (by decide +kernel) (f_TreePassesModel_16 m_22 rfl) rfl, ⟨29, o_iload_ok (fun h k => q_iloadi (by decide +kernel) h k) (fun h k => q_iloads (by decide +kernel) h k), ⟨30, o_push_ok (fun k => q_iconst (n := 1) (by decide +kernel) (by decide +kernel) k), ⟨31, o_bin_ok (fun k => q_iadd (by decide +kernel) k), ⟨32, o_iload_ok (fun h k => q_iload_ni (k0 := 2) (by decide +kernel) rfl h k) (fun h k => q_iload_ns (k0 := 2) (by decide +kernel) rfl h k), ⟨33, o_ast_ok (Or.inl ⟨rfl, rfl, rfl⟩) (by decide +kernel), ⟨34, o_aload_ok (fun h k => q_aload_nr (k0 := 0) (by decide +kernel) rfl h k) (fun h k => q_aload_nq (k0 := 0) (by decide +kernel) rfl h k), ⟨37, o_getR_ok (ci := 9) (by decide +kernel) (f_TreePassesModel_16 m_22 rfl) rfl, ⟨39, o_iload_ok (fun h k => q_iloadi (by decide +kernel) h k) (fun h k => q_iloads (by decide +kernel) h k), ⟨40, o_push_ok (fun k => q_iconst (n := 2) (by decide +kernel) (by decide +kernel) k), ⟨41, o_bin_ok (fun k => q_iadd (by decide +kernel) k), ⟨42, o_iload_ok (fun h k => q_iload_ni (k0 := 3) (by decide +kernel) rfl h k) (fun h k => q_iload_ns (k0 := 3) (by decide +kernel) rfl h k), ⟨43, o_ast_ok (Or.inl ⟨rfl, rfl, rfl⟩) (by decide +kernel), ⟨44, o_aload_ok (fun h k => q_aload_nr (k0 := 0) (by decide +kernel) rfl h k) (fun h k => q_aload_nq (k0 := 0) (by decide +kernel) rfl h k), ⟨47, o_getR_ok (ci := 9) (by decide +kernel) (f_TreePassesModel_16 m_22 rfl) rfl, ⟨49, o_iload_ok (fun h k => q_iloadi (by decide +kernel) h k) (fun h k => q_iloads (by decide +kernel) h k), ⟨50, o_push_ok (fun k => q_iconst (n := 3) (by decide +kernel) (by decide +kernel) k), ⟨51, o_bin_ok (fun k => q_iadd (by decide +kernel) k), ⟨53, o_iload_ok (fun h k => q_iloadi (by decide +kernel) h k) (fun h k => q_iloads (by decide +kernel) h k), ⟨54, o_ast_ok (Or.inl ⟨rfl, rfl, rfl⟩) (by decide +kernel), ⟨55, o_aload_ok (fun h k => q_aload_nr (k0 := 0) (by decide +kernel) rfl h k) (fun h k => q_aload_nq (k0 := 0) (by decide +kernel) rfl h k), ⟨58, o_getR_ok (ci := 9) (by decide +kernel) (f_TreePassesModel_16 m_22 rfl) rfl, ⟨60, o_iload_ok (fun h k => q_iloadi (by decide +kernel) h k) (fun h k => q_iloads (by decide +kernel) h k), ⟨61, o_push_ok (fun k => q_iconst (n := 4) (by decide +kernel) (by decide +kernel) k), ⟨62, o_bin_ok (fun k => q_iadd (by decide +kernel) k), ⟨64, o_iload_ok (fun h k => q_iloadi (by decide +kernel) h k) (fun h k => q_iloads (by decide +kernel) h k), ⟨65, o_ast_ok (Or.inl ⟨rfl, rfl, rfl⟩) (by decide +kernel), ⟨66, o_aload_ok (fun h k => q_aload_nr (k0 := 0) (by decide +kernel) rfl h k) (fun h k => q_aload_nq (k0 := 0) (by decide +kernel) rfl h k), ⟨69, o_getR_ok (ci := 9) (by decide +kernel) (f_TreePassesModel_16 m_22 rfl) rfl, ⟨71, o_iload_ok (fun h k => q_iloadi (by decide +kernel) h k) (fun h k => q_iloads (by decide +kernel) h k), ⟨72, o_push_ok (fun k => q_iconst (n := 5) (by decide +kernel) (by decide +kernel) k), ⟨73, o_bin_ok (fun k => q_iadd (by decide +kernel) k), ⟨75, o_iload_ok (fun h k => q_iloadi (by decide +kernel) h k) (fun h k => q_iloads (by decide +kernel) h k), ⟨76, o_ast_ok (Or.inl ⟨rfl, rfl, rfl⟩) (by decide +kernel), ⟨77, o_aload_ok (fun h k => q_aload_nr (k0 := 0) (by decide +kernel) rfl h k) (fun h k => q_aload_nq (k0 := 0) (by decide +kernel) rfl h k), ⟨80, o_getR_ok (ci := 9) (by decide +kernel) (f_TreePassesModel_16 m_22 rfl) rfl, ⟨82, o_iload_ok (fun h k => q_iloadi (by decide +kernel) h k) (fun h k => q_iloads (by decide +kernel) h k), ⟨84, o_push_ok (fun k => q_bipush (n := 6) (by decide +kernel) (by decide +kernel) k), ⟨85, o_bin_ok (fun k => q_iadd (by decide +kernel) k), ⟨87, o_iload_ok (fun h k => q_iloadi (by decide +kernel) h k) (fun h k => q_iloads (by decide +kernel) h k), ⟨88, o_ast_ok (Or.inl ⟨rfl, rfl, rfl⟩) (by decide +kernel), ⟨89, o_aload_ok (fun h k => q_aload_nr (k0 := 0) (by decide +kernel) rfl h k) (fun h k => q_aload_nq (k0 := 0) (by decide +kernel) rfl h k), ⟨92, o_getR_ok (ci := 9) (by decide +kernel) (f_TreePassesModel_16 m_22 rfl) rfl, ⟨94, o_iload_ok (fun h k => q_iloadi (by decide +kernel) h k) (fun h k => q_iloads (by decide +kernel) h k), ⟨96, o_push_ok (fun k => q_bipush (n := 7) (by decide +kernel) (by decide +kernel) k), ⟨97, o_bin_ok (fun k => q_iadd (by decide +kernel) k), ⟨99, o_iload_ok (fun h k => q_iloadi (by decide +kernel) h k) (fun h k => q_iloads (by decide +kernel) h k), ⟨100, o_ast_ok (Or.inl ⟨rfl, rfl, rfl⟩) (by decide +kernel), ⟨101, o_aload_ok (fun h k => q_aload_nr (k0 := 0) (by decide +kernel) rfl h k) (fun h k => q_aload_nq (k0 := 0) (by decide +kernel) rfl h k), ⟨104, o_getR_ok (ci := 9) (by decide +kernel) (f_TreePassesModel_16 m_22 rfl) rfl, ⟨106, o_push_ok (fun k => q_bipush (n := 62) (by decide +kernel) (by decide +kernel) k), ⟨107, o_dup2_ok (by decide +kernel), ⟨108, o_iald_ok hL (by decide +kernel), ⟨109, o_push_ok (fun k => q_iconst (n := 1) (by decide +kernel) (by decide +kernel) k), ⟨110, o_bin_ok (fun k => q_iadd (by decide +kernel) k), ⟨111, o_ast_ok (Or.inl ⟨rfl, rfl, rfl⟩) (by decide +kernel), ⟨0, o_vret_ok (by decide +kernel) rfl rfl rfl, trivial⟩⟩⟩⟩⟩⟩⟩⟩⟩⟩⟩⟩⟩⟩⟩⟩⟩⟩⟩⟩⟩⟩⟩⟩⟩⟩⟩⟩⟩⟩⟩⟩⟩⟩⟩⟩⟩⟩⟩⟩⟩⟩⟩⟩⟩⟩⟩⟩⟩⟩⟩⟩⟩⟩⟩⟩⟩⟩⟩⟩⟩⟩⟩⟩⟩⟩⟩⟩⟩⟩⟩⟩
noncomputable def b_22 : List (List q_Op) := [b_22_0]
theorem a_22 (E : q_E) (hL : E.2.2.2.2 = 5) : q_okB E t_22 q_mt m_22 0 b_22 := ⟨k_22_0 E hL, trivial⟩
theorem h_22 (E : q_E) (hL : E.2.2.2.2 = 5) : q_okM E q_mt m_22 (10, b_22) := ⟨t_22, rfl, rfl, q_okB_all (a_22 E hL), by decide +kernel⟩
def t_23 (b : Nat) : Nat := [0, 33, 34].getD b 0
noncomputable def b_23_0 : List q_Op := [o_iload 0, o_push (.inl 2), o_cS 2 2 0 0 0 0, o_if_eq 1, o_iload 1, o_push (.inl 5), o_cS 2 2 0 0 0 0, o_if_eq 1, o_iload 2, o_push (.inl 1), o_iload 1, o_cS 7 1 0 0 0 0, o_binc g_ishl f_ishl, o_cS 2 2 0 0 0 0, o_if_eq 1, o_push (.inl 1), o_goto 2]
theorem k_23_0 (E : q_E) (hL : E.2.2.2.2 = 5) : q_okC E t_23 q_mt m_23 0 b_23_0 := ⟨1, o_iload_ok (fun h k => q_iload_ni (k0 := 0) (by decide +kernel) rfl h k) (fun h k => q_iload_ns (k0 := 0) (by decide +kernel) rfl h k), ⟨2, o_push_ok (fun k => q_iconst (n := 2) (by decide +kernel) (by decide +kernel) k), ⟨5, o_cS2_ok e_2 (by decide +kernel) ⟨by decide +kernel, s_2⟩ w_362 w_308 rfl rfl rfl rfl, ⟨8, o_if_eq_ok (off := 28) (by decide +kernel) (by decide +kernel), ⟨9, o_iload_ok (fun h k => q_iload_ni (k0 := 1) (by decide +kernel) rfl h k) (fun h k => q_iload_ns (k0 := 1) (by decide +kernel) rfl h k), ⟨10, o_push_ok (fun k => q_iconst (n := 5) (by decide +kernel) (by decide +kernel) k), ⟨13, o_cS2_ok e_2 (by decide +kernel) ⟨by decide +kernel, s_2⟩ w_362 w_308 rfl rfl rfl rfl, ⟨16, o_if_eq_ok (off := 20) (by decide +kernel) (by decide +kernel), ⟨17, o_iload_ok (fun h k => q_iload_ni (k0 := 2) (by decide +kernel) rfl h k) (fun h k => q_iload_ns (k0 := 2) (by decide +kernel) rfl h k), ⟨18, o_push_ok (fun k => q_iconst (n := 1) (by decide +kernel) (by decide +kernel) k), ⟨19, o_iload_ok (fun h k => q_iload_ni (k0 := 1) (by decide +kernel) rfl h k) (fun h k => q_iload_ns (k0 := 1) (by decide +kernel) rfl h k), ⟨22, o_cS2_ok e_7 (by decide +kernel) ⟨by decide +kernel, s_7⟩ w_363 w_323 rfl rfl rfl rfl, ⟨23, o_ishl_ok (by decide +kernel), ⟨26, o_cS2_ok e_2 (by decide +kernel) ⟨by decide +kernel, s_2⟩ w_362 w_308 rfl rfl rfl rfl, ⟨29, o_if_eq_ok (off := 7) (by decide +kernel) (by decide +kernel), ⟨30, o_push_ok (fun k => q_iconst (n := 1) (by decide +kernel) (by decide +kernel) k), ⟨0, o_goto_ok (off := 4) (by decide +kernel) (by decide +kernel), trivial⟩⟩⟩⟩⟩⟩⟩⟩⟩⟩⟩⟩⟩⟩⟩⟩⟩
noncomputable def b_23_1 : List q_Op := [o_push (.inl 0), o_fall 2]
theorem k_23_1 (E : q_E) (hL : E.2.2.2.2 = 5) : q_okC E t_23 q_mt m_23 33 b_23_1 := ⟨34, o_push_ok (fun k => q_iconst (n := 0) (by decide +kernel) (by decide +kernel) k), ⟨0, o_fall_ok rfl, trivial⟩⟩
noncomputable def b_23_2 : List q_Op := [o_zret 0 0]
theorem k_23_2 (E : q_E) (hL : E.2.2.2.2 = 5) : q_okC E t_23 q_mt m_23 34 b_23_2 := ⟨0, o_zret_ok (by decide +kernel) rfl rfl rfl, trivial⟩
noncomputable def b_23 : List (List q_Op) := [b_23_0, b_23_1, b_23_2]
theorem a_23 (E : q_E) (hL : E.2.2.2.2 = 5) : q_okB E t_23 q_mt m_23 0 b_23 := ⟨k_23_0 E hL, k_23_1 E hL, k_23_2 E hL, trivial⟩
theorem h_23 (E : q_E) (hL : E.2.2.2.2 = 5) : q_okM E q_mt m_23 (3, b_23) := ⟨t_23, rfl, rfl, q_okB_all (a_23 E hL), by decide +kernel⟩
def t_24 (b : Nat) : Nat := [0, 25].getD b 0
noncomputable def b_24_0 : List q_Op := [o_iload 1, o_iload 2, o_iload 3, o_cS 23 3 0 0 0 0, o_if_eq 1, o_aload 0, o_getR 7 3, o_iload 1, o_push (.inl 5), o_bin f_imul, o_iload 2, o_bin f_iadd, o_push (.inl 4), o_bin f_imul, o_iload 3, o_bin f_iadd, o_iload 4, o_ast 0 18446744073709551616, o_fall 1]
theorem k_24_0 (E : q_E) (hL : E.2.2.2.2 = 5) : q_okC E t_24 q_mt m_24 0 b_24_0 := ⟨1, o_iload_ok (fun h k => q_iload_ni (k0 := 1) (by decide +kernel) rfl h k) (fun h k => q_iload_ns (k0 := 1) (by decide +kernel) rfl h k), ⟨2, o_iload_ok (fun h k => q_iload_ni (k0 := 2) (by decide +kernel) rfl h k) (fun h k => q_iload_ns (k0 := 2) (by decide +kernel) rfl h k), ⟨3, o_iload_ok (fun h k => q_iload_ni (k0 := 3) (by decide +kernel) rfl h k) (fun h k => q_iload_ns (k0 := 3) (by decide +kernel) rfl h k), ⟨6, o_cSN2_ok e_23 (by decide +kernel) ⟨by decide +kernel, s_23⟩ w_359 w_360 rfl rfl rfl rfl, ⟨9, o_if_eq_ok (off := 19) (by decide +kernel) (by decide +kernel), ⟨10, o_aload_ok (fun h k => q_aload_nr (k0 := 0) (by decide +kernel) rfl h k) (fun h k => q_aload_nq (k0 := 0) (by decide +kernel) rfl h k), ⟨13, o_getR_ok (ci := 2) (by decide +kernel) (f_TreePasses_Program_21 m_24 rfl) rfl, ⟨14, o_iload_ok (fun h k => q_iload_ni (k0 := 1) (by decide +kernel) rfl h k) (fun h k => q_iload_ns (k0 := 1) (by decide +kernel) rfl h k), ⟨15, o_push_ok (fun k => q_iconst (n := 5) (by decide +kernel) (by decide +kernel) k), ⟨16, o_bin_ok (fun k => q_imul (by decide +kernel) k), ⟨17, o_iload_ok (fun h k => q_iload_ni (k0 := 2) (by decide +kernel) rfl h k) (fun h k => q_iload_ns (k0 := 2) (by decide +kernel) rfl h k), ⟨18, o_bin_ok (fun k => q_iadd (by decide +kernel) k), ⟨19, o_push_ok (fun k => q_iconst (n := 4) (by decide +kernel) (by decide +kernel) k), ⟨20, o_bin_ok (fun k => q_imul (by decide +kernel) k), ⟨21, o_iload_ok (fun h k => q_iload_ni (k0 := 3) (by decide +kernel) rfl h k) (fun h k => q_iload_ns (k0 := 3) (by decide +kernel) rfl h k), ⟨22, o_bin_ok (fun k => q_iadd (by decide +kernel) k), ⟨24, o_iload_ok (fun h k => q_iloadi (by decide +kernel) h k) (fun h k => q_iloads (by decide +kernel) h k), ⟨25, o_ast_ok (Or.inl ⟨rfl, rfl, rfl⟩) (by decide +kernel), ⟨0, o_fall_ok rfl, trivial⟩⟩⟩⟩⟩⟩⟩⟩⟩⟩⟩⟩⟩⟩⟩⟩⟩⟩⟩
noncomputable def b_24_1 : List q_Op := [o_vret 0 0]
theorem k_24_1 (E : q_E) (hL : E.2.2.2.2 = 5) : q_okC E t_24 q_mt m_24 25 b_24_1 := ⟨0, o_vret_ok (by decide +kernel) rfl rfl rfl, trivial⟩
noncomputable def b_24 : List (List q_Op) := [b_24_0, b_24_1]
theorem a_24 (E : q_E) (hL : E.2.2.2.2 = 5) : q_okB E t_24 q_mt m_24 0 b_24 := ⟨k_24_0 E hL, k_24_1 E hL, trivial⟩
theorem h_24 (E : q_E) (hL : E.2.2.2.2 = 5) : q_okM E q_mt m_24 (5, b_24) := ⟨t_24, rfl, rfl, q_okB_all (a_24 E hL), by decide +kernel⟩
def t_25 (b : Nat) : Nat := [0].getD b 0
noncomputable def b_25_0 : List q_Op := [o_aload 0, o_objI 26, o_aload 0, o_push (.inl 33), o_newa 0 6 360, o_putR 7 0, o_aload 0, o_push (.inl 3), o_newa 0 6 360, o_putR 7 1, o_aload 0, o_push (.inl 2), o_newa 0 6 360, o_putR 7 2, o_aload 0, o_push (.inl 40), o_newa 0 6 360, o_putR 7 3, o_aload 0, o_push (.inl 192), o_newa 0 6 360, o_putR 7 4, o_aload 0, o_push (.inl 90), o_newa 0 6 360, o_putR 7 5, o_vret 6 360]
theorem k_25_0 (E : q_E) (hL : E.2.2.2.2 = 5) : q_okC E t_25 q_mt m_25 0 b_25_0 := ⟨1, o_aload_ok (fun h k => q_aload_nr (k0 := 0) (by decide +kernel) rfl h k) (fun h k => q_aload_nq (k0 := 0) (by decide +kernel) rfl h k), ⟨4, o_objI_ok (by decide +kernel) w_58 (by decide) rfl ⟨w_oi, w_oc⟩, ⟨5, o_aload_ok (fun h k => q_aload_nr (k0 := 0) (by decide +kernel) rfl h k) (fun h k => q_aload_nq (k0 := 0) (by decide +kernel) rfl h k), ⟨7, o_push_ok (fun k => q_bipush (n := 33) (by decide +kernel) (by decide +kernel) k), ⟨9, o_newa_ok (by decide) (by decide +kernel) w_52 rfl rfl, ⟨12, o_putR_ok (ci := 2) (by decide +kernel) (f_TreePasses_Program_9 m_25 rfl) (fun q hq => by cases hq; exact Or.inr ⟨rfl, rfl, rfl, w_59⟩) (Or.inl ⟨_, rfl⟩), ⟨13, o_aload_ok (fun h k => q_aload_nr (k0 := 0) (by decide +kernel) rfl h k) (fun h k => q_aload_nq (k0 := 0) (by decide +kernel) rfl h k), ⟨14, o_push_ok (fun k => q_iconst (n := 3) (by decide +kernel) (by decide +kernel) k), ⟨16, o_newa_ok (by decide) (by decide +kernel) w_52 rfl rfl, ⟨19, o_putR_ok (ci := 2) (by decide +kernel) (f_TreePasses_Program_15 m_25 rfl) (fun q hq => by cases hq; exact Or.inr ⟨rfl, rfl, rfl, w_60⟩) (Or.inl ⟨_, rfl⟩), ⟨20, o_aload_ok (fun h k => q_aload_nr (k0 := 0) (by decide +kernel) rfl h k) (fun h k => q_aload_nq (k0 := 0) (by decide +kernel) rfl h k), ⟨21, o_push_ok (fun k => q_iconst (n := 2) (by decide +kernel) (by decide +kernel) k), ⟨23, o_newa_ok (by decide) (by decide +kernel) w_52 rfl rfl, ⟨26, o_putR_ok (ci := 2) (by decide +kernel) (f_TreePasses_Program_18 m_25 rfl) (fun q hq => by cases hq; exact Or.inr ⟨rfl, rfl, rfl, w_61⟩) (Or.inl ⟨_, rfl⟩), ⟨27, o_aload_ok (fun h k => q_aload_nr (k0 := 0) (by decide +kernel) rfl h k) (fun h k => q_aload_nq (k0 := 0) (by decide +kernel) rfl h k), ⟨29, o_push_ok (fun k => q_bipush (n := 40) (by decide +kernel) (by decide +kernel) k), ⟨31, o_newa_ok (by decide) (by decide +kernel) w_52 rfl rfl, ⟨34, o_putR_ok (ci := 2) (by decide +kernel) (f_TreePasses_Program_21 m_25 rfl) (fun q hq => by cases hq; exact Or.inr ⟨rfl, rfl, rfl, w_62⟩) (Or.inl ⟨_, rfl⟩), ⟨35, o_aload_ok (fun h k => q_aload_nr (k0 := 0) (by decide +kernel) rfl h k) (fun h k => q_aload_nq (k0 := 0) (by decide +kernel) rfl h k), ⟨38, o_push_ok (fun k => q_sipush (n := 192) (by decide +kernel) (by decide +kernel) k), ⟨40, o_newa_ok (by decide) (by decide +kernel) w_52 rfl rfl, ⟨43, o_putR_ok (ci := 2) (by decide +kernel) (f_TreePasses_Program_24 m_25 rfl) (fun q hq => by cases hq; exact Or.inr ⟨rfl, rfl, rfl, w_63⟩) (Or.inl ⟨_, rfl⟩), ⟨44, o_aload_ok (fun h k => q_aload_nr (k0 := 0) (by decide +kernel) rfl h k) (fun h k => q_aload_nq (k0 := 0) (by decide +kernel) rfl h k), ⟨46, o_push_ok (fun k => q_bipush (n := 90) (by decide +kernel) (by decide +kernel) k), ⟨48, o_newa_ok (by decide) (by decide +kernel) w_52 rfl rfl, ⟨51, o_putR_ok (ci := 2) (by decide +kernel) (f_TreePasses_Program_27 m_25 rfl) (fun q hq => by cases hq; exact Or.inr ⟨rfl, rfl, rfl, w_64⟩) (Or.inl ⟨_, rfl⟩), ⟨0, o_vret_ok (by decide +kernel) rfl rfl rfl, trivial⟩⟩⟩⟩⟩⟩⟩⟩⟩⟩⟩⟩⟩⟩⟩⟩⟩⟩⟩⟩⟩⟩⟩⟩⟩⟩⟩
noncomputable def b_25 : List (List q_Op) := [b_25_0]
theorem a_25 (E : q_E) (hL : E.2.2.2.2 = 5) : q_okB E t_25 q_mt m_25 0 b_25 := ⟨k_25_0 E hL, trivial⟩
theorem h_25 (E : q_E) (hL : E.2.2.2.2 = 5) : q_okM E q_mt m_25 (1, b_25) := ⟨t_25, rfl, rfl, q_okB_all (a_25 E hL), by decide +kernel⟩
def t_26 (b : Nat) : Nat := [0, 26, 33].getD b 0
noncomputable def b_26_0 : List q_Op := [o_aload 0, o_cV 8 4 0 0 0 0 0, o_push (.inl 120), o_bin f_isub, o_istore 2, o_aload 0, o_getI 8 4, o_if_ne 1, o_iload 2, o_iload 1, o_cS 7 1 0 0 0 0, o_cS 2 2 0 0 0 0, o_if_ne 2, o_fall 1]
theorem k_26_0 (E : q_E) (hL : E.2.2.2.2 = 5) : q_okC E t_26 q_mt m_26 0 b_26_0 := ⟨1, o_aload_ok (fun h k => q_aload_nr (k0 := 0) (by decide +kernel) rfl h k) (fun h k => q_aload_nq (k0 := 0) (by decide +kernel) rfl h k), ⟨4, o_cV2_ok (ci := 3) e_4 (by decide +kernel) ⟨by decide +kernel, s_4⟩ w_295 ⟨w_297, wp_2⟩ (fun q hq => by cases hq; rfl) rfl rfl rfl rfl, ⟨6, o_push_ok (fun k => q_bipush (n := 120) (by decide +kernel) (by decide +kernel) k), ⟨7, o_bin_ok (fun k => q_isub (by decide +kernel) k), ⟨8, o_istore_ok (fun k => q_istore_ni (k0 := 2) (by decide +kernel) rfl (by decide) k) (fun k => q_istore_ns (k0 := 2) (by decide +kernel) rfl (by decide) k), ⟨9, o_aload_ok (fun h k => q_aload_nr (k0 := 0) (by decide +kernel) rfl h k) (fun h k => q_aload_nq (k0 := 0) (by decide +kernel) rfl h k), ⟨12, o_getI_ok (ci := 3) (by decide +kernel) (f_TreePasses_Scroll_48 m_26 rfl) rfl, ⟨15, o_if_ne_ok (off := 14) (by decide +kernel) (by decide +kernel), ⟨16, o_iload_ok (fun h k => q_iload_ni (k0 := 2) (by decide +kernel) rfl h k) (fun h k => q_iload_ns (k0 := 2) (by decide +kernel) rfl h k), ⟨17, o_iload_ok (fun h k => q_iload_ni (k0 := 1) (by decide +kernel) rfl h k) (fun h k => q_iload_ns (k0 := 1) (by decide +kernel) rfl h k), ⟨20, o_cSN2_ok e_7 (by decide +kernel) ⟨by decide +kernel, s_7⟩ w_322 w_323 rfl rfl rfl rfl, ⟨23, o_cSN2_ok e_2 (by decide +kernel) ⟨by decide +kernel, s_2⟩ w_307 w_308 rfl rfl rfl rfl, ⟨26, o_if_ne_ok (off := 10) (by decide +kernel) (by decide +kernel), ⟨0, o_fall_ok rfl, trivial⟩⟩⟩⟩⟩⟩⟩⟩⟩⟩⟩⟩⟩⟩
noncomputable def b_26_1 : List q_Op := [o_aload 0, o_push (.inl 1), o_putI 8 4 2, o_push (.inl 0), o_iret 0 0]
theorem k_26_1 (E : q_E) (hL : E.2.2.2.2 = 5) : q_okC E t_26 q_mt m_26 26 b_26_1 := ⟨27, o_aload_ok (fun h k => q_aload_nr (k0 := 0) (by decide +kernel) rfl h k) (fun h k => q_aload_nq (k0 := 0) (by decide +kernel) rfl h k), ⟨28, o_push_ok (fun k => q_iconst (n := 1) (by decide +kernel) (by decide +kernel) k), ⟨31, o_putI_ok (ci := 3) (by decide +kernel) (f_TreePasses_Scroll_48 m_26 rfl) (fun q hq => by cases hq; exact Or.inl rfl) (Or.inr ⟨rfl, rfl⟩), ⟨32, o_push_ok (fun k => q_iconst (n := 0) (by decide +kernel) (by decide +kernel) k), ⟨0, o_iret_ok (by decide +kernel) rfl rfl rfl, trivial⟩⟩⟩⟩⟩
noncomputable def b_26_2 : List q_Op := [o_aload 0, o_dup, o_getI 8 3, o_push (.inl 1), o_bin f_iadd, o_putI 8 3 18446744073709551616, o_iload 2, o_iret 0 0]
theorem k_26_2 (E : q_E) (hL : E.2.2.2.2 = 5) : q_okC E t_26 q_mt m_26 33 b_26_2 := ⟨34, o_aload_ok (fun h k => q_aload_nr (k0 := 0) (by decide +kernel) rfl h k) (fun h k => q_aload_nq (k0 := 0) (by decide +kernel) rfl h k), ⟨35, o_dup_ok (by decide +kernel), ⟨38, o_getI_ok (ci := 3) (by decide +kernel) (f_TreePasses_Scroll_37 m_26 rfl) rfl, ⟨39, o_push_ok (fun k => q_iconst (n := 1) (by decide +kernel) (by decide +kernel) k), ⟨40, o_bin_ok (fun k => q_iadd (by decide +kernel) k), ⟨43, o_putI_ok (ci := 3) (by decide +kernel) (f_TreePasses_Scroll_37 m_26 rfl) (fun q hq => by cases hq; exact Or.inl rfl) (Or.inl ⟨rfl, rfl⟩), ⟨44, o_iload_ok (fun h k => q_iload_ni (k0 := 2) (by decide +kernel) rfl h k) (fun h k => q_iload_ns (k0 := 2) (by decide +kernel) rfl h k), ⟨0, o_iret_ok (by decide +kernel) rfl rfl rfl, trivial⟩⟩⟩⟩⟩⟩⟩⟩
noncomputable def b_26 : List (List q_Op) := [b_26_0, b_26_1, b_26_2]
theorem a_26 (E : q_E) (hL : E.2.2.2.2 = 5) : q_okB E t_26 q_mt m_26 0 b_26 := ⟨k_26_0 E hL, k_26_1 E hL, k_26_2 E hL, trivial⟩
theorem h_26 (E : q_E) (hL : E.2.2.2.2 = 5) : q_okM E q_mt m_26 (3, b_26) := ⟨t_26, rfl, rfl, q_okB_all (a_26 E hL), by decide +kernel⟩
def t_27 (b : Nat) : Nat := [0, 20, 5].getD b 0
noncomputable def b_27_0 : List q_Op := [o_push (.inl 0), o_istore 2, o_aload 0, o_len, o_istore 3, o_fall 2]
theorem k_27_0 (E : q_E) (hL : E.2.2.2.2 = 5) : q_okC E t_27 q_mt m_27 0 b_27_0 := ⟨1, o_push_ok (fun k => q_iconst (n := 0) (by decide +kernel) (by decide +kernel) k), ⟨2, o_istore_ok (fun k => q_istore_ni (k0 := 2) (by decide +kernel) rfl (by decide) k) (fun k => q_istore_ns (k0 := 2) (by decide +kernel) rfl (by decide) k), ⟨3, o_aload_ok (fun h k => q_aload_nr (k0 := 0) (by decide +kernel) rfl h k) (fun h k => q_aload_nq (k0 := 0) (by decide +kernel) rfl h k), ⟨4, o_len_ok hL (by decide +kernel), ⟨5, o_istore_ok (fun k => q_istore_ni (k0 := 3) (by decide +kernel) rfl (by decide) k) (fun k => q_istore_ns (k0 := 3) (by decide +kernel) rfl (by decide) k), ⟨0, o_fall_ok rfl, trivial⟩⟩⟩⟩⟩⟩
noncomputable def b_27_1 : List q_Op := [o_vret 0 0]
theorem k_27_1 (E : q_E) (hL : E.2.2.2.2 = 5) : q_okC E t_27 q_mt m_27 20 b_27_1 := ⟨0, o_vret_ok (by decide +kernel) rfl rfl rfl, trivial⟩
noncomputable def b_27_2 : List q_Op := [o_iload 2, o_iload 3, o_icmp_ge 1, o_aload 0, o_iload 2, o_iload 1, o_ast 0 18446744073709551616, o_iinc 2 1, o_goto 2]
theorem k_27_2 (E : q_E) (hL : E.2.2.2.2 = 5) : q_okC E t_27 q_mt m_27 5 b_27_2 := ⟨6, o_iload_ok (fun h k => q_iload_ni (k0 := 2) (by decide +kernel) rfl h k) (fun h k => q_iload_ns (k0 := 2) (by decide +kernel) rfl h k), ⟨7, o_iload_ok (fun h k => q_iload_ni (k0 := 3) (by decide +kernel) rfl h k) (fun h k => q_iload_ns (k0 := 3) (by decide +kernel) rfl h k), ⟨10, o_icmp_ge_ok (off := 13) (by decide +kernel) (by decide +kernel), ⟨11, o_aload_ok (fun h k => q_aload_nr (k0 := 0) (by decide +kernel) rfl h k) (fun h k => q_aload_nq (k0 := 0) (by decide +kernel) rfl h k), ⟨12, o_iload_ok (fun h k => q_iload_ni (k0 := 2) (by decide +kernel) rfl h k) (fun h k => q_iload_ns (k0 := 2) (by decide +kernel) rfl h k), ⟨13, o_iload_ok (fun h k => q_iload_ni (k0 := 1) (by decide +kernel) rfl h k) (fun h k => q_iload_ns (k0 := 1) (by decide +kernel) rfl h k), ⟨14, o_ast_ok (Or.inl ⟨rfl, rfl, rfl⟩) (by decide +kernel), ⟨17, o_iinc_ok (n := 1) (by decide +kernel) (by decide +kernel) (by decide), ⟨0, o_goto_ok (off := -12) (by decide +kernel) (by decide +kernel), trivial⟩⟩⟩⟩⟩⟩⟩⟩⟩
noncomputable def b_27 : List (List q_Op) := [b_27_0, b_27_1, b_27_2]
theorem a_27 (E : q_E) (hL : E.2.2.2.2 = 5) : q_okB E t_27 q_mt m_27 0 b_27 := ⟨k_27_0 E hL, k_27_1 E hL, k_27_2 E hL, trivial⟩
theorem h_27 (E : q_E) (hL : E.2.2.2.2 = 5) : q_okM E q_mt m_27 (4, b_27) := ⟨t_27, rfl, rfl, q_okB_all (a_27 E hL), by decide +kernel⟩
def t_28 (b : Nat) : Nat := [0, 72, 66, 28].getD b 0
noncomputable def b_28_0 : List q_Op := [o_aload 0, o_push (.inl 2), o_cV 8 8 1 0 0 0 0, o_istore 2, o_aload 0, o_cV 8 15 0 0 0 0 0, o_istore 3, o_aload 0, o_push (.inl 61), o_cV 8 9 1 0 0 0 0, o_push (.inl 1), o_iload 3, o_cS 7 1 0 0 0 0, o_binc g_ishl f_ishl, o_istore 4, o_push (.inl 0), o_istore 5, o_fall 3]
theorem k_28_0 (E : q_E) (hL : E.2.2.2.2 = 5) : q_okC E t_28 q_mt m_28 0 b_28_0 := ⟨1, o_aload_ok (fun h k => q_aload_nr (k0 := 0) (by decide +kernel) rfl h k) (fun h k => q_aload_nq (k0 := 0) (by decide +kernel) rfl h k), ⟨2, o_push_ok (fun k => q_iconst (n := 2) (by decide +kernel) (by decide +kernel) k), ⟨5, o_cV2_ok (ci := 3) e_8 (by decide +kernel) ⟨by decide +kernel, s_8⟩ w_303 ⟨w_305, wp_4⟩ (fun q hq => by cases hq; rfl) rfl rfl rfl rfl, ⟨6, o_istore_ok (fun k => q_istore_ni (k0 := 2) (by decide +kernel) rfl (by decide) k) (fun k => q_istore_ns (k0 := 2) (by decide +kernel) rfl (by decide) k), ⟨7, o_aload_ok (fun h k => q_aload_nr (k0 := 0) (by decide +kernel) rfl h k) (fun h k => q_aload_nq (k0 := 0) (by decide +kernel) rfl h k), ⟨10, o_cV2_ok (ci := 3) e_15 (by decide +kernel) ⟨by decide +kernel, s_15⟩ w_351 ⟨w_353, wp_11⟩ (fun q hq => by cases hq; rfl) rfl rfl rfl rfl, ⟨11, o_istore_ok (fun k => q_istore_ni (k0 := 3) (by decide +kernel) rfl (by decide) k) (fun k => q_istore_ns (k0 := 3) (by decide +kernel) rfl (by decide) k), ⟨12, o_aload_ok (fun h k => q_aload_nr (k0 := 0) (by decide +kernel) rfl h k) (fun h k => q_aload_nq (k0 := 0) (by decide +kernel) rfl h k), ⟨14, o_push_ok (fun k => q_bipush (n := 61) (by decide +kernel) (by decide +kernel) k), ⟨17, o_cV2_ok (ci := 3) e_9 (by decide +kernel) ⟨by decide +kernel, s_9⟩ w_310 ⟨w_312, wp_5⟩ (fun q hq => by cases hq; rfl) rfl rfl rfl rfl, ⟨18, o_push_ok (fun k => q_iconst (n := 1) (by decide +kernel) (by decide +kernel) k), ⟨19, o_iload_ok (fun h k => q_iload_ni (k0 := 3) (by decide +kernel) rfl h k) (fun h k => q_iload_ns (k0 := 3) (by decide +kernel) rfl h k), ⟨22, o_cSN2_ok e_7 (by decide +kernel) ⟨by decide +kernel, s_7⟩ w_322 w_323 rfl rfl rfl rfl, ⟨23, o_ishl_ok (by decide +kernel), ⟨25, o_istore_ok (fun k => q_istorei (by decide +kernel) (by decide) k) (fun k => q_istores (by decide +kernel) (by decide) k), ⟨26, o_push_ok (fun k => q_iconst (n := 0) (by decide +kernel) (by decide +kernel) k), ⟨28, o_istore_ok (fun k => q_istorei (by decide +kernel) (by decide) k) (fun k => q_istores (by decide +kernel) (by decide) k), ⟨0, o_fall_ok rfl, trivial⟩⟩⟩⟩⟩⟩⟩⟩⟩⟩⟩⟩⟩⟩⟩⟩⟩⟩
noncomputable def b_28_1 : List q_Op := [o_vret 0 0]
theorem k_28_1 (E : q_E) (hL : E.2.2.2.2 = 5) : q_okC E t_28 q_mt m_28 72 b_28_1 := ⟨0, o_vret_ok (by decide +kernel) rfl rfl rfl, trivial⟩
noncomputable def b_28_2 : List q_Op := [o_iinc 5 1, o_goto 3]
theorem k_28_2 (E : q_E) (hL : E.2.2.2.2 = 5) : q_okC E t_28 q_mt m_28 66 b_28_2 := ⟨69, o_iinc_ok (n := 1) (by decide +kernel) (by decide +kernel) (by decide), ⟨0, o_goto_ok (off := -41) (by decide +kernel) (by decide +kernel), trivial⟩⟩
noncomputable def b_28_3 : List q_Op := [o_iload 5, o_iload 4, o_icmp_ge 1, o_aload 0, o_getI 8 4, o_if_ne 1, o_aload 0, o_push (.inl 2), o_cV 8 8 1 0 0 0 0, o_istore 6, o_aload 0, o_getI 8 4, o_if_ne 2, o_aload 1, o_iload 2, o_iload 3, o_iload 5, o_iload 6, o_cV 7 24 4 0 0 0 0, o_fall 2]
theorem k_28_3 (E : q_E) (hL : E.2.2.2.2 = 5) : q_okC E t_28 q_mt m_28 28 b_28_3 := ⟨30, o_iload_ok (fun h k => q_iloadi (by decide +kernel) h k) (fun h k => q_iloads (by decide +kernel) h k), ⟨32, o_iload_ok (fun h k => q_iloadi (by decide +kernel) h k) (fun h k => q_iloads (by decide +kernel) h k), ⟨35, o_icmp_ge_ok (off := 40) (by decide +kernel) (by decide +kernel), ⟨36, o_aload_ok (fun h k => q_aload_nr (k0 := 0) (by decide +kernel) rfl h k) (fun h k => q_aload_nq (k0 := 0) (by decide +kernel) rfl h k), ⟨39, o_getI_ok (ci := 3) (by decide +kernel) (f_TreePasses_Scroll_48 m_28 rfl) rfl, ⟨42, o_if_ne_ok (off := 33) (by decide +kernel) (by decide +kernel), ⟨43, o_aload_ok (fun h k => q_aload_nr (k0 := 0) (by decide +kernel) rfl h k) (fun h k => q_aload_nq (k0 := 0) (by decide +kernel) rfl h k), ⟨44, o_push_ok (fun k => q_iconst (n := 2) (by decide +kernel) (by decide +kernel) k), ⟨47, o_cV2_ok (ci := 3) e_8 (by decide +kernel) ⟨by decide +kernel, s_8⟩ w_303 ⟨w_305, wp_4⟩ (fun q hq => by cases hq; rfl) rfl rfl rfl rfl, ⟨49, o_istore_ok (fun k => q_istorei (by decide +kernel) (by decide) k) (fun k => q_istores (by decide +kernel) (by decide) k), ⟨50, o_aload_ok (fun h k => q_aload_nr (k0 := 0) (by decide +kernel) rfl h k) (fun h k => q_aload_nq (k0 := 0) (by decide +kernel) rfl h k), ⟨53, o_getI_ok (ci := 3) (by decide +kernel) (f_TreePasses_Scroll_48 m_28 rfl) rfl, ⟨56, o_if_ne_ok (off := 13) (by decide +kernel) (by decide +kernel), ⟨57, o_aload_ok (fun h k => q_aload_nr (k0 := 1) (by decide +kernel) rfl h k) (fun h k => q_aload_nq (k0 := 1) (by decide +kernel) rfl h k), ⟨58, o_iload_ok (fun h k => q_iload_ni (k0 := 2) (by decide +kernel) rfl h k) (fun h k => q_iload_ns (k0 := 2) (by decide +kernel) rfl h k), ⟨59, o_iload_ok (fun h k => q_iload_ni (k0 := 3) (by decide +kernel) rfl h k) (fun h k => q_iload_ns (k0 := 3) (by decide +kernel) rfl h k), ⟨61, o_iload_ok (fun h k => q_iloadi (by decide +kernel) h k) (fun h k => q_iloads (by decide +kernel) h k), ⟨63, o_iload_ok (fun h k => q_iloadi (by decide +kernel) h k) (fun h k => q_iloads (by decide +kernel) h k), ⟨66, o_cV2_ok (ci := 2) e_24 (by decide +kernel) ⟨by decide +kernel, s_24⟩ w_355 ⟨w_356, w_357⟩ (fun q hq => by cases hq; rfl) rfl rfl rfl rfl, ⟨0, o_fall_ok rfl, trivial⟩⟩⟩⟩⟩⟩⟩⟩⟩⟩⟩⟩⟩⟩⟩⟩⟩⟩⟩⟩
noncomputable def b_28 : List (List q_Op) := [b_28_0, b_28_1, b_28_2, b_28_3]
theorem a_28 (E : q_E) (hL : E.2.2.2.2 = 5) : q_okB E t_28 q_mt m_28 0 b_28 := ⟨k_28_0 E hL, k_28_1 E hL, k_28_2 E hL, k_28_3 E hL, trivial⟩
theorem h_28 (E : q_E) (hL : E.2.2.2.2 = 5) : q_okM E q_mt m_28 (7, b_28) := ⟨t_28, rfl, rfl, q_okB_all (a_28 E hL), by decide +kernel⟩
def t_29 (b : Nat) : Nat := [0, 21, 43, 33, 133, 85, 95, 110, 123, 121, 56].getD b 0
noncomputable def b_29_0 : List q_Op := [o_iload 2, o_cS 0 1 0 0 0 0, o_istore 5, o_aload 0, o_getR 14 2, o_push (.inl 0), o_iload 2, o_iload 5, o_if_ne 1, o_push (.inl 0), o_goto 2]
theorem k_29_0 (E : q_E) (hL : E.2.2.2.2 = 5) : q_okC E t_29 q_mt m_29 0 b_29_0 := ⟨1, o_iload_ok (fun h k => q_iload_ni (k0 := 2) (by decide +kernel) rfl h k) (fun h k => q_iload_ns (k0 := 2) (by decide +kernel) rfl h k), ⟨4, o_cS2_ok e_0 (by decide +kernel) ⟨by decide +kernel, s_0⟩ w_1041 w_1042 rfl rfl rfl rfl, ⟨6, o_istore_ok (fun k => q_istorei (by decide +kernel) (by decide) k) (fun k => q_istores (by decide +kernel) (by decide) k), ⟨7, o_aload_ok (fun h k => q_aload_nr (k0 := 0) (by decide +kernel) rfl h k) (fun h k => q_aload_nq (k0 := 0) (by decide +kernel) rfl h k), ⟨10, o_getR_ok (ci := 9) (by decide +kernel) (f_TreePassesModel_13 m_29 rfl) rfl, ⟨11, o_push_ok (fun k => q_iconst (n := 0) (by decide +kernel) (by decide +kernel) k), ⟨12, o_iload_ok (fun h k => q_iload_ni (k0 := 2) (by decide +kernel) rfl h k) (fun h k => q_iload_ns (k0 := 2) (by decide +kernel) rfl h k), ⟨14, o_iload_ok (fun h k => q_iloadi (by decide +kernel) h k) (fun h k => q_iloads (by decide +kernel) h k), ⟨17, o_if_ne_ok (off := 7) (by decide +kernel) (by decide +kernel), ⟨18, o_push_ok (fun k => q_iconst (n := 0) (by decide +kernel) (by decide +kernel) k), ⟨0, o_goto_ok (off := 25) (by decide +kernel) (by decide +kernel), trivial⟩⟩⟩⟩⟩⟩⟩⟩⟩⟩⟩
noncomputable def b_29_1 : List q_Op := [o_iload 5, o_push (.inl 1), o_icmp_ne 3, o_iload 3, o_push (.inl 2), o_binc g_irem f_irem, o_goto 2]
theorem k_29_1 (E : q_E) (hL : E.2.2.2.2 = 5) : q_okC E t_29 q_mt m_29 21 b_29_1 := ⟨23, o_iload_ok (fun h k => q_iloadi (by decide +kernel) h k) (fun h k => q_iloads (by decide +kernel) h k), ⟨24, o_push_ok (fun k => q_iconst (n := 1) (by decide +kernel) (by decide +kernel) k), ⟨27, o_icmp_ne_ok (off := 9) (by decide +kernel) (by decide +kernel), ⟨28, o_iload_ok (fun h k => q_iload_ni (k0 := 3) (by decide +kernel) rfl h k) (fun h k => q_iload_ns (k0 := 3) (by decide +kernel) rfl h k), ⟨29, o_push_ok (fun k => q_iconst (n := 2) (by decide +kernel) (by decide +kernel) k), ⟨30, o_irem_ok (by decide +kernel), ⟨0, o_goto_ok (off := 13) (by decide +kernel) (by decide +kernel), trivial⟩⟩⟩⟩⟩⟩⟩
noncomputable def b_29_2 : List q_Op := [o_cS 17 3 0 0 0 0, o_iald, o_istore 6, o_iload 6, o_istore 7, o_push (.inl 0), o_istore 8, o_fall 10]
theorem k_29_2 (E : q_E) (hL : E.2.2.2.2 = 5) : q_okC E t_29 q_mt m_29 43 b_29_2 := ⟨46, o_cS2_ok e_17 (by decide +kernel) ⟨by decide +kernel, s_17⟩ w_893 w_894 rfl rfl rfl rfl, ⟨47, o_iald_ok hL (by decide +kernel), ⟨49, o_istore_ok (fun k => q_istorei (by decide +kernel) (by decide) k) (fun k => q_istores (by decide +kernel) (by decide) k), ⟨51, o_iload_ok (fun h k => q_iloadi (by decide +kernel) h k) (fun h k => q_iloads (by decide +kernel) h k), ⟨53, o_istore_ok (fun k => q_istorei (by decide +kernel) (by decide) k) (fun k => q_istores (by decide +kernel) (by decide) k), ⟨54, o_push_ok (fun k => q_iconst (n := 0) (by decide +kernel) (by decide +kernel) k), ⟨56, o_istore_ok (fun k => q_istorei (by decide +kernel) (by decide) k) (fun k => q_istores (by decide +kernel) (by decide) k), ⟨0, o_fall_ok rfl, trivial⟩⟩⟩⟩⟩⟩⟩⟩
noncomputable def b_29_3 : List q_Op := [o_push (.inl 2), o_iload 3, o_push (.inl 2), o_binc g_irem f_irem, o_bin f_imul, o_iload 4, o_push (.inl 2), o_binc g_irem f_irem, o_bin f_iadd, o_fall 2]
theorem k_29_3 (E : q_E) (hL : E.2.2.2.2 = 5) : q_okC E t_29 q_mt m_29 33 b_29_3 := ⟨34, o_push_ok (fun k => q_iconst (n := 2) (by decide +kernel) (by decide +kernel) k), ⟨35, o_iload_ok (fun h k => q_iload_ni (k0 := 3) (by decide +kernel) rfl h k) (fun h k => q_iload_ns (k0 := 3) (by decide +kernel) rfl h k), ⟨36, o_push_ok (fun k => q_iconst (n := 2) (by decide +kernel) (by decide +kernel) k), ⟨37, o_irem_ok (by decide +kernel), ⟨38, o_bin_ok (fun k => q_imul (by decide +kernel) k), ⟨40, o_iload_ok (fun h k => q_iloadi (by decide +kernel) h k) (fun h k => q_iloads (by decide +kernel) h k), ⟨41, o_push_ok (fun k => q_iconst (n := 2) (by decide +kernel) (by decide +kernel) k), ⟨42, o_irem_ok (by decide +kernel), ⟨43, o_bin_ok (fun k => q_iadd (by decide +kernel) k), ⟨0, o_fall_ok rfl, trivial⟩⟩⟩⟩⟩⟩⟩⟩⟩⟩
noncomputable def b_29_4 : List q_Op := [o_iload 7, o_iret 0 0]
theorem k_29_4 (E : q_E) (hL : E.2.2.2.2 = 5) : q_okC E t_29 q_mt m_29 133 b_29_4 := ⟨135, o_iload_ok (fun h k => q_iloadi (by decide +kernel) h k) (fun h k => q_iloads (by decide +kernel) h k), ⟨0, o_iret_ok (by decide +kernel) rfl rfl rfl, trivial⟩⟩
noncomputable def b_29_5 : List q_Op := [o_aload 0, o_iload 1, o_iload 9, o_iload 3, o_iload 4, o_cV 14 38 4 0 0 0 0, o_fall 6]
theorem k_29_5 (E : q_E) (hL : E.2.2.2.2 = 5) : q_okC E t_29 q_mt m_29 85 b_29_5 := ⟨86, o_aload_ok (fun h k => q_aload_nr (k0 := 0) (by decide +kernel) rfl h k) (fun h k => q_aload_nq (k0 := 0) (by decide +kernel) rfl h k), ⟨87, o_iload_ok (fun h k => q_iload_ni (k0 := 1) (by decide +kernel) rfl h k) (fun h k => q_iload_ns (k0 := 1) (by decide +kernel) rfl h k), ⟨89, o_iload_ok (fun h k => q_iloadi (by decide +kernel) h k) (fun h k => q_iloads (by decide +kernel) h k), ⟨90, o_iload_ok (fun h k => q_iload_ni (k0 := 3) (by decide +kernel) rfl h k) (fun h k => q_iload_ns (k0 := 3) (by decide +kernel) rfl h k), ⟨92, o_iload_ok (fun h k => q_iloadi (by decide +kernel) h k) (fun h k => q_iloads (by decide +kernel) h k), ⟨95, o_cV2_ok (ci := 9) e_38 (by decide +kernel) ⟨by decide +kernel, s_38⟩ w_1230 ⟨w_1232, wp_70⟩ (fun q hq => by cases hq; rfl) rfl rfl rfl rfl, ⟨0, o_fall_ok rfl, trivial⟩⟩⟩⟩⟩⟩⟩
noncomputable def b_29_6 : List q_Op := [o_istore 10, o_iload 7, o_iload 10, o_iload 8, o_if_ne 7, o_push (.inl 2), o_goto 8]
theorem k_29_6 (E : q_E) (hL : E.2.2.2.2 = 5) : q_okC E t_29 q_mt m_29 95 b_29_6 := ⟨97, o_istore_ok (fun k => q_istorei (by decide +kernel) (by decide) k) (fun k => q_istores (by decide +kernel) (by decide) k), ⟨99, o_iload_ok (fun h k => q_iloadi (by decide +kernel) h k) (fun h k => q_iloads (by decide +kernel) h k), ⟨101, o_iload_ok (fun h k => q_iloadi (by decide +kernel) h k) (fun h k => q_iloads (by decide +kernel) h k), ⟨103, o_iload_ok (fun h k => q_iloadi (by decide +kernel) h k) (fun h k => q_iloads (by decide +kernel) h k), ⟨106, o_if_ne_ok (off := 7) (by decide +kernel) (by decide +kernel), ⟨107, o_push_ok (fun k => q_iconst (n := 2) (by decide +kernel) (by decide +kernel) k), ⟨0, o_goto_ok (off := 16) (by decide +kernel) (by decide +kernel), trivial⟩⟩⟩⟩⟩⟩⟩
noncomputable def b_29_7 : List q_Op := [o_iload 8, o_push (.inl 1), o_icmp_ne 9, o_push (.inl 6), o_goto 8]
theorem k_29_7 (E : q_E) (hL : E.2.2.2.2 = 5) : q_okC E t_29 q_mt m_29 110 b_29_7 := ⟨112, o_iload_ok (fun h k => q_iloadi (by decide +kernel) h k) (fun h k => q_iloads (by decide +kernel) h k), ⟨113, o_push_ok (fun k => q_iconst (n := 1) (by decide +kernel) (by decide +kernel) k), ⟨116, o_icmp_ne_ok (off := 8) (by decide +kernel) (by decide +kernel), ⟨118, o_push_ok (fun k => q_bipush (n := 6) (by decide +kernel) (by decide +kernel) k), ⟨0, o_goto_ok (off := 5) (by decide +kernel) (by decide +kernel), trivial⟩⟩⟩⟩⟩
noncomputable def b_29_8 : List q_Op := [o_bin f_imul, o_bin f_iadd, o_istore 7, o_iinc 8 1, o_goto 10]
theorem k_29_8 (E : q_E) (hL : E.2.2.2.2 = 5) : q_okC E t_29 q_mt m_29 123 b_29_8 := ⟨124, o_bin_ok (fun k => q_imul (by decide +kernel) k), ⟨125, o_bin_ok (fun k => q_iadd (by decide +kernel) k), ⟨127, o_istore_ok (fun k => q_istorei (by decide +kernel) (by decide) k) (fun k => q_istores (by decide +kernel) (by decide) k), ⟨130, o_iinc_ok (n := 1) (by decide +kernel) (by decide +kernel) (by decide), ⟨0, o_goto_ok (off := -74) (by decide +kernel) (by decide +kernel), trivial⟩⟩⟩⟩⟩
noncomputable def b_29_9 : List q_Op := [o_push (.inl 18), o_fall 8]
theorem k_29_9 (E : q_E) (hL : E.2.2.2.2 = 5) : q_okC E t_29 q_mt m_29 121 b_29_9 := ⟨123, o_push_ok (fun k => q_bipush (n := 18) (by decide +kernel) (by decide +kernel) k), ⟨0, o_fall_ok rfl, trivial⟩⟩
noncomputable def b_29_10 : List q_Op := [o_iload 8, o_push (.inl 3), o_icmp_ge 4, o_aload 0, o_iload 1, o_iload 8, o_iload 2, o_iload 6, o_cV 14 18 4 0 0 0 0, o_istore 9, o_iload 9, o_push (.inl 4294967292), o_icmp_ne 5, o_push (.inl 2), o_goto 6]
theorem k_29_10 (E : q_E) (hL : E.2.2.2.2 = 5) : q_okC E t_29 q_mt m_29 56 b_29_10 := ⟨58, o_iload_ok (fun h k => q_iloadi (by decide +kernel) h k) (fun h k => q_iloads (by decide +kernel) h k), ⟨59, o_push_ok (fun k => q_iconst (n := 3) (by decide +kernel) (by decide +kernel) k), ⟨62, o_icmp_ge_ok (off := 74) (by decide +kernel) (by decide +kernel), ⟨63, o_aload_ok (fun h k => q_aload_nr (k0 := 0) (by decide +kernel) rfl h k) (fun h k => q_aload_nq (k0 := 0) (by decide +kernel) rfl h k), ⟨64, o_iload_ok (fun h k => q_iload_ni (k0 := 1) (by decide +kernel) rfl h k) (fun h k => q_iload_ns (k0 := 1) (by decide +kernel) rfl h k), ⟨66, o_iload_ok (fun h k => q_iloadi (by decide +kernel) h k) (fun h k => q_iloads (by decide +kernel) h k), ⟨67, o_iload_ok (fun h k => q_iload_ni (k0 := 2) (by decide +kernel) rfl h k) (fun h k => q_iload_ns (k0 := 2) (by decide +kernel) rfl h k), ⟨69, o_iload_ok (fun h k => q_iloadi (by decide +kernel) h k) (fun h k => q_iloads (by decide +kernel) h k), ⟨72, o_cV2_ok (ci := 9) e_18 (by decide +kernel) ⟨by decide +kernel, s_18⟩ w_1166 ⟨w_1168, wp_59⟩ (fun q hq => by cases hq; rfl) rfl rfl rfl rfl, ⟨74, o_istore_ok (fun k => q_istorei (by decide +kernel) (by decide) k) (fun k => q_istores (by decide +kernel) (by decide) k), ⟨76, o_iload_ok (fun h k => q_iloadi (by decide +kernel) h k) (fun h k => q_iloads (by decide +kernel) h k), ⟨78, o_push_ok (fun k => q_bipush (n := -4) (by decide +kernel) (by decide +kernel) k), ⟨81, o_icmp_ne_ok (off := 7) (by decide +kernel) (by decide +kernel), ⟨82, o_push_ok (fun k => q_iconst (n := 2) (by decide +kernel) (by decide +kernel) k), ⟨0, o_goto_ok (off := 13) (by decide +kernel) (by decide +kernel), trivial⟩⟩⟩⟩⟩⟩⟩⟩⟩⟩⟩⟩⟩⟩⟩
noncomputable def b_29 : List (List q_Op) := [b_29_0, b_29_1, b_29_2, b_29_3, b_29_4, b_29_5, b_29_6, b_29_7, b_29_8, b_29_9, b_29_10]
theorem a_29 (E : q_E) (hL : E.2.2.2.2 = 5) : q_okB E t_29 q_mt m_29 0 b_29 := ⟨k_29_0 E hL, k_29_1 E hL, k_29_2 E hL, k_29_3 E hL, k_29_4 E hL, k_29_5 E hL, k_29_6 E hL, k_29_7 E hL, k_29_8 E hL, k_29_9 E hL, k_29_10 E hL, trivial⟩
theorem h_29 (E : q_E) (hL : E.2.2.2.2 = 5) : q_okM E q_mt m_29 (11, b_29) := ⟨t_29, rfl, rfl, q_okB_all (a_29 E hL), by decide +kernel⟩
def t_30 (b : Nat) : Nat := [0, 24, 26].getD b 0
noncomputable def b_30_0 : List q_Op := [o_iload 1, o_push (.inl 2), o_cS 2 2 0 0 0 0, o_if_eq 1, o_iload 2, o_push (.inl 5), o_cS 2 2 0 0 0 0, o_if_eq 1, o_iload 3, o_push (.inl 4), o_cS 2 2 0 0 0 0, o_if_ne 2, o_fall 1]
theorem k_30_0 (E : q_E) (hL : E.2.2.2.2 = 5) : q_okC E t_30 q_mt m_30 0 b_30_0 := ⟨1, o_iload_ok (fun h k => q_iload_ni (k0 := 1) (by decide +kernel) rfl h k) (fun h k => q_iload_ns (k0 := 1) (by decide +kernel) rfl h k), ⟨2, o_push_ok (fun k => q_iconst (n := 2) (by decide +kernel) (by decide +kernel) k), ⟨5, o_cSN2_ok e_2 (by decide +kernel) ⟨by decide +kernel, s_2⟩ w_335 w_308 rfl rfl rfl rfl, ⟨8, o_if_eq_ok (off := 19) (by decide +kernel) (by decide +kernel), ⟨9, o_iload_ok (fun h k => q_iload_ni (k0 := 2) (by decide +kernel) rfl h k) (fun h k => q_iload_ns (k0 := 2) (by decide +kernel) rfl h k), ⟨10, o_push_ok (fun k => q_iconst (n := 5) (by decide +kernel) (by decide +kernel) k), ⟨13, o_cSN2_ok e_2 (by decide +kernel) ⟨by decide +kernel, s_2⟩ w_335 w_308 rfl rfl rfl rfl, ⟨16, o_if_eq_ok (off := 11) (by decide +kernel) (by decide +kernel), ⟨17, o_iload_ok (fun h k => q_iload_ni (k0 := 3) (by decide +kernel) rfl h k) (fun h k => q_iload_ns (k0 := 3) (by decide +kernel) rfl h k), ⟨18, o_push_ok (fun k => q_iconst (n := 4) (by decide +kernel) (by decide +kernel) k), ⟨21, o_cSN2_ok e_2 (by decide +kernel) ⟨by decide +kernel, s_2⟩ w_335 w_308 rfl rfl rfl rfl, ⟨24, o_if_ne_ok (off := 5) (by decide +kernel) (by decide +kernel), ⟨0, o_fall_ok rfl, trivial⟩⟩⟩⟩⟩⟩⟩⟩⟩⟩⟩⟩⟩
noncomputable def b_30_1 : List q_Op := [o_push (.inl 0), o_iret 0 0]
theorem k_30_1 (E : q_E) (hL : E.2.2.2.2 = 5) : q_okC E t_30 q_mt m_30 24 b_30_1 := ⟨25, o_push_ok (fun k => q_iconst (n := 0) (by decide +kernel) (by decide +kernel) k), ⟨0, o_iret_ok (by decide +kernel) rfl rfl rfl, trivial⟩⟩
noncomputable def b_30_2 : List q_Op := [o_aload 0, o_getR 7 3, o_iload 1, o_push (.inl 5), o_bin f_imul, o_iload 2, o_bin f_iadd, o_push (.inl 4), o_bin f_imul, o_iload 3, o_bin f_iadd, o_iald, o_iret 0 0]
theorem k_30_2 (E : q_E) (hL : E.2.2.2.2 = 5) : q_okC E t_30 q_mt m_30 26 b_30_2 := ⟨27, o_aload_ok (fun h k => q_aload_nr (k0 := 0) (by decide +kernel) rfl h k) (fun h k => q_aload_nq (k0 := 0) (by decide +kernel) rfl h k), ⟨30, o_getR_ok (ci := 2) (by decide +kernel) (f_TreePasses_Program_21 m_30 rfl) rfl, ⟨31, o_iload_ok (fun h k => q_iload_ni (k0 := 1) (by decide +kernel) rfl h k) (fun h k => q_iload_ns (k0 := 1) (by decide +kernel) rfl h k), ⟨32, o_push_ok (fun k => q_iconst (n := 5) (by decide +kernel) (by decide +kernel) k), ⟨33, o_bin_ok (fun k => q_imul (by decide +kernel) k), ⟨34, o_iload_ok (fun h k => q_iload_ni (k0 := 2) (by decide +kernel) rfl h k) (fun h k => q_iload_ns (k0 := 2) (by decide +kernel) rfl h k), ⟨35, o_bin_ok (fun k => q_iadd (by decide +kernel) k), ⟨36, o_push_ok (fun k => q_iconst (n := 4) (by decide +kernel) (by decide +kernel) k), ⟨37, o_bin_ok (fun k => q_imul (by decide +kernel) k), ⟨38, o_iload_ok (fun h k => q_iload_ni (k0 := 3) (by decide +kernel) rfl h k) (fun h k => q_iload_ns (k0 := 3) (by decide +kernel) rfl h k), ⟨39, o_bin_ok (fun k => q_iadd (by decide +kernel) k), ⟨40, o_iald_ok hL (by decide +kernel), ⟨0, o_iret_ok (by decide +kernel) rfl rfl rfl, trivial⟩⟩⟩⟩⟩⟩⟩⟩⟩⟩⟩⟩⟩
noncomputable def b_30 : List (List q_Op) := [b_30_0, b_30_1, b_30_2]
theorem a_30 (E : q_E) (hL : E.2.2.2.2 = 5) : q_okB E t_30 q_mt m_30 0 b_30 := ⟨k_30_0 E hL, k_30_1 E hL, k_30_2 E hL, trivial⟩
theorem h_30 (E : q_E) (hL : E.2.2.2.2 = 5) : q_okM E q_mt m_30 (4, b_30) := ⟨t_30, rfl, rfl, q_okB_all (a_30 E hL), by decide +kernel⟩
def t_31 (b : Nat) : Nat := [0].getD b 0
noncomputable def b_31_0 : List q_Op := [o_aload 0, o_objI 26, o_vret 0 0]
theorem k_31_0 (E : q_E) (hL : E.2.2.2.2 = 5) : q_okC E t_31 q_mt m_31 0 b_31_0 := ⟨1, o_aload_ok (fun h k => q_aload_nr (k0 := 0) (by decide +kernel) rfl h k) (fun h k => q_aload_nq (k0 := 0) (by decide +kernel) rfl h k), ⟨4, o_objI_ok (by decide +kernel) w_112 (by decide) rfl ⟨w_oi, w_oc⟩, ⟨0, o_vret_ok (by decide +kernel) rfl rfl rfl, trivial⟩⟩⟩
noncomputable def b_31 : List (List q_Op) := [b_31_0]
theorem a_31 (E : q_E) (hL : E.2.2.2.2 = 5) : q_okB E t_31 q_mt m_31 0 b_31 := ⟨k_31_0 E hL, trivial⟩
theorem h_31 (E : q_E) (hL : E.2.2.2.2 = 5) : q_okM E q_mt m_31 (1, b_31) := ⟨t_31, rfl, rfl, q_okB_all (a_31 E hL), by decide +kernel⟩
def t_32 (b : Nat) : Nat := [0, 11, 12, 34, 35, 42, 43].getD b 0
noncomputable def b_32_0 : List q_Op := [o_iload 3, o_push (.inl 2), o_binc g_irem f_irem, o_push (.inl 1), o_icmp_ne 1, o_push (.inl 1), o_goto 2]
theorem k_32_0 (E : q_E) (hL : E.2.2.2.2 = 5) : q_okC E t_32 q_mt m_32 0 b_32_0 := ⟨1, o_iload_ok (fun h k => q_iload_ni (k0 := 3) (by decide +kernel) rfl h k) (fun h k => q_iload_ns (k0 := 3) (by decide +kernel) rfl h k), ⟨2, o_push_ok (fun k => q_iconst (n := 2) (by decide +kernel) (by decide +kernel) k), ⟨3, o_irem_ok (by decide +kernel), ⟨4, o_push_ok (fun k => q_iconst (n := 1) (by decide +kernel) (by decide +kernel) k), ⟨7, o_icmp_ne_ok (off := 7) (by decide +kernel) (by decide +kernel), ⟨8, o_push_ok (fun k => q_iconst (n := 1) (by decide +kernel) (by decide +kernel) k), ⟨0, o_goto_ok (off := 4) (by decide +kernel) (by decide +kernel), trivial⟩⟩⟩⟩⟩⟩⟩
noncomputable def b_32_1 : List q_Op := [o_push (.inl 0), o_fall 2]
theorem k_32_1 (E : q_E) (hL : E.2.2.2.2 = 5) : q_okC E t_32 q_mt m_32 11 b_32_1 := ⟨12, o_push_ok (fun k => q_iconst (n := 0) (by decide +kernel) (by decide +kernel) k), ⟨0, o_fall_ok rfl, trivial⟩⟩
noncomputable def b_32_2 : List q_Op := [o_aload 0, o_getR 14 2, o_iload 1, o_iald, o_push (.inl 1), o_icmp_le 3, o_iload 2, o_cS 0 1 0 0 0 0, o_push (.inl 2), o_icmp_ne 3, o_push (.inl 1), o_goto 4]
theorem k_32_2 (E : q_E) (hL : E.2.2.2.2 = 5) : q_okC E t_32 q_mt m_32 12 b_32_2 := ⟨13, o_aload_ok (fun h k => q_aload_nr (k0 := 0) (by decide +kernel) rfl h k) (fun h k => q_aload_nq (k0 := 0) (by decide +kernel) rfl h k), ⟨16, o_getR_ok (ci := 9) (by decide +kernel) (f_TreePassesModel_13 m_32 rfl) rfl, ⟨17, o_iload_ok (fun h k => q_iload_ni (k0 := 1) (by decide +kernel) rfl h k) (fun h k => q_iload_ns (k0 := 1) (by decide +kernel) rfl h k), ⟨18, o_iald_ok hL (by decide +kernel), ⟨19, o_push_ok (fun k => q_iconst (n := 1) (by decide +kernel) (by decide +kernel) k), ⟨22, o_icmp_le_ok (off := 15) (by decide +kernel) (by decide +kernel), ⟨23, o_iload_ok (fun h k => q_iload_ni (k0 := 2) (by decide +kernel) rfl h k) (fun h k => q_iload_ns (k0 := 2) (by decide +kernel) rfl h k), ⟨26, o_cS2_ok e_0 (by decide +kernel) ⟨by decide +kernel, s_0⟩ w_1041 w_1042 rfl rfl rfl rfl, ⟨27, o_push_ok (fun k => q_iconst (n := 2) (by decide +kernel) (by decide +kernel) k), ⟨30, o_icmp_ne_ok (off := 7) (by decide +kernel) (by decide +kernel), ⟨31, o_push_ok (fun k => q_iconst (n := 1) (by decide +kernel) (by decide +kernel) k), ⟨0, o_goto_ok (off := 4) (by decide +kernel) (by decide +kernel), trivial⟩⟩⟩⟩⟩⟩⟩⟩⟩⟩⟩⟩
noncomputable def b_32_3 : List q_Op := [o_push (.inl 0), o_fall 4]
theorem k_32_3 (E : q_E) (hL : E.2.2.2.2 = 5) : q_okC E t_32 q_mt m_32 34 b_32_3 := ⟨35, o_push_ok (fun k => q_iconst (n := 0) (by decide +kernel) (by decide +kernel) k), ⟨0, o_fall_ok rfl, trivial⟩⟩
noncomputable def b_32_4 : List q_Op := [o_icmp_eq 5, o_push (.inl 1), o_goto 6]
theorem k_32_4 (E : q_E) (hL : E.2.2.2.2 = 5) : q_okC E t_32 q_mt m_32 35 b_32_4 := ⟨38, o_icmp_eq_ok (off := 7) (by decide +kernel) (by decide +kernel), ⟨39, o_push_ok (fun k => q_iconst (n := 1) (by decide +kernel) (by decide +kernel) k), ⟨0, o_goto_ok (off := 4) (by decide +kernel) (by decide +kernel), trivial⟩⟩⟩
noncomputable def b_32_5 : List q_Op := [o_push (.inl 0), o_fall 6]
theorem k_32_5 (E : q_E) (hL : E.2.2.2.2 = 5) : q_okC E t_32 q_mt m_32 42 b_32_5 := ⟨43, o_push_ok (fun k => q_iconst (n := 0) (by decide +kernel) (by decide +kernel) k), ⟨0, o_fall_ok rfl, trivial⟩⟩
noncomputable def b_32_6 : List q_Op := [o_zret 0 0]
theorem k_32_6 (E : q_E) (hL : E.2.2.2.2 = 5) : q_okC E t_32 q_mt m_32 43 b_32_6 := ⟨0, o_zret_ok (by decide +kernel) rfl rfl rfl, trivial⟩
noncomputable def b_32 : List (List q_Op) := [b_32_0, b_32_1, b_32_2, b_32_3, b_32_4, b_32_5, b_32_6]
theorem a_32 (E : q_E) (hL : E.2.2.2.2 = 5) : q_okB E t_32 q_mt m_32 0 b_32 := ⟨k_32_0 E hL, k_32_1 E hL, k_32_2 E hL, k_32_3 E hL, k_32_4 E hL, k_32_5 E hL, k_32_6 E hL, trivial⟩
theorem h_32 (E : q_E) (hL : E.2.2.2.2 = 5) : q_okM E q_mt m_32 (4, b_32) := ⟨t_32, rfl, rfl, q_okB_all (a_32 E hL), by decide +kernel⟩
def t_33 (b : Nat) : Nat := [0, 9, 21, 19].getD b 0
noncomputable def b_33_0 : List q_Op := [o_iload 0, o_iload 1, o_if_ne 1, o_push (.inl 2), o_goto 2]
theorem k_33_0 (E : q_E) (hL : E.2.2.2.2 = 5) : q_okC E t_33 q_mt m_33 0 b_33_0 := ⟨1, o_iload_ok (fun h k => q_iload_ni (k0 := 0) (by decide +kernel) rfl h k) (fun h k => q_iload_ns (k0 := 0) (by decide +kernel) rfl h k), ⟨2, o_iload_ok (fun h k => q_iload_ni (k0 := 1) (by decide +kernel) rfl h k) (fun h k => q_iload_ns (k0 := 1) (by decide +kernel) rfl h k), ⟨5, o_if_ne_ok (off := 7) (by decide +kernel) (by decide +kernel), ⟨6, o_push_ok (fun k => q_iconst (n := 2) (by decide +kernel) (by decide +kernel) k), ⟨0, o_goto_ok (off := 15) (by decide +kernel) (by decide +kernel), trivial⟩⟩⟩⟩⟩
noncomputable def b_33_1 : List q_Op := [o_iload 1, o_push (.inl 1), o_icmp_ne 3, o_push (.inl 6), o_goto 2]
theorem k_33_1 (E : q_E) (hL : E.2.2.2.2 = 5) : q_okC E t_33 q_mt m_33 9 b_33_1 := ⟨10, o_iload_ok (fun h k => q_iload_ni (k0 := 1) (by decide +kernel) rfl h k) (fun h k => q_iload_ns (k0 := 1) (by decide +kernel) rfl h k), ⟨11, o_push_ok (fun k => q_iconst (n := 1) (by decide +kernel) (by decide +kernel) k), ⟨14, o_icmp_ne_ok (off := 8) (by decide +kernel) (by decide +kernel), ⟨16, o_push_ok (fun k => q_bipush (n := 6) (by decide +kernel) (by decide +kernel) k), ⟨0, o_goto_ok (off := 5) (by decide +kernel) (by decide +kernel), trivial⟩⟩⟩⟩⟩
noncomputable def b_33_2 : List q_Op := [o_binc g_idiv f_idiv, o_push (.inl 3), o_binc g_irem f_irem, o_iret 0 0]
theorem k_33_2 (E : q_E) (hL : E.2.2.2.2 = 5) : q_okC E t_33 q_mt m_33 21 b_33_2 := ⟨22, o_idiv_ok (by decide +kernel), ⟨23, o_push_ok (fun k => q_iconst (n := 3) (by decide +kernel) (by decide +kernel) k), ⟨24, o_irem_ok (by decide +kernel), ⟨0, o_iret_ok (by decide +kernel) rfl rfl rfl, trivial⟩⟩⟩⟩
noncomputable def b_33_3 : List q_Op := [o_push (.inl 18), o_fall 2]
theorem k_33_3 (E : q_E) (hL : E.2.2.2.2 = 5) : q_okC E t_33 q_mt m_33 19 b_33_3 := ⟨21, o_push_ok (fun k => q_bipush (n := 18) (by decide +kernel) (by decide +kernel) k), ⟨0, o_fall_ok rfl, trivial⟩⟩
noncomputable def b_33 : List (List q_Op) := [b_33_0, b_33_1, b_33_2, b_33_3]
theorem a_33 (E : q_E) (hL : E.2.2.2.2 = 5) : q_okB E t_33 q_mt m_33 0 b_33 := ⟨k_33_0 E hL, k_33_1 E hL, k_33_2 E hL, k_33_3 E hL, trivial⟩
theorem h_33 (E : q_E) (hL : E.2.2.2.2 = 5) : q_okM E q_mt m_33 (2, b_33) := ⟨t_33, rfl, rfl, q_okB_all (a_33 E hL), by decide +kernel⟩
def t_34 (b : Nat) : Nat := [0].getD b 0
noncomputable def b_34_0 : List q_Op := [o_aload 0, o_cI 31 0 0 0 3 120, o_aload 0, o_push (.inl 40), o_newa 0 3 120, o_putR 10 0, o_aload 0, o_push (.inl 40), o_newa 0 3 120, o_putR 10 1, o_aload 0, o_push (.inl 40), o_newa 0 3 120, o_putR 10 2, o_vret 3 120]
theorem k_34_0 (E : q_E) (hL : E.2.2.2.2 = 5) : q_okC E t_34 q_mt m_34 0 b_34_0 := ⟨1, o_aload_ok (fun h k => q_aload_nr (k0 := 0) (by decide +kernel) rfl h k) (fun h k => q_aload_nq (k0 := 0) (by decide +kernel) rfl h k), ⟨4, o_cIN2_ok e_31 (by decide +kernel) ⟨by decide +kernel, s_31⟩ w_109 w_110 ⟨rfl, rfl⟩ rfl rfl rfl rfl, ⟨5, o_aload_ok (fun h k => q_aload_nr (k0 := 0) (by decide +kernel) rfl h k) (fun h k => q_aload_nq (k0 := 0) (by decide +kernel) rfl h k), ⟨7, o_push_ok (fun k => q_bipush (n := 40) (by decide +kernel) (by decide +kernel) k), ⟨9, o_newa_ok (by decide) (by decide +kernel) w_52 rfl rfl, ⟨12, o_putR_ok (ci := 5) (by decide +kernel) (f_TreePasses_Standing_9 m_34 rfl) (fun q hq => by cases hq; exact Or.inr ⟨rfl, rfl, rfl, w_113⟩) (Or.inl ⟨_, rfl⟩), ⟨13, o_aload_ok (fun h k => q_aload_nr (k0 := 0) (by decide +kernel) rfl h k) (fun h k => q_aload_nq (k0 := 0) (by decide +kernel) rfl h k), ⟨15, o_push_ok (fun k => q_bipush (n := 40) (by decide +kernel) (by decide +kernel) k), ⟨17, o_newa_ok (by decide) (by decide +kernel) w_52 rfl rfl, ⟨20, o_putR_ok (ci := 5) (by decide +kernel) (f_TreePasses_Standing_15 m_34 rfl) (fun q hq => by cases hq; exact Or.inr ⟨rfl, rfl, rfl, w_114⟩) (Or.inl ⟨_, rfl⟩), ⟨21, o_aload_ok (fun h k => q_aload_nr (k0 := 0) (by decide +kernel) rfl h k) (fun h k => q_aload_nq (k0 := 0) (by decide +kernel) rfl h k), ⟨23, o_push_ok (fun k => q_bipush (n := 40) (by decide +kernel) (by decide +kernel) k), ⟨25, o_newa_ok (by decide) (by decide +kernel) w_52 rfl rfl, ⟨28, o_putR_ok (ci := 5) (by decide +kernel) (f_TreePasses_Standing_18 m_34 rfl) (fun q hq => by cases hq; exact Or.inr ⟨rfl, rfl, rfl, w_115⟩) (Or.inl ⟨_, rfl⟩), ⟨0, o_vret_ok (by decide +kernel) rfl rfl rfl, trivial⟩⟩⟩⟩⟩⟩⟩⟩⟩⟩⟩⟩⟩⟩⟩
noncomputable def b_34 : List (List q_Op) := [b_34_0]
theorem a_34 (E : q_E) (hL : E.2.2.2.2 = 5) : q_okB E t_34 q_mt m_34 0 b_34 := ⟨k_34_0 E hL, trivial⟩
theorem h_34 (E : q_E) (hL : E.2.2.2.2 = 5) : q_okM E q_mt m_34 (1, b_34) := ⟨t_34, rfl, rfl, q_okB_all (a_34 E hL), by decide +kernel⟩
def t_35 (b : Nat) : Nat := [0, 42].getD b 0
noncomputable def b_35_0 : List q_Op := [o_aload 0, o_push (.inl 3), o_cV 8 8 1 0 0 0 0, o_istore 2, o_aload 0, o_push (.inl 61), o_cV 8 9 1 0 0 0 0, o_aload 0, o_aload 0, o_getR 8 1, o_push (.inl 0), o_push (.inl 11), o_push (.inl 4294967295), o_cV 8 16 4 0 0 0 0, o_istore 3, o_aload 0, o_getI 8 4, o_if_ne 1, o_aload 1, o_iload 2, o_aload 0, o_getR 8 1, o_iload 3, o_cV 7 36 3 0 0 0 0, o_fall 1]
theorem k_35_0 (E : q_E) (hL : E.2.2.2.2 = 5) : q_okC E t_35 q_mt m_35 0 b_35_0 := ⟨1, o_aload_ok (fun h k => q_aload_nr (k0 := 0) (by decide +kernel) rfl h k) (fun h k => q_aload_nq (k0 := 0) (by decide +kernel) rfl h k), ⟨2, o_push_ok (fun k => q_iconst (n := 3) (by decide +kernel) (by decide +kernel) k), ⟨5, o_cV2_ok (ci := 3) e_8 (by decide +kernel) ⟨by decide +kernel, s_8⟩ w_303 ⟨w_305, wp_4⟩ (fun q hq => by cases hq; rfl) rfl rfl rfl rfl, ⟨6, o_istore_ok (fun k => q_istore_ni (k0 := 2) (by decide +kernel) rfl (by decide) k) (fun k => q_istore_ns (k0 := 2) (by decide +kernel) rfl (by decide) k), ⟨7, o_aload_ok (fun h k => q_aload_nr (k0 := 0) (by decide +kernel) rfl h k) (fun h k => q_aload_nq (k0 := 0) (by decide +kernel) rfl h k), ⟨9, o_push_ok (fun k => q_bipush (n := 61) (by decide +kernel) (by decide +kernel) k), ⟨12, o_cV2_ok (ci := 3) e_9 (by decide +kernel) ⟨by decide +kernel, s_9⟩ w_310 ⟨w_312, wp_5⟩ (fun q hq => by cases hq; rfl) rfl rfl rfl rfl, ⟨13, o_aload_ok (fun h k => q_aload_nr (k0 := 0) (by decide +kernel) rfl h k) (fun h k => q_aload_nq (k0 := 0) (by decide +kernel) rfl h k), ⟨14, o_aload_ok (fun h k => q_aload_nr (k0 := 0) (by decide +kernel) rfl h k) (fun h k => q_aload_nq (k0 := 0) (by decide +kernel) rfl h k), ⟨17, o_getR_ok (ci := 3) (by decide +kernel) (f_TreePasses_Scroll_21 m_35 rfl) rfl, ⟨18, o_push_ok (fun k => q_iconst (n := 0) (by decide +kernel) (by decide +kernel) k), ⟨20, o_push_ok (fun k => q_bipush (n := 11) (by decide +kernel) (by decide +kernel) k), ⟨21, o_push_ok (fun k => q_iconst (n := -1) (by decide +kernel) (by decide +kernel) k), ⟨24, o_cV2_ok (ci := 3) e_16 (by decide +kernel) ⟨by decide +kernel, s_16⟩ w_314 ⟨w_316, wp_6⟩ (fun q hq => by cases hq; rfl) rfl rfl rfl rfl, ⟨25, o_istore_ok (fun k => q_istore_ni (k0 := 3) (by decide +kernel) rfl (by decide) k) (fun k => q_istore_ns (k0 := 3) (by decide +kernel) rfl (by decide) k), ⟨26, o_aload_ok (fun h k => q_aload_nr (k0 := 0) (by decide +kernel) rfl h k) (fun h k => q_aload_nq (k0 := 0) (by decide +kernel) rfl h k), ⟨29, o_getI_ok (ci := 3) (by decide +kernel) (f_TreePasses_Scroll_48 m_35 rfl) rfl, ⟨32, o_if_ne_ok (off := 13) (by decide +kernel) (by decide +kernel), ⟨33, o_aload_ok (fun h k => q_aload_nr (k0 := 1) (by decide +kernel) rfl h k) (fun h k => q_aload_nq (k0 := 1) (by decide +kernel) rfl h k), ⟨34, o_iload_ok (fun h k => q_iload_ni (k0 := 2) (by decide +kernel) rfl h k) (fun h k => q_iload_ns (k0 := 2) (by decide +kernel) rfl h k), ⟨35, o_aload_ok (fun h k => q_aload_nr (k0 := 0) (by decide +kernel) rfl h k) (fun h k => q_aload_nq (k0 := 0) (by decide +kernel) rfl h k), ⟨38, o_getR_ok (ci := 3) (by decide +kernel) (f_TreePasses_Scroll_21 m_35 rfl) rfl, ⟨39, o_iload_ok (fun h k => q_iload_ni (k0 := 3) (by decide +kernel) rfl h k) (fun h k => q_iload_ns (k0 := 3) (by decide +kernel) rfl h k), ⟨42, o_cV2_ok (ci := 2) e_36 (by decide +kernel) ⟨by decide +kernel, s_36⟩ w_331 ⟨w_332, w_333⟩ (fun q hq => by cases hq; rfl) rfl rfl rfl rfl, ⟨0, o_fall_ok rfl, trivial⟩⟩⟩⟩⟩⟩⟩⟩⟩⟩⟩⟩⟩⟩⟩⟩⟩⟩⟩⟩⟩⟩⟩⟩⟩
noncomputable def b_35_1 : List q_Op := [o_vret 0 0]
theorem k_35_1 (E : q_E) (hL : E.2.2.2.2 = 5) : q_okC E t_35 q_mt m_35 42 b_35_1 := ⟨0, o_vret_ok (by decide +kernel) rfl rfl rfl, trivial⟩
noncomputable def b_35 : List (List q_Op) := [b_35_0, b_35_1]
theorem a_35 (E : q_E) (hL : E.2.2.2.2 = 5) : q_okB E t_35 q_mt m_35 0 b_35 := ⟨k_35_0 E hL, k_35_1 E hL, trivial⟩
theorem h_35 (E : q_E) (hL : E.2.2.2.2 = 5) : q_okM E q_mt m_35 (4, b_35) := ⟨t_35, rfl, rfl, q_okB_all (a_35 E hL), by decide +kernel⟩
def t_36 (b : Nat) : Nat := [0, 45].getD b 0
noncomputable def b_36_0 : List q_Op := [o_iload 1, o_push (.inl 3), o_cS 2 2 0 0 0 0, o_if_eq 1, o_iload 3, o_if_le 1, o_iload 3, o_push (.inl 11), o_icmp_gt 1, o_iload 3, o_aload 2, o_len, o_icmp_gt 1, o_aload 2, o_push (.inl 0), o_aload 0, o_getR 7 0, o_iload 1, o_push (.inl 11), o_bin f_imul, o_iload 3, o_copy 26, o_aload 0, o_getR 7 1, o_iload 1, o_iload 3, o_ast 0 18446744073709551616, o_fall 1]
theorem k_36_0 (E : q_E) (hL : E.2.2.2.2 = 5) : q_okC E t_36 q_mt m_36 0 b_36_0 := ⟨1, o_iload_ok (fun h k => q_iload_ni (k0 := 1) (by decide +kernel) rfl h k) (fun h k => q_iload_ns (k0 := 1) (by decide +kernel) rfl h k), ⟨2, o_push_ok (fun k => q_iconst (n := 3) (by decide +kernel) (by decide +kernel) k), ⟨5, o_cSN2_ok e_2 (by decide +kernel) ⟨by decide +kernel, s_2⟩ w_335 w_308 rfl rfl rfl rfl, ⟨8, o_if_eq_ok (off := 40) (by decide +kernel) (by decide +kernel), ⟨9, o_iload_ok (fun h k => q_iload_ni (k0 := 3) (by decide +kernel) rfl h k) (fun h k => q_iload_ns (k0 := 3) (by decide +kernel) rfl h k), ⟨12, o_if_le_ok (off := 36) (by decide +kernel) (by decide +kernel), ⟨13, o_iload_ok (fun h k => q_iload_ni (k0 := 3) (by decide +kernel) rfl h k) (fun h k => q_iload_ns (k0 := 3) (by decide +kernel) rfl h k), ⟨15, o_push_ok (fun k => q_bipush (n := 11) (by decide +kernel) (by decide +kernel) k), ⟨18, o_icmp_gt_ok (off := 30) (by decide +kernel) (by decide +kernel), ⟨19, o_iload_ok (fun h k => q_iload_ni (k0 := 3) (by decide +kernel) rfl h k) (fun h k => q_iload_ns (k0 := 3) (by decide +kernel) rfl h k), ⟨20, o_aload_ok (fun h k => q_aload_nr (k0 := 2) (by decide +kernel) rfl h k) (fun h k => q_aload_nq (k0 := 2) (by decide +kernel) rfl h k), ⟨21, o_len_ok hL (by decide +kernel), ⟨24, o_icmp_gt_ok (off := 24) (by decide +kernel) (by decide +kernel), ⟨25, o_aload_ok (fun h k => q_aload_nr (k0 := 2) (by decide +kernel) rfl h k) (fun h k => q_aload_nq (k0 := 2) (by decide +kernel) rfl h k), ⟨26, o_push_ok (fun k => q_iconst (n := 0) (by decide +kernel) (by decide +kernel) k), ⟨27, o_aload_ok (fun h k => q_aload_nr (k0 := 0) (by decide +kernel) rfl h k) (fun h k => q_aload_nq (k0 := 0) (by decide +kernel) rfl h k), ⟨30, o_getR_ok (ci := 2) (by decide +kernel) (f_TreePasses_Program_9 m_36 rfl) rfl, ⟨31, o_iload_ok (fun h k => q_iload_ni (k0 := 1) (by decide +kernel) rfl h k) (fun h k => q_iload_ns (k0 := 1) (by decide +kernel) rfl h k), ⟨33, o_push_ok (fun k => q_bipush (n := 11) (by decide +kernel) (by decide +kernel) k), ⟨34, o_bin_ok (fun k => q_imul (by decide +kernel) k), ⟨35, o_iload_ok (fun h k => q_iload_ni (k0 := 3) (by decide +kernel) rfl h k) (fun h k => q_iload_ns (k0 := 3) (by decide +kernel) rfl h k), ⟨38, o_copy_ok (by decide +kernel) w_336 ⟨w_cn, w_cs, w_ci⟩ (by decide) rfl, ⟨39, o_aload_ok (fun h k => q_aload_nr (k0 := 0) (by decide +kernel) rfl h k) (fun h k => q_aload_nq (k0 := 0) (by decide +kernel) rfl h k), ⟨42, o_getR_ok (ci := 2) (by decide +kernel) (f_TreePasses_Program_15 m_36 rfl) rfl, ⟨43, o_iload_ok (fun h k => q_iload_ni (k0 := 1) (by decide +kernel) rfl h k) (fun h k => q_iload_ns (k0 := 1) (by decide +kernel) rfl h k), ⟨44, o_iload_ok (fun h k => q_iload_ni (k0 := 3) (by decide +kernel) rfl h k) (fun h k => q_iload_ns (k0 := 3) (by decide +kernel) rfl h k), ⟨45, o_ast_ok (Or.inl ⟨rfl, rfl, rfl⟩) (by decide +kernel), ⟨0, o_fall_ok rfl, trivial⟩⟩⟩⟩⟩⟩⟩⟩⟩⟩⟩⟩⟩⟩⟩⟩⟩⟩⟩⟩⟩⟩⟩⟩⟩⟩⟩⟩
noncomputable def b_36_1 : List q_Op := [o_vret 0 0]
theorem k_36_1 (E : q_E) (hL : E.2.2.2.2 = 5) : q_okC E t_36 q_mt m_36 45 b_36_1 := ⟨0, o_vret_ok (by decide +kernel) rfl rfl rfl, trivial⟩
noncomputable def b_36 : List (List q_Op) := [b_36_0, b_36_1]
theorem a_36 (E : q_E) (hL : E.2.2.2.2 = 5) : q_okB E t_36 q_mt m_36 0 b_36 := ⟨k_36_0 E hL, k_36_1 E hL, trivial⟩
theorem h_36 (E : q_E) (hL : E.2.2.2.2 = 5) : q_okM E q_mt m_36 (4, b_36) := ⟨t_36, rfl, rfl, q_okB_all (a_36 E hL), by decide +kernel⟩
def t_37 (b : Nat) : Nat := [0].getD b 0
noncomputable def b_37_0 : List q_Op := [o_push (.inl 5), o_push (.inl 11), o_iload 1, o_bin f_imul, o_bin f_iadd, o_istore 9, o_aload 0, o_getR 14 3, o_push (.inl 2), o_iload 1, o_bin f_iadd, o_iload 2, o_ast 0 18446744073709551616, o_aload 0, o_getR 14 3, o_iload 9, o_iload 3, o_ast 0 18446744073709551616, o_aload 0, o_getR 14 3, o_iload 9, o_push (.inl 1), o_bin f_iadd, o_iload 4, o_ast 0 18446744073709551616, o_aload 0, o_getR 14 3, o_iload 9, o_push (.inl 2), o_bin f_iadd, o_iload 5, o_ast 0 18446744073709551616, o_aload 0, o_getR 14 3, o_iload 9, o_push (.inl 3), o_bin f_iadd, o_iload 6, o_ast 0 18446744073709551616, o_aload 0, o_getR 14 3, o_iload 9, o_push (.inl 4), o_bin f_iadd, o_iload 7, o_ast 0 18446744073709551616, o_aload 0, o_getR 14 3, o_iload 9, o_push (.inl 5), o_bin f_iadd, o_iload 8, o_ast 0 18446744073709551616, o_vret 0 0]
theorem k_37_0 (E : q_E) (hL : E.2.2.2.2 = 5) : q_okC E t_37 q_mt m_37 0 b_37_0 := ⟨1, o_push_ok (fun k => q_iconst (n := 5) (by decide +kernel) (by decide +kernel) k), ⟨3, o_push_ok (fun k => q_bipush (n := 11) (by decide +kernel) (by decide +kernel) k), ⟨4, o_iload_ok (fun h k => q_iload_ni (k0 := 1) (by decide +kernel) rfl h k) (fun h k => q_iload_ns (k0 := 1) (by decide +kernel) rfl h k), ⟨5, o_bin_ok (fun k => q_imul (by decide +kernel) k), ⟨6, o_bin_ok (fun k => q_iadd (by decide +kernel) k), ⟨8, o_istore_ok (fun k => q_istorei (by decide +kernel) (by decide) k) (fun k => q_istores (by decide +kernel) (by decide) k), ⟨9, o_aload_ok (fun h k => q_aload_nr (k0 := 0) (by decide +kernel) rfl h k) (fun h k => q_aload_nq (k0 := 0) (by decide +kernel) rfl h k), ⟨12, o_getR_ok (ci := 9) (by decide +kernel) (f_TreePassesModel_16 m_37 rfl) rfl, ⟨13, o_push_ok (fun k => q_iconst (n := 2) (by decide +kernel) (by decide +kernel) k), ⟨14, o_iload_ok (fun h k => q_iload_ni (k0 := 1) (by decide +kernel) rfl h k) (fun h k => q_iload_ns (k0 := 1) (by decide +kernel) rfl h k), ⟨15, o_bin_ok (fun k => q_iadd (by decide +kernel) k), ⟨16, o_iload_ok (fun h k => q_iload_ni (k0 := 2) (by decide +kernel) rfl h k) (fun h k => q_iload_ns (k0 := 2) (by decide +kernel) rfl h k), ⟨17, o_ast_ok (Or.inl ⟨rfl, rfl, rfl⟩) (by decide +kernel), ⟨18, o_aload_ok (fun h k => q_aload_nr (k0 := 0) (by decide +kernel) rfl h k) (fun h k => q_aload_nq (k0 := 0) (by decide +kernel) rfl h k), ⟨21, o_getR_ok (ci := 9) (by decide +kernel) (f_TreePassesModel_16 m_37 rfl) rfl, ⟨23, o_iload_ok (fun h k => q_iloadi (by decide +kernel) h k) (fun h k => q_iloads (by decide +kernel) h k), ⟨24, o_iload_ok (fun h k => q_iload_ni (k0 := 3) (by decide +kernel) rfl h k) (fun h k => q_iload_ns (k0 := 3) (by decide +kernel) rfl h k), ⟨25, o_ast_ok (Or.inl ⟨rfl, rfl, rfl⟩) (by decide +kernel), ⟨26, o_aload_ok (fun h k => q_aload_nr (k0 := 0) (by decide +kernel) rfl h k) (fun h k => q_aload_nq (k0 := 0) (by decide +kernel) rfl h k), ⟨29, o_getR_ok (ci := 9) (by decide +kernel) (f_TreePassesModel_16 m_37 rfl) rfl, ⟨31, o_iload_ok (fun h k => q_iloadi (by decide +kernel) h k) (fun h k => q_iloads (by decide +kernel) h k), ⟨32, o_push_ok (fun k => q_iconst (n := 1) (by decide +kernel) (by decide +kernel) k), ⟨33, o_bin_ok (fun k => q_iadd (by decide +kernel) k), ⟨35, o_iload_ok (fun h k => q_iloadi (by decide +kernel) h k) (fun h k => q_iloads (by decide +kernel) h k), ⟨36, o_ast_ok (Or.inl ⟨rfl, rfl, rfl⟩) (by decide +kernel), ⟨37, o_aload_ok (fun h k => q_aload_nr (k0 := 0) (by decide +kernel) rfl h k) (fun h k => q_aload_nq (k0 := 0) (by decide +kernel) rfl h k), ⟨40, o_getR_ok (ci := 9) (by decide +kernel) (f_TreePassesModel_16 m_37 rfl) rfl, ⟨42, o_iload_ok (fun h k => q_iloadi (by decide +kernel) h k) (fun h k => q_iloads (by decide +kernel) h k), ⟨43, o_push_ok (fun k => q_iconst (n := 2) (by decide +kernel) (by decide +kernel) k), ⟨44, o_bin_ok (fun k => q_iadd (by decide +kernel) k), ⟨46, o_iload_ok (fun h k => q_iloadi (by decide +kernel) h k) (fun h k => q_iloads (by decide +kernel) h k), ⟨47, o_ast_ok (Or.inl ⟨rfl, rfl, rfl⟩) (by decide +kernel), ⟨48, o_aload_ok (fun h k => q_aload_nr (k0 := 0) (by decide +kernel) rfl h k) (fun h k => q_aload_nq (k0 := 0) (by decide +kernel) rfl h k), ⟨51, o_getR_ok (ci := 9) (by decide +kernel) (f_TreePassesModel_16 m_37 rfl) rfl, ⟨53, o_iload_ok (fun h k => q_iloadi (by decide +kernel) h k) (fun h k => q_iloads (by decide +kernel) h k), ⟨54, o_push_ok (fun k => q_iconst (n := 3) (by decide +kernel) (by decide +kernel) k), ⟨55, o_bin_ok (fun k => q_iadd (by decide +kernel) k), ⟨57, o_iload_ok (fun h k => q_iloadi (by decide +kernel) h k) (fun h k => q_iloads (by decide +kernel) h k), ⟨58, o_ast_ok (Or.inl ⟨rfl, rfl, rfl⟩) (by decide +kernel), ⟨59, o_aload_ok (fun h k => q_aload_nr (k0 := 0) (by decide +kernel) rfl h k) (fun h k => q_aload_nq (k0 := 0) (by decide +kernel) rfl h k), ⟨62, o_getR_ok (ci := 9) (by decide +kernel) (f_TreePassesModel_16 m_37 rfl) rfl, ⟨64, o_iload_ok (fun h k => q_iloadi (by decide +kernel) h k) (fun h k => q_iloads (by decide +kernel) h k), ⟨65, o_push_ok (fun k => q_iconst (n := 4) (by decide +kernel) (by decide +kernel) k), ⟨66, o_bin_ok (fun k => q_iadd (by decide +kernel) k), ⟨68, o_iload_ok (fun h k => q_iloadi (by decide +kernel) h k) (fun h k => q_iloads (by decide +kernel) h k), ⟨69, o_ast_ok (Or.inl ⟨rfl, rfl, rfl⟩) (by decide +kernel), ⟨70, o_aload_ok (fun h k => q_aload_nr (k0 := 0) (by decide +kernel) rfl h k) (fun h k => q_aload_nq (k0 := 0) (by decide +kernel) rfl h k), ⟨73, o_getR_ok (ci := 9) (by decide +kernel) (f_TreePassesModel_16 m_37 rfl) rfl, ⟨75, o_iload_ok (fun h k => q_iloadi (by decide +kernel) h k) (fun h k => q_iloads (by decide +kernel) h k), ⟨76, o_push_ok (fun k => q_iconst (n := 5) (by decide +kernel) (by decide +kernel) k), ⟨77, o_bin_ok (fun k => q_iadd (by decide +kernel) k), ⟨79, o_iload_ok (fun h k => q_iloadi (by decide +kernel) h k) (fun h k => q_iloads (by decide +kernel) h k), ⟨80, o_ast_ok (Or.inl ⟨rfl, rfl, rfl⟩) (by decide +kernel), ⟨0, o_vret_ok (by decide +kernel) rfl rfl rfl, trivial⟩⟩⟩⟩⟩⟩⟩⟩⟩⟩⟩⟩⟩⟩⟩⟩⟩⟩⟩⟩⟩⟩⟩⟩⟩⟩⟩⟩⟩⟩⟩⟩⟩⟩⟩⟩⟩⟩⟩⟩⟩⟩⟩⟩⟩⟩⟩⟩⟩⟩⟩⟩⟩⟩
noncomputable def b_37 : List (List q_Op) := [b_37_0]
theorem a_37 (E : q_E) (hL : E.2.2.2.2 = 5) : q_okB E t_37 q_mt m_37 0 b_37 := ⟨k_37_0 E hL, trivial⟩
theorem h_37 (E : q_E) (hL : E.2.2.2.2 = 5) : q_okM E q_mt m_37 (10, b_37) := ⟨t_37, rfl, rfl, q_okB_all (a_37 E hL), by decide +kernel⟩
end
