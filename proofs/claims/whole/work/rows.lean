section
-- ===== PART A: goes FIRST, ahead of the names: the tables' words, and 'selects' of the private methods out of them =====
/-- a private method of a class that the tables say can be made, by its rows of tables_1 -/
def lw_okq (q : MethodName × Nat) : Prop := (q.1.cls ≠ "java/lang/invoke/MethodHandle" ∧ q.1.cls ≠ "java/lang/invoke/VarHandle") ∧ Cond.instantiable q.1.cls q.2 ∈ tables_1 ∧ Cond.privateMethod q.1 ∈ tables_1 ∧ Cond.instanceMethod q.1 ∈ tables_1
theorem lw_p0 : lw_okq (⟨"NameDesk$ShapeText", "readSlots", "(LNameDesk$Shape;)Z"⟩, 5) := ⟨⟨by decide +kernel, by decide +kernel⟩, List.mem_of_getElem? (i := 50) (by decide +kernel), List.mem_of_getElem? (i := 381) (by decide +kernel), List.mem_of_getElem? (i := 382) (by decide +kernel)⟩
theorem lw_p1 : lw_okq (⟨"NameDesk$ShapeText", "kindHere", "()I"⟩, 5) := ⟨⟨by decide +kernel, by decide +kernel⟩, List.mem_of_getElem? (i := 50) (by decide +kernel), List.mem_of_getElem? (i := 385) (by decide +kernel), List.mem_of_getElem? (i := 386) (by decide +kernel)⟩
theorem lw_p2 : lw_okq (⟨"NameDesk$ShapeText", "here", "()I"⟩, 5) := ⟨⟨by decide +kernel, by decide +kernel⟩, List.mem_of_getElem? (i := 50) (by decide +kernel), List.mem_of_getElem? (i := 389) (by decide +kernel), List.mem_of_getElem? (i := 390) (by decide +kernel)⟩
theorem lw_p3 : lw_okq (⟨"NameDesk$ShapeText", "pass", "(C)Z"⟩, 5) := ⟨⟨by decide +kernel, by decide +kernel⟩, List.mem_of_getElem? (i := 50) (by decide +kernel), List.mem_of_getElem? (i := 478) (by decide +kernel), List.mem_of_getElem? (i := 479) (by decide +kernel)⟩
theorem lw_p4 : lw_okq (⟨"NameDesk$ShapeText", "stopWith", "(I)Z"⟩, 5) := ⟨⟨by decide +kernel, by decide +kernel⟩, List.mem_of_getElem? (i := 50) (by decide +kernel), List.mem_of_getElem? (i := 482) (by decide +kernel), List.mem_of_getElem? (i := 483) (by decide +kernel)⟩
theorem lw_p5 : lw_okq (⟨"NameDesk$ShapeText", "readLetters", "([I)I"⟩, 5) := ⟨⟨by decide +kernel, by decide +kernel⟩, List.mem_of_getElem? (i := 50) (by decide +kernel), List.mem_of_getElem? (i := 486) (by decide +kernel), List.mem_of_getElem? (i := 487) (by decide +kernel)⟩
theorem lw_p6 : lw_okq (⟨"NameDesk$ShapeText", "readEnding", "(LNameDesk$Shape;)Z"⟩, 5) := ⟨⟨by decide +kernel, by decide +kernel⟩, List.mem_of_getElem? (i := 50) (by decide +kernel), List.mem_of_getElem? (i := 490) (by decide +kernel), List.mem_of_getElem? (i := 491) (by decide +kernel)⟩
theorem lw_p7 : lw_okq (⟨"NameDesk$Shape", "openFrom", "(I)I"⟩, 13) := ⟨⟨by decide +kernel, by decide +kernel⟩, List.mem_of_getElem? (i := 73) (by decide +kernel), List.mem_of_getElem? (i := 501) (by decide +kernel), List.mem_of_getElem? (i := 502) (by decide +kernel)⟩
theorem lw_p8 : lw_okq (⟨"NameDesk", "landChanged", "(I)V"⟩, 15) := ⟨⟨by decide +kernel, by decide +kernel⟩, List.mem_of_getElem? (i := 24) (by decide +kernel), List.mem_of_getElem? (i := 505) (by decide +kernel), List.mem_of_getElem? (i := 506) (by decide +kernel)⟩
theorem lw_p9 : lw_okq (⟨"NameDesk", "isEntry", "(III)Z"⟩, 15) := ⟨⟨by decide +kernel, by decide +kernel⟩, List.mem_of_getElem? (i := 24) (by decide +kernel), List.mem_of_getElem? (i := 517) (by decide +kernel), List.mem_of_getElem? (i := 518) (by decide +kernel)⟩
theorem lw_p10 : lw_okq (⟨"NameDesk$Word", "takeSign", "(B)Z"⟩, 4) := ⟨⟨by decide +kernel, by decide +kernel⟩, List.mem_of_getElem? (i := 148) (by decide +kernel), List.mem_of_getElem? (i := 525) (by decide +kernel), List.mem_of_getElem? (i := 526) (by decide +kernel)⟩
theorem lw_p11 : lw_okq (⟨"NameDesk", "isName", "(I)Z"⟩, 15) := ⟨⟨by decide +kernel, by decide +kernel⟩, List.mem_of_getElem? (i := 24) (by decide +kernel), List.mem_of_getElem? (i := 574) (by decide +kernel), List.mem_of_getElem? (i := 575) (by decide +kernel)⟩
theorem lw_p12 : lw_okq (⟨"NameDesk", "listReadings", "(I)V"⟩, 15) := ⟨⟨by decide +kernel, by decide +kernel⟩, List.mem_of_getElem? (i := 24) (by decide +kernel), List.mem_of_getElem? (i := 578) (by decide +kernel), List.mem_of_getElem? (i := 579) (by decide +kernel)⟩
theorem lw_p13 : lw_okq (⟨"NameDesk$Reader", "weighWord", "(LNameDesk$Word;ILNameDesk$Book;[I)V"⟩, 8) := ⟨⟨by decide +kernel, by decide +kernel⟩, List.mem_of_getElem? (i := 193) (by decide +kernel), List.mem_of_getElem? (i := 587) (by decide +kernel), List.mem_of_getElem? (i := 588) (by decide +kernel)⟩
theorem lw_p14 : lw_okq (⟨"NameDesk$Reader", "leastFrom", "(II)I"⟩, 8) := ⟨⟨by decide +kernel, by decide +kernel⟩, List.mem_of_getElem? (i := 193) (by decide +kernel), List.mem_of_getElem? (i := 604) (by decide +kernel), List.mem_of_getElem? (i := 605) (by decide +kernel)⟩
theorem lw_p15 : lw_okq (⟨"NameDesk$Reader", "lengthenRows", "(I)V"⟩, 8) := ⟨⟨by decide +kernel, by decide +kernel⟩, List.mem_of_getElem? (i := 193) (by decide +kernel), List.mem_of_getElem? (i := 612) (by decide +kernel), List.mem_of_getElem? (i := 613) (by decide +kernel)⟩
def lw_privs_1 : List (MethodName × Nat) := [(⟨"NameDesk$ShapeText", "readSlots", "(LNameDesk$Shape;)Z"⟩, 5), (⟨"NameDesk$ShapeText", "kindHere", "()I"⟩, 5), (⟨"NameDesk$ShapeText", "here", "()I"⟩, 5), (⟨"NameDesk$ShapeText", "pass", "(C)Z"⟩, 5), (⟨"NameDesk$ShapeText", "stopWith", "(I)Z"⟩, 5), (⟨"NameDesk$ShapeText", "readLetters", "([I)I"⟩, 5), (⟨"NameDesk$ShapeText", "readEnding", "(LNameDesk$Shape;)Z"⟩, 5), (⟨"NameDesk$Shape", "openFrom", "(I)I"⟩, 13), (⟨"NameDesk", "landChanged", "(I)V"⟩, 15), (⟨"NameDesk", "isEntry", "(III)Z"⟩, 15), (⟨"NameDesk$Word", "takeSign", "(B)Z"⟩, 4), (⟨"NameDesk", "isName", "(I)Z"⟩, 15), (⟨"NameDesk", "listReadings", "(I)V"⟩, 15), (⟨"NameDesk$Reader", "weighWord", "(LNameDesk$Word;ILNameDesk$Book;[I)V"⟩, 8), (⟨"NameDesk$Reader", "leastFrom", "(II)I"⟩, 8), (⟨"NameDesk$Reader", "lengthenRows", "(I)V"⟩, 8)]
theorem lw_r1 : ∀ q ∈ lw_privs_1, lw_okq q := List.forall_mem_cons.mpr ⟨lw_p0, List.forall_mem_cons.mpr ⟨lw_p1, List.forall_mem_cons.mpr ⟨lw_p2, List.forall_mem_cons.mpr ⟨lw_p3, List.forall_mem_cons.mpr ⟨lw_p4, List.forall_mem_cons.mpr ⟨lw_p5, List.forall_mem_cons.mpr ⟨lw_p6, List.forall_mem_cons.mpr ⟨lw_p7, List.forall_mem_cons.mpr ⟨lw_p8, List.forall_mem_cons.mpr ⟨lw_p9, List.forall_mem_cons.mpr ⟨lw_p10, List.forall_mem_cons.mpr ⟨lw_p11, List.forall_mem_cons.mpr ⟨lw_p12, List.forall_mem_cons.mpr ⟨lw_p13, List.forall_mem_cons.mpr ⟨lw_p14, List.forall_mem_cons.mpr ⟨lw_p15, fun _ h => absurd h List.not_mem_nil⟩⟩⟩⟩⟩⟩⟩⟩⟩⟩⟩⟩⟩⟩⟩⟩
theorem lw_p16 : lw_okq (⟨"NameDesk$Reader", "swapRows", "()V"⟩, 8) := ⟨⟨by decide +kernel, by decide +kernel⟩, List.mem_of_getElem? (i := 193) (by decide +kernel), List.mem_of_getElem? (i := 621) (by decide +kernel), List.mem_of_getElem? (i := 622) (by decide +kernel)⟩
theorem lw_p17 : lw_okq (⟨"NameDesk$Reader", "sortByCost", "()V"⟩, 8) := ⟨⟨by decide +kernel, by decide +kernel⟩, List.mem_of_getElem? (i := 193) (by decide +kernel), List.mem_of_getElem? (i := 625) (by decide +kernel), List.mem_of_getElem? (i := 626) (by decide +kernel)⟩
theorem lw_p18 : lw_okq (⟨"NameDesk$Reader", "isRow", "(I)Z"⟩, 8) := ⟨⟨by decide +kernel, by decide +kernel⟩, List.mem_of_getElem? (i := 193) (by decide +kernel), List.mem_of_getElem? (i := 645) (by decide +kernel), List.mem_of_getElem? (i := 646) (by decide +kernel)⟩
theorem lw_p19 : lw_okq (⟨"NameDesk", "rank", "()V"⟩, 15) := ⟨⟨by decide +kernel, by decide +kernel⟩, List.mem_of_getElem? (i := 24) (by decide +kernel), List.mem_of_getElem? (i := 661) (by decide +kernel), List.mem_of_getElem? (i := 662) (by decide +kernel)⟩
theorem lw_p20 : lw_okq (⟨"NameDesk", "freshName", "(I)LNameDesk$Name;"⟩, 15) := ⟨⟨by decide +kernel, by decide +kernel⟩, List.mem_of_getElem? (i := 24) (by decide +kernel), List.mem_of_getElem? (i := 665) (by decide +kernel), List.mem_of_getElem? (i := 666) (by decide +kernel)⟩
theorem lw_p21 : lw_okq (⟨"NameDesk", "lineOf", "(II)LNameDesk$Line;"⟩, 15) := ⟨⟨by decide +kernel, by decide +kernel⟩, List.mem_of_getElem? (i := 24) (by decide +kernel), List.mem_of_getElem? (i := 689) (by decide +kernel), List.mem_of_getElem? (i := 690) (by decide +kernel)⟩
theorem lw_p22 : lw_okq (⟨"NameDesk", "putLine", "(LNameDesk$Name;)LNameDesk$Line;"⟩, 15) := ⟨⟨by decide +kernel, by decide +kernel⟩, List.mem_of_getElem? (i := 24) (by decide +kernel), List.mem_of_getElem? (i := 693) (by decide +kernel), List.mem_of_getElem? (i := 694) (by decide +kernel)⟩
theorem lw_p23 : lw_okq (⟨"NameDesk", "shapeCount", "()I"⟩, 15) := ⟨⟨by decide +kernel, by decide +kernel⟩, List.mem_of_getElem? (i := 24) (by decide +kernel), List.mem_of_getElem? (i := 770) (by decide +kernel), List.mem_of_getElem? (i := 771) (by decide +kernel)⟩
theorem lw_p24 : lw_okq (⟨"java/lang/Throwable", "fillInStackTrace", "(I)Ljava/lang/Throwable;"⟩, 6) := ⟨⟨by decide +kernel, by decide +kernel⟩, List.mem_of_getElem? (i := 820) (by decide +kernel), List.mem_of_getElem? (i := 818) (by decide +kernel), List.mem_of_getElem? (i := 819) (by decide +kernel)⟩
theorem lw_p25 : lw_okq (⟨"NameDesk", "placeInRanking", "(I)I"⟩, 15) := ⟨⟨by decide +kernel, by decide +kernel⟩, List.mem_of_getElem? (i := 24) (by decide +kernel), List.mem_of_getElem? (i := 849) (by decide +kernel), List.mem_of_getElem? (i := 850) (by decide +kernel)⟩
theorem lw_p26 : lw_okq (⟨"NameDeskModel", "slotsRead", "()Z"⟩, 49) := ⟨⟨by decide +kernel, by decide +kernel⟩, List.mem_of_getElem? (i := 869) (by decide +kernel), List.mem_of_getElem? (i := 1035) (by decide +kernel), List.mem_of_getElem? (i := 1036) (by decide +kernel)⟩
theorem lw_p27 : lw_okq (⟨"NameDeskModel", "see", "()I"⟩, 49) := ⟨⟨by decide +kernel, by decide +kernel⟩, List.mem_of_getElem? (i := 869) (by decide +kernel), List.mem_of_getElem? (i := 1039) (by decide +kernel), List.mem_of_getElem? (i := 1040) (by decide +kernel)⟩
theorem lw_p28 : lw_okq (⟨"NameDeskModel", "wrong", "(II)Z"⟩, 49) := ⟨⟨by decide +kernel, by decide +kernel⟩, List.mem_of_getElem? (i := 869) (by decide +kernel), List.mem_of_getElem? (i := 1046) (by decide +kernel), List.mem_of_getElem? (i := 1047) (by decide +kernel)⟩
theorem lw_p29 : lw_okq (⟨"NameDeskModel", "lettersRead", "(I)Z"⟩, 49) := ⟨⟨by decide +kernel, by decide +kernel⟩, List.mem_of_getElem? (i := 869) (by decide +kernel), List.mem_of_getElem? (i := 1050) (by decide +kernel), List.mem_of_getElem? (i := 1051) (by decide +kernel)⟩
theorem lw_p30 : lw_okq (⟨"NameDeskModel", "endingRead", "()Z"⟩, 49) := ⟨⟨by decide +kernel, by decide +kernel⟩, List.mem_of_getElem? (i := 869) (by decide +kernel), List.mem_of_getElem? (i := 1054) (by decide +kernel), List.mem_of_getElem? (i := 1055) (by decide +kernel)⟩
theorem lw_p31 : lw_okq (⟨"NameDeskModel", "isWord", "(II)Z"⟩, 49) := ⟨⟨by decide +kernel, by decide +kernel⟩, List.mem_of_getElem? (i := 869) (by decide +kernel), List.mem_of_getElem? (i := 1069) (by decide +kernel), List.mem_of_getElem? (i := 1070) (by decide +kernel)⟩
def lw_privs_2 : List (MethodName × Nat) := [(⟨"NameDesk$Reader", "swapRows", "()V"⟩, 8), (⟨"NameDesk$Reader", "sortByCost", "()V"⟩, 8), (⟨"NameDesk$Reader", "isRow", "(I)Z"⟩, 8), (⟨"NameDesk", "rank", "()V"⟩, 15), (⟨"NameDesk", "freshName", "(I)LNameDesk$Name;"⟩, 15), (⟨"NameDesk", "lineOf", "(II)LNameDesk$Line;"⟩, 15), (⟨"NameDesk", "putLine", "(LNameDesk$Name;)LNameDesk$Line;"⟩, 15), (⟨"NameDesk", "shapeCount", "()I"⟩, 15), (⟨"java/lang/Throwable", "fillInStackTrace", "(I)Ljava/lang/Throwable;"⟩, 6), (⟨"NameDesk", "placeInRanking", "(I)I"⟩, 15), (⟨"NameDeskModel", "slotsRead", "()Z"⟩, 49), (⟨"NameDeskModel", "see", "()I"⟩, 49), (⟨"NameDeskModel", "wrong", "(II)Z"⟩, 49), (⟨"NameDeskModel", "lettersRead", "(I)Z"⟩, 49), (⟨"NameDeskModel", "endingRead", "()Z"⟩, 49), (⟨"NameDeskModel", "isWord", "(II)Z"⟩, 49)]
theorem lw_r2 : ∀ q ∈ lw_privs_2, lw_okq q := List.forall_mem_cons.mpr ⟨lw_p16, List.forall_mem_cons.mpr ⟨lw_p17, List.forall_mem_cons.mpr ⟨lw_p18, List.forall_mem_cons.mpr ⟨lw_p19, List.forall_mem_cons.mpr ⟨lw_p20, List.forall_mem_cons.mpr ⟨lw_p21, List.forall_mem_cons.mpr ⟨lw_p22, List.forall_mem_cons.mpr ⟨lw_p23, List.forall_mem_cons.mpr ⟨lw_p24, List.forall_mem_cons.mpr ⟨lw_p25, List.forall_mem_cons.mpr ⟨lw_p26, List.forall_mem_cons.mpr ⟨lw_p27, List.forall_mem_cons.mpr ⟨lw_p28, List.forall_mem_cons.mpr ⟨lw_p29, List.forall_mem_cons.mpr ⟨lw_p30, List.forall_mem_cons.mpr ⟨lw_p31, fun _ h => absurd h List.not_mem_nil⟩⟩⟩⟩⟩⟩⟩⟩⟩⟩⟩⟩⟩⟩⟩⟩
theorem lw_p32 : lw_okq (⟨"NameDeskModel", "entry", "(II[III)I"⟩, 49) := ⟨⟨by decide +kernel, by decide +kernel⟩, List.mem_of_getElem? (i := 869) (by decide +kernel), List.mem_of_getElem? (i := 1076) (by decide +kernel), List.mem_of_getElem? (i := 1077) (by decide +kernel)⟩
theorem lw_p33 : lw_okq (⟨"NameDeskModel", "isName", "(I)Z"⟩, 49) := ⟨⟨by decide +kernel, by decide +kernel⟩, List.mem_of_getElem? (i := 869) (by decide +kernel), List.mem_of_getElem? (i := 1092) (by decide +kernel), List.mem_of_getElem? (i := 1093) (by decide +kernel)⟩
theorem lw_p34 : lw_okq (⟨"NameDeskModel", "fill", "(I)V"⟩, 49) := ⟨⟨by decide +kernel, by decide +kernel⟩, List.mem_of_getElem? (i := 869) (by decide +kernel), List.mem_of_getElem? (i := 1096) (by decide +kernel), List.mem_of_getElem? (i := 1097) (by decide +kernel)⟩
theorem lw_p35 : lw_okq (⟨"NameDeskModel", "costOf", "(III)I"⟩, 49) := ⟨⟨by decide +kernel, by decide +kernel⟩, List.mem_of_getElem? (i := 869) (by decide +kernel), List.mem_of_getElem? (i := 1100) (by decide +kernel), List.mem_of_getElem? (i := 1101) (by decide +kernel)⟩
theorem lw_p36 : lw_okq (⟨"NameDeskModel", "slips", "(II)I"⟩, 49) := ⟨⟨by decide +kernel, by decide +kernel⟩, List.mem_of_getElem? (i := 869) (by decide +kernel), List.mem_of_getElem? (i := 1104) (by decide +kernel), List.mem_of_getElem? (i := 1105) (by decide +kernel)⟩
theorem lw_p37 : lw_okq (⟨"NameDeskModel", "goes", "(III)I"⟩, 49) := ⟨⟨by decide +kernel, by decide +kernel⟩, List.mem_of_getElem? (i := 869) (by decide +kernel), List.mem_of_getElem? (i := 1108) (by decide +kernel), List.mem_of_getElem? (i := 1109) (by decide +kernel)⟩
theorem lw_p38 : lw_okq (⟨"NameDeskModel", "reading", "(II)I"⟩, 49) := ⟨⟨by decide +kernel, by decide +kernel⟩, List.mem_of_getElem? (i := 869) (by decide +kernel), List.mem_of_getElem? (i := 1116) (by decide +kernel), List.mem_of_getElem? (i := 1117) (by decide +kernel)⟩
theorem lw_p39 : lw_okq (⟨"NameDeskModel", "kindIn", "(III)I"⟩, 49) := ⟨⟨by decide +kernel, by decide +kernel⟩, List.mem_of_getElem? (i := 869) (by decide +kernel), List.mem_of_getElem? (i := 1124) (by decide +kernel), List.mem_of_getElem? (i := 1125) (by decide +kernel)⟩
theorem lw_p40 : lw_okq (⟨"NameDeskModel", "fails", "(I)I"⟩, 49) := ⟨⟨by decide +kernel, by decide +kernel⟩, List.mem_of_getElem? (i := 869) (by decide +kernel), List.mem_of_getElem? (i := 1132) (by decide +kernel), List.mem_of_getElem? (i := 1133) (by decide +kernel)⟩
theorem lw_p41 : lw_okq (⟨"NameDeskModel", "orderAll", "()V"⟩, 49) := ⟨⟨by decide +kernel, by decide +kernel⟩, List.mem_of_getElem? (i := 869) (by decide +kernel), List.mem_of_getElem? (i := 1136) (by decide +kernel), List.mem_of_getElem? (i := 1137) (by decide +kernel)⟩
theorem lw_p42 : lw_okq (⟨"NameDeskModel", "firstAll", "()V"⟩, 49) := ⟨⟨by decide +kernel, by decide +kernel⟩, List.mem_of_getElem? (i := 869) (by decide +kernel), List.mem_of_getElem? (i := 1140) (by decide +kernel), List.mem_of_getElem? (i := 1141) (by decide +kernel)⟩
theorem lw_p43 : lw_okq (⟨"NameDeskModel", "first", "(I)V"⟩, 49) := ⟨⟨by decide +kernel, by decide +kernel⟩, List.mem_of_getElem? (i := 869) (by decide +kernel), List.mem_of_getElem? (i := 1144) (by decide +kernel), List.mem_of_getElem? (i := 1145) (by decide +kernel)⟩
theorem lw_p44 : lw_okq (⟨"NameDeskModel", "pick", "(IZ)V"⟩, 49) := ⟨⟨by decide +kernel, by decide +kernel⟩, List.mem_of_getElem? (i := 869) (by decide +kernel), List.mem_of_getElem? (i := 1148) (by decide +kernel), List.mem_of_getElem? (i := 1149) (by decide +kernel)⟩
theorem lw_p45 : lw_okq (⟨"NameDeskModel", "placeOf", "(I)I"⟩, 49) := ⟨⟨by decide +kernel, by decide +kernel⟩, List.mem_of_getElem? (i := 869) (by decide +kernel), List.mem_of_getElem? (i := 1152) (by decide +kernel), List.mem_of_getElem? (i := 1153) (by decide +kernel)⟩
theorem lw_p46 : lw_okq (⟨"NameDeskModel", "ahead", "(II)Z"⟩, 49) := ⟨⟨by decide +kernel, by decide +kernel⟩, List.mem_of_getElem? (i := 869) (by decide +kernel), List.mem_of_getElem? (i := 1156) (by decide +kernel), List.mem_of_getElem? (i := 1157) (by decide +kernel)⟩
theorem lw_p47 : lw_okq (⟨"NameDeskModel", "compare", "(II)I"⟩, 49) := ⟨⟨by decide +kernel, by decide +kernel⟩, List.mem_of_getElem? (i := 869) (by decide +kernel), List.mem_of_getElem? (i := 1160) (by decide +kernel), List.mem_of_getElem? (i := 1161) (by decide +kernel)⟩
def lw_privs_3 : List (MethodName × Nat) := [(⟨"NameDeskModel", "entry", "(II[III)I"⟩, 49), (⟨"NameDeskModel", "isName", "(I)Z"⟩, 49), (⟨"NameDeskModel", "fill", "(I)V"⟩, 49), (⟨"NameDeskModel", "costOf", "(III)I"⟩, 49), (⟨"NameDeskModel", "slips", "(II)I"⟩, 49), (⟨"NameDeskModel", "goes", "(III)I"⟩, 49), (⟨"NameDeskModel", "reading", "(II)I"⟩, 49), (⟨"NameDeskModel", "kindIn", "(III)I"⟩, 49), (⟨"NameDeskModel", "fails", "(I)I"⟩, 49), (⟨"NameDeskModel", "orderAll", "()V"⟩, 49), (⟨"NameDeskModel", "firstAll", "()V"⟩, 49), (⟨"NameDeskModel", "first", "(I)V"⟩, 49), (⟨"NameDeskModel", "pick", "(IZ)V"⟩, 49), (⟨"NameDeskModel", "placeOf", "(I)I"⟩, 49), (⟨"NameDeskModel", "ahead", "(II)Z"⟩, 49), (⟨"NameDeskModel", "compare", "(II)I"⟩, 49)]
theorem lw_r3 : ∀ q ∈ lw_privs_3, lw_okq q := List.forall_mem_cons.mpr ⟨lw_p32, List.forall_mem_cons.mpr ⟨lw_p33, List.forall_mem_cons.mpr ⟨lw_p34, List.forall_mem_cons.mpr ⟨lw_p35, List.forall_mem_cons.mpr ⟨lw_p36, List.forall_mem_cons.mpr ⟨lw_p37, List.forall_mem_cons.mpr ⟨lw_p38, List.forall_mem_cons.mpr ⟨lw_p39, List.forall_mem_cons.mpr ⟨lw_p40, List.forall_mem_cons.mpr ⟨lw_p41, List.forall_mem_cons.mpr ⟨lw_p42, List.forall_mem_cons.mpr ⟨lw_p43, List.forall_mem_cons.mpr ⟨lw_p44, List.forall_mem_cons.mpr ⟨lw_p45, List.forall_mem_cons.mpr ⟨lw_p46, List.forall_mem_cons.mpr ⟨lw_p47, fun _ h => absurd h List.not_mem_nil⟩⟩⟩⟩⟩⟩⟩⟩⟩⟩⟩⟩⟩⟩⟩⟩
theorem lw_p48 : lw_okq (⟨"NameDeskModel", "signs", "(II)I"⟩, 49) := ⟨⟨by decide +kernel, by decide +kernel⟩, List.mem_of_getElem? (i := 869) (by decide +kernel), List.mem_of_getElem? (i := 1164) (by decide +kernel), List.mem_of_getElem? (i := 1165) (by decide +kernel)⟩
theorem lw_p49 : lw_okq (⟨"NameDeskModel", "over", "(II)I"⟩, 49) := ⟨⟨by decide +kernel, by decide +kernel⟩, List.mem_of_getElem? (i := 869) (by decide +kernel), List.mem_of_getElem? (i := 1176) (by decide +kernel), List.mem_of_getElem? (i := 1177) (by decide +kernel)⟩
theorem lw_p50 : lw_okq (⟨"NameDeskModel", "wordOf", "(IIII)I"⟩, 49) := ⟨⟨by decide +kernel, by decide +kernel⟩, List.mem_of_getElem? (i := 869) (by decide +kernel), List.mem_of_getElem? (i := 1184) (by decide +kernel), List.mem_of_getElem? (i := 1185) (by decide +kernel)⟩
theorem lw_p51 : lw_okq (⟨"NameDeskModel", "alike", "(II)Z"⟩, 49) := ⟨⟨by decide +kernel, by decide +kernel⟩, List.mem_of_getElem? (i := 869) (by decide +kernel), List.mem_of_getElem? (i := 1200) (by decide +kernel), List.mem_of_getElem? (i := 1201) (by decide +kernel)⟩
theorem lw_p52 : lw_okq (⟨"NameDeskModel", "overAlike", "(II)Z"⟩, 49) := ⟨⟨by decide +kernel, by decide +kernel⟩, List.mem_of_getElem? (i := 869) (by decide +kernel), List.mem_of_getElem? (i := 1204) (by decide +kernel), List.mem_of_getElem? (i := 1205) (by decide +kernel)⟩
def lw_privs_4 : List (MethodName × Nat) := [(⟨"NameDeskModel", "signs", "(II)I"⟩, 49), (⟨"NameDeskModel", "over", "(II)I"⟩, 49), (⟨"NameDeskModel", "wordOf", "(IIII)I"⟩, 49), (⟨"NameDeskModel", "alike", "(II)Z"⟩, 49), (⟨"NameDeskModel", "overAlike", "(II)Z"⟩, 49)]
theorem lw_r4 : ∀ q ∈ lw_privs_4, lw_okq q := List.forall_mem_cons.mpr ⟨lw_p48, List.forall_mem_cons.mpr ⟨lw_p49, List.forall_mem_cons.mpr ⟨lw_p50, List.forall_mem_cons.mpr ⟨lw_p51, List.forall_mem_cons.mpr ⟨lw_p52, fun _ h => absurd h List.not_mem_nil⟩⟩⟩⟩⟩
def lw_privs : List (MethodName × Nat) := lw_privs_1 ++ (lw_privs_2 ++ (lw_privs_3 ++ (lw_privs_4)))
def lw_tbl : List Cond := k2_sels lw_privs ++ tables_1
theorem lw_privs_ok : ∀ q ∈ lw_privs, lw_okq q := by
  show ∀ q ∈ lw_privs_1 ++ (lw_privs_2 ++ (lw_privs_3 ++ (lw_privs_4))), lw_okq q
  exact List.forall_mem_append.mpr ⟨lw_r1, List.forall_mem_append.mpr ⟨lw_r2, List.forall_mem_append.mpr ⟨lw_r3, lw_r4⟩⟩⟩
end
section
def RX0 : String := "NameDesk$Book"
def TX0 : u_T := fun k => match k with
  | 0 => ("NameDesk$Book", "words", "[LNameDesk$Word;", true)
  | 1 => ("NameDesk$Book", "lands", "[I", true)
  | 2 => ("NameDesk$Book", "kinds", "[I", true)
  | _ => ("NameDesk$Book", "size", "I", false)
def tyX0 : Nat → FieldType := fun k => match k with
  | 0 => .array (.object "NameDesk$Word")
  | 1 => .array .int
  | 2 => .array .int
  | _ => .int
abbrev wsX00 : List Cond := u_ws RX0 TX0 4
theorem nmX0 : ∀ a, a < 4 → ∀ b, b < 4 → a ≠ b → (TX0 a).2.1 ≠ (TX0 b).2.1 := by decide +kernel
theorem tyX0_ok : ∀ k, k < 4 → parseFieldDescriptor (TX0 k).2.2.1 = some (tyX0 k) := by decide +kernel
abbrev cX0_init : ByteArray := prog_2_method_1_code
def yX0_init : MethodName := ⟨RX0, "<init>", "()V"⟩
abbrev cX0_find : ByteArray := prog_2_method_2_code
def yX0_find : MethodName := ⟨RX0, "find", "(IILNameDesk$Word;)I"⟩
abbrev cX0_add : ByteArray := prog_2_method_3_code
def yX0_add : MethodName := ⟨RX0, "add", "(IILNameDesk$Word;)V"⟩
abbrev cX0_remove : ByteArray := prog_2_method_4_code
def yX0_remove : MethodName := ⟨RX0, "remove", "(I)V"⟩
abbrev cX0_kindsOf : ByteArray := prog_2_method_5_code
def yX0_kindsOf : MethodName := ⟨RX0, "kindsOf", "(ILNameDesk$Word;I)I"⟩
def RX1 : String := "NameDesk$Line"
def TX1 : u_T := fun k => match k with
  | 0 => ("NameDesk$Line", "signs", "[B", true)
  | _ => ("NameDesk$Line", "size", "I", false)
def tyX1 : Nat → FieldType := fun k => match k with
  | 0 => .array .byte
  | _ => .int
abbrev wsX10 : List Cond := u_ws RX1 TX1 2
theorem nmX1 : ∀ a, a < 2 → ∀ b, b < 2 → a ≠ b → (TX1 a).2.1 ≠ (TX1 b).2.1 := by decide +kernel
theorem tyX1_ok : ∀ k, k < 2 → parseFieldDescriptor (TX1 k).2.2.1 = some (tyX1 k) := by decide +kernel
abbrev cX1_init : ByteArray := prog_3_method_1_code
def yX1_init : MethodName := ⟨RX1, "<init>", "()V"⟩
abbrev cX1_add : ByteArray := prog_3_method_2_code
def yX1_add : MethodName := ⟨RX1, "add", "(B)V"⟩
abbrev cX1_addWord : ByteArray := prog_3_method_3_code
def yX1_addWord : MethodName := ⟨RX1, "addWord", "([BII)V"⟩
abbrev cX1_signAt : ByteArray := prog_3_method_4_code
def yX1_signAt : MethodName := ⟨RX1, "signAt", "(I)I"⟩
abbrev cX1_alike : ByteArray := prog_3_method_5_code
def yX1_alike : MethodName := ⟨RX1, "alike", "(LNameDesk$Line;)Z"⟩
def RX2 : String := "NameDesk$Name"
def TX2 : u_T := fun k => match k with
  | 0 => ("NameDesk$Name", "land", "I", false)
  | 1 => ("NameDesk$Name", "size", "I", false)
  | 2 => ("NameDesk$Name", "words", "[LNameDesk$Word;", true)
  | 3 => ("NameDesk$Name", "fresh", "Z", false)
  | 4 => ("NameDesk$Name", "read", "Z", false)
  | 5 => ("NameDesk$Name", "kinds", "[I", true)
  | 6 => ("NameDesk$Name", "key", "[I", true)
  | 7 => ("NameDesk$Name", "keySize", "I", false)
  | 8 => ("NameDesk$Name", "putFresh", "Z", false)
  | _ => ("NameDesk$Name", "put", "LNameDesk$Line;", true)
def tyX2 : Nat → FieldType := fun k => match k with
  | 0 => .int
  | 1 => .int
  | 2 => .array (.object "NameDesk$Word")
  | 3 => .boolean
  | 4 => .boolean
  | 5 => .array .int
  | 6 => .array .int
  | 7 => .int
  | 8 => .boolean
  | _ => .object "NameDesk$Line"
abbrev wsX20 : List Cond := u_ws RX2 TX2 10
theorem nmX2 : ∀ a, a < 10 → ∀ b, b < 10 → a ≠ b → (TX2 a).2.1 ≠ (TX2 b).2.1 := by decide +kernel
theorem tyX2_ok : ∀ k, k < 10 → parseFieldDescriptor (TX2 k).2.2.1 = some (tyX2 k) := by decide +kernel
abbrev cX2_init : ByteArray := prog_4_method_1_code
def yX2_init : MethodName := ⟨RX2, "<init>", "()V"⟩
abbrev cX2_take : ByteArray := prog_4_method_2_code
def yX2_take : MethodName := ⟨RX2, "take", "([BI)Z"⟩
abbrev cX2_nextOf : ByteArray := prog_4_method_3_code
def yX2_nextOf : MethodName := ⟨RX2, "nextOf", "(II)I"⟩
abbrev cX2_choose : ByteArray := prog_4_method_4_code
def yX2_choose : MethodName := ⟨RX2, "choose", "([II[I)I"⟩
abbrev cX2_isBefore : ByteArray := prog_4_method_5_code
def yX2_isBefore : MethodName := ⟨RX2, "isBefore", "(LNameDesk$Name;)Z"⟩
abbrev cX2_alikeFolded : ByteArray := prog_4_method_6_code
def yX2_alikeFolded : MethodName := ⟨RX2, "alikeFolded", "(LNameDesk$Name;)Z"⟩
def RX3 : String := "NameDesk$Reader"
def TX3 : u_T := fun k => match k with
  | 0 => ("NameDesk$Reader", "shape", "LNameDesk$Shape;", false)
  | 1 => ("NameDesk$Reader", "size", "I", false)
  | 2 => ("NameDesk$Reader", "costs", "[[I", true)
  | 3 => ("NameDesk$Reader", "least", "[[I", true)
  | 4 => ("NameDesk$Reader", "rows", "[J", false)
  | 5 => ("NameDesk$Reader", "spare", "[J", false)
  | 6 => ("NameDesk$Reader", "rowCount", "I", false)
  | _ => ("NameDesk$Reader", "upTo", "[I", true)
def tyX3 : Nat → FieldType := fun k => match k with
  | 0 => .object "NameDesk$Shape"
  | 1 => .int
  | 2 => .array (.array .int)
  | 3 => .array (.array .int)
  | 4 => .array .long
  | 5 => .array .long
  | 6 => .int
  | _ => .array .int
abbrev wsX30 : List Cond := u_ws RX3 TX3 8
theorem nmX3 : ∀ a, a < 8 → ∀ b, b < 8 → a ≠ b → (TX3 a).2.1 ≠ (TX3 b).2.1 := by decide +kernel
theorem tyX3_ok : ∀ k, k < 8 → parseFieldDescriptor (TX3 k).2.2.1 = some (tyX3 k) := by decide +kernel
abbrev cX3_init : ByteArray := prog_5_method_1_code
def yX3_init : MethodName := ⟨RX3, "<init>", "()V"⟩
abbrev cX3_weigh : ByteArray := prog_5_method_2_code
def yX3_weigh : MethodName := ⟨RX3, "weigh", "(LNameDesk$Name;LNameDesk$Shape;LNameDesk$Book;)V"⟩
abbrev cX3_weighWord : ByteArray := prog_5_method_3_code
def yX3_weighWord : MethodName := ⟨RX3, "weighWord", "(LNameDesk$Word;ILNameDesk$Book;[I)V"⟩
abbrev cX3_leastFrom : ByteArray := prog_5_method_4_code
def yX3_leastFrom : MethodName := ⟨RX3, "leastFrom", "(II)I"⟩
abbrev cX3_readFirst : ByteArray := prog_5_method_5_code
def yX3_readFirst : MethodName := ⟨RX3, "readFirst", "([I)Z"⟩
abbrev cX3_listRows : ByteArray := prog_5_method_6_code
def yX3_listRows : MethodName := ⟨RX3, "listRows", "()V"⟩
abbrev cX3_swapRows : ByteArray := prog_5_method_7_code
def yX3_swapRows : MethodName := ⟨RX3, "swapRows", "()V"⟩
abbrev cX3_lengthenRows : ByteArray := prog_5_method_8_code
def yX3_lengthenRows : MethodName := ⟨RX3, "lengthenRows", "(I)V"⟩
abbrev cX3_sortByCost : ByteArray := prog_5_method_9_code
def yX3_sortByCost : MethodName := ⟨RX3, "sortByCost", "()V"⟩
abbrev cX3_costIn : ByteArray := prog_5_method_10_code
def yX3_costIn : MethodName := ⟨RX3, "costIn", "(J)I"⟩
abbrev cX3_rowsUpTo : ByteArray := prog_5_method_11_code
def yX3_rowsUpTo : MethodName := ⟨RX3, "rowsUpTo", "(I)I"⟩
abbrev cX3_isRow : ByteArray := prog_5_method_12_code
def yX3_isRow : MethodName := ⟨RX3, "isRow", "(I)Z"⟩
abbrev cX3_costOfRow : ByteArray := prog_5_method_13_code
def yX3_costOfRow : MethodName := ⟨RX3, "costOfRow", "(I)I"⟩
abbrev cX3_kindInRow : ByteArray := prog_5_method_14_code
def yX3_kindInRow : MethodName := ⟨RX3, "kindInRow", "(II)I"⟩
def RX4 : String := "NameDesk$Shape"
def TX4 : u_T := fun k => match k with
  | 0 => ("NameDesk$Shape", "slots", "I", false)
  | 1 => ("NameDesk$Shape", "slotKinds", "[I", true)
  | 2 => ("NameDesk$Shape", "slotSkips", "[Z", true)
  | 3 => ("NameDesk$Shape", "slotRepeats", "[Z", true)
  | 4 => ("NameDesk$Shape", "first", "I", false)
  | 5 => ("NameDesk$Shape", "behind", "[I", true)
  | 6 => ("NameDesk$Shape", "slotsOfKind", "[I", true)
  | 7 => ("NameDesk$Shape", "sort", "[I", true)
  | 8 => ("NameDesk$Shape", "sortSize", "I", false)
  | 9 => ("NameDesk$Shape", "call", "[I", true)
  | 10 => ("NameDesk$Shape", "callSize", "I", false)
  | 11 => ("NameDesk$Shape", "ending", "[B", true)
  | _ => ("NameDesk$Shape", "endingSize", "I", false)
def tyX4 : Nat → FieldType := fun k => match k with
  | 0 => .int
  | 1 => .array .int
  | 2 => .array .boolean
  | 3 => .array .boolean
  | 4 => .int
  | 5 => .array .int
  | 6 => .array .int
  | 7 => .array .int
  | 8 => .int
  | 9 => .array .int
  | 10 => .int
  | 11 => .array .byte
  | _ => .int
abbrev wsX40 : List Cond := u_ws RX4 TX4 13
theorem nmX4 : ∀ a, a < 13 → ∀ b, b < 13 → a ≠ b → (TX4 a).2.1 ≠ (TX4 b).2.1 := by decide +kernel
theorem tyX4_ok : ∀ k, k < 13 → parseFieldDescriptor (TX4 k).2.2.1 = some (tyX4 k) := by decide +kernel
abbrev cX4_init : ByteArray := prog_6_method_1_code
def yX4_init : MethodName := ⟨RX4, "<init>", "()V"⟩
abbrev cX4_link : ByteArray := prog_6_method_2_code
def yX4_link : MethodName := ⟨RX4, "link", "()V"⟩
abbrev cX4_openFrom : ByteArray := prog_6_method_3_code
def yX4_openFrom : MethodName := ⟨RX4, "openFrom", "(I)I"⟩
abbrev cX4_openBehind : ByteArray := prog_6_method_4_code
def yX4_openBehind : MethodName := ⟨RX4, "openBehind", "(II)I"⟩
abbrev cX4_isMade : ByteArray := prog_6_method_5_code
def yX4_isMade : MethodName := ⟨RX4, "isMade", "(LNameDesk$Word;)Z"⟩
abbrev cX4_makes : ByteArray := prog_6_method_6_code
def yX4_makes : MethodName := ⟨RX4, "makes", "(LNameDesk$Word;LNameDesk$Word;)Z"⟩
def RX5 : String := "NameDesk$ShapeText"
def TX5 : u_T := fun k => match k with
  | 0 => ("NameDesk$ShapeText", "text", "[B", false)
  | 1 => ("NameDesk$ShapeText", "length", "I", false)
  | 2 => ("NameDesk$ShapeText", "at", "I", false)
  | 3 => ("NameDesk$ShapeText", "faultFound", "I", false)
  | _ => ("NameDesk$ShapeText", "faultPlace", "I", false)
def tyX5 : Nat → FieldType := fun k => match k with
  | 0 => .array .byte
  | 1 => .int
  | 2 => .int
  | 3 => .int
  | _ => .int
abbrev wsX50 : List Cond := u_ws RX5 TX5 5
theorem nmX5 : ∀ a, a < 5 → ∀ b, b < 5 → a ≠ b → (TX5 a).2.1 ≠ (TX5 b).2.1 := by decide +kernel
theorem tyX5_ok : ∀ k, k < 5 → parseFieldDescriptor (TX5 k).2.2.1 = some (tyX5 k) := by decide +kernel
abbrev cX5_init : ByteArray := prog_7_method_1_code
def yX5_init : MethodName := ⟨RX5, "<init>", "()V"⟩
abbrev cX5_readInto : ByteArray := prog_7_method_2_code
def yX5_readInto : MethodName := ⟨RX5, "readInto", "(LNameDesk$Shape;[BI)Z"⟩
abbrev cX5_here : ByteArray := prog_7_method_3_code
def yX5_here : MethodName := ⟨RX5, "here", "()I"⟩
abbrev cX5_kindHere : ByteArray := prog_7_method_4_code
def yX5_kindHere : MethodName := ⟨RX5, "kindHere", "()I"⟩
abbrev cX5_stopWith : ByteArray := prog_7_method_5_code
def yX5_stopWith : MethodName := ⟨RX5, "stopWith", "(I)Z"⟩
abbrev cX5_pass : ByteArray := prog_7_method_6_code
def yX5_pass : MethodName := ⟨RX5, "pass", "(C)Z"⟩
abbrev cX5_readSlots : ByteArray := prog_7_method_7_code
def yX5_readSlots : MethodName := ⟨RX5, "readSlots", "(LNameDesk$Shape;)Z"⟩
abbrev cX5_readLetters : ByteArray := prog_7_method_8_code
def yX5_readLetters : MethodName := ⟨RX5, "readLetters", "([I)I"⟩
abbrev cX5_readEnding : ByteArray := prog_7_method_9_code
def yX5_readEnding : MethodName := ⟨RX5, "readEnding", "(LNameDesk$Shape;)Z"⟩
def RX6 : String := "NameDesk$Table"
def TX6 : u_T := fun k => match k with
  | 0 => ("NameDesk$Table", "become", "[B", true)
  | _ => ("NameDesk$Table", "sizes", "[I", true)
def tyX6 : Nat → FieldType := fun k => match k with
  | 0 => .array .byte
  | _ => .array .int
abbrev wsX60 : List Cond := u_ws RX6 TX6 2
theorem nmX6 : ∀ a, a < 2 → ∀ b, b < 2 → a ≠ b → (TX6 a).2.1 ≠ (TX6 b).2.1 := by decide +kernel
theorem tyX6_ok : ∀ k, k < 2 → parseFieldDescriptor (TX6 k).2.2.1 = some (tyX6 k) := by decide +kernel
abbrev cX6_init : ByteArray := prog_8_method_1_code
def yX6_init : MethodName := ⟨RX6, "<init>", "()V"⟩
abbrev cX6_change : ByteArray := prog_8_method_2_code
def yX6_change : MethodName := ⟨RX6, "change", "(I[BI)Z"⟩
abbrev cX6_putOver : ByteArray := prog_8_method_3_code
def yX6_putOver : MethodName := ⟨RX6, "putOver", "(LNameDesk$Word;ILNameDesk$Line;)V"⟩
def RX7 : String := "NameDesk$Tape"
def TX7 : u_T := fun k => match k with
  | 0 => ("NameDesk$Tape", "bytes", "[B", true)
  | _ => ("NameDesk$Tape", "size", "I", false)
def tyX7 : Nat → FieldType := fun k => match k with
  | 0 => .array .byte
  | _ => .int
abbrev wsX70 : List Cond := u_ws RX7 TX7 2
theorem nmX7 : ∀ a, a < 2 → ∀ b, b < 2 → a ≠ b → (TX7 a).2.1 ≠ (TX7 b).2.1 := by decide +kernel
theorem tyX7_ok : ∀ k, k < 2 → parseFieldDescriptor (TX7 k).2.2.1 = some (tyX7 k) := by decide +kernel
abbrev cX7_init : ByteArray := prog_9_method_1_code
def yX7_init : MethodName := ⟨RX7, "<init>", "()V"⟩
abbrev cX7_holds : ByteArray := prog_9_method_2_code
def yX7_holds : MethodName := ⟨RX7, "holds", "(I)Z"⟩
abbrev cX7_add : ByteArray := prog_9_method_3_code
def yX7_add : MethodName := ⟨RX7, "add", "(I)V"⟩
def RX8 : String := "NameDesk$Word"
def TX8 : u_T := fun k => match k with
  | 0 => ("NameDesk$Word", "told", "[B", true)
  | 1 => ("NameDesk$Word", "signs", "I", false)
  | 2 => ("NameDesk$Word", "folded", "[B", true)
  | _ => ("NameDesk$Word", "letters", "I", false)
def tyX8 : Nat → FieldType := fun k => match k with
  | 0 => .array .byte
  | 1 => .int
  | 2 => .array .byte
  | _ => .int
abbrev wsX80 : List Cond := u_ws RX8 TX8 4
theorem nmX8 : ∀ a, a < 4 → ∀ b, b < 4 → a ≠ b → (TX8 a).2.1 ≠ (TX8 b).2.1 := by decide +kernel
theorem tyX8_ok : ∀ k, k < 4 → parseFieldDescriptor (TX8 k).2.2.1 = some (tyX8 k) := by decide +kernel
abbrev cX8_init : ByteArray := prog_10_method_1_code
def yX8_init : MethodName := ⟨RX8, "<init>", "()V"⟩
abbrev cX8_take : ByteArray := prog_10_method_2_code
def yX8_take : MethodName := ⟨RX8, "take", "([BII)Z"⟩
abbrev cX8_takeSign : ByteArray := prog_10_method_3_code
def yX8_takeSign : MethodName := ⟨RX8, "takeSign", "(B)Z"⟩
abbrev cX8_copyLetters : ByteArray := prog_10_method_4_code
def yX8_copyLetters : MethodName := ⟨RX8, "copyLetters", "(LNameDesk$Word;)V"⟩
abbrev cX8_isBeginning : ByteArray := prog_10_method_5_code
def yX8_isBeginning : MethodName := ⟨RX8, "isBeginning", "(LNameDesk$Word;I)Z"⟩
abbrev cX8_alike : ByteArray := prog_10_method_6_code
def yX8_alike : MethodName := ⟨RX8, "alike", "(LNameDesk$Word;)Z"⟩
abbrev cX8_fits : ByteArray := prog_10_method_7_code
def yX8_fits : MethodName := ⟨RX8, "fits", "(LNameDesk$Word;)Z"⟩
abbrev cX8_endsWith : ByteArray := prog_10_method_8_code
def yX8_endsWith : MethodName := ⟨RX8, "endsWith", "([BI)Z"⟩
abbrev cX8_compareLetters : ByteArray := prog_10_method_9_code
def yX8_compareLetters : MethodName := ⟨RX8, "compareLetters", "(LNameDesk$Word;)I"⟩
def RX9 : String := "NameDesk"
def TX9 : u_T := fun k => match k with
  | 0 => ("NameDesk", "tape", "LNameDesk$Tape;", true)
  | 1 => ("NameDesk", "shapes", "[LNameDesk$Shape;", true)
  | 2 => ("NameDesk", "shapeText", "LNameDesk$ShapeText;", true)
  | 3 => ("NameDesk", "draft", "LNameDesk$Shape;", false)
  | 4 => ("NameDesk", "book", "LNameDesk$Book;", true)
  | 5 => ("NameDesk", "heard", "LNameDesk$Word;", true)
  | 6 => ("NameDesk", "names", "[LNameDesk$Name;", true)
  | 7 => ("NameDesk", "nameCount", "I", false)
  | 8 => ("NameDesk", "reader", "LNameDesk$Reader;", true)
  | 9 => ("NameDesk", "listed", "I", false)
  | 10 => ("NameDesk", "ranking", "[I", true)
  | 11 => ("NameDesk", "ranked", "Z", false)
  | 12 => ("NameDesk", "letterTable", "LNameDesk$Table;", true)
  | 13 => ("NameDesk", "line", "LNameDesk$Line;", true)
  | _ => ("NameDesk", "chosen", "[I", true)
def tyX9 : Nat → FieldType := fun k => match k with
  | 0 => .object "NameDesk$Tape"
  | 1 => .array (.object "NameDesk$Shape")
  | 2 => .object "NameDesk$ShapeText"
  | 3 => .object "NameDesk$Shape"
  | 4 => .object "NameDesk$Book"
  | 5 => .object "NameDesk$Word"
  | 6 => .array (.object "NameDesk$Name")
  | 7 => .int
  | 8 => .object "NameDesk$Reader"
  | 9 => .int
  | 10 => .array .int
  | 11 => .boolean
  | 12 => .object "NameDesk$Table"
  | 13 => .object "NameDesk$Line"
  | _ => .array .int
abbrev wsX90 : List Cond := u_ws RX9 TX9 15
theorem nmX9 : ∀ a, a < 15 → ∀ b, b < 15 → a ≠ b → (TX9 a).2.1 ≠ (TX9 b).2.1 := by decide +kernel
theorem tyX9_ok : ∀ k, k < 15 → parseFieldDescriptor (TX9 k).2.2.1 = some (tyX9 k) := by decide +kernel
abbrev cX9_init : ByteArray := prog_1_method_1_code
def yX9_init : MethodName := ⟨RX9, "<init>", "()V"⟩
abbrev cX9_feed : ByteArray := prog_1_method_2_code
def yX9_feed : MethodName := ⟨RX9, "feed", "(IIIII)I"⟩
abbrev cX9_shape : ByteArray := prog_1_method_3_code
def yX9_shape : MethodName := ⟨RX9, "shape", "(II)I"⟩
abbrev cX9_fault : ByteArray := prog_1_method_4_code
def yX9_fault : MethodName := ⟨RX9, "fault", "(I)I"⟩
abbrev cX9_know : ByteArray := prog_1_method_5_code
def yX9_know : MethodName := ⟨RX9, "know", "(III)I"⟩
abbrev cX9_forget : ByteArray := prog_1_method_6_code
def yX9_forget : MethodName := ⟨RX9, "forget", "(III)Z"⟩
abbrev cX9_name : ByteArray := prog_1_method_7_code
def yX9_name : MethodName := ⟨RX9, "name", "(II)I"⟩
abbrev cX9_readings : ByteArray := prog_1_method_8_code
def yX9_readings : MethodName := ⟨RX9, "readings", "(II)I"⟩
abbrev cX9_cost : ByteArray := prog_1_method_9_code
def yX9_cost : MethodName := ⟨RX9, "cost", "(II)I"⟩
abbrev cX9_kind : ByteArray := prog_1_method_10_code
def yX9_kind : MethodName := ⟨RX9, "kind", "(III)I"⟩
abbrev cX9_look : ByteArray := prog_1_method_11_code
def yX9_look : MethodName := ⟨RX9, "look", "(II)I"⟩
abbrev cX9_order : ByteArray := prog_1_method_12_code
def yX9_order : MethodName := ⟨RX9, "order", "(I)I"⟩
abbrev cX9_sign : ByteArray := prog_1_method_13_code
def yX9_sign : MethodName := ⟨RX9, "sign", "(III)I"⟩
abbrev cX9_agree : ByteArray := prog_1_method_14_code
def yX9_agree : MethodName := ⟨RX9, "agree", "(II)I"⟩
abbrev cX9_father : ByteArray := prog_1_method_15_code
def yX9_father : MethodName := ⟨RX9, "father", "(II)I"⟩
abbrev cX9_table : ByteArray := prog_1_method_16_code
def yX9_table : MethodName := ⟨RX9, "table", "(II)Z"⟩
abbrev cX9_fallen : ByteArray := prog_1_method_17_code
def yX9_fallen : MethodName := ⟨RX9, "fallen", "()I"⟩
abbrev cX9_count : ByteArray := prog_1_method_18_code
def yX9_count : MethodName := ⟨RX9, "count", "(I)I"⟩
abbrev cX9_isLand : ByteArray := prog_1_method_19_code
def yX9_isLand : MethodName := ⟨RX9, "isLand", "(I)Z"⟩
abbrev cX9_isName : ByteArray := prog_1_method_20_code
def yX9_isName : MethodName := ⟨RX9, "isName", "(I)Z"⟩
abbrev cX9_isEntry : ByteArray := prog_1_method_21_code
def yX9_isEntry : MethodName := ⟨RX9, "isEntry", "(III)Z"⟩
abbrev cX9_shapeCount : ByteArray := prog_1_method_22_code
def yX9_shapeCount : MethodName := ⟨RX9, "shapeCount", "()I"⟩
abbrev cX9_landChanged : ByteArray := prog_1_method_23_code
def yX9_landChanged : MethodName := ⟨RX9, "landChanged", "(I)V"⟩
abbrev cX9_listReadings : ByteArray := prog_1_method_24_code
def yX9_listReadings : MethodName := ⟨RX9, "listReadings", "(I)V"⟩
abbrev cX9_freshName : ByteArray := prog_1_method_25_code
def yX9_freshName : MethodName := ⟨RX9, "freshName", "(I)LNameDesk$Name;"⟩
abbrev cX9_rank : ByteArray := prog_1_method_26_code
def yX9_rank : MethodName := ⟨RX9, "rank", "()V"⟩
abbrev cX9_placeInRanking : ByteArray := prog_1_method_27_code
def yX9_placeInRanking : MethodName := ⟨RX9, "placeInRanking", "(I)I"⟩
abbrev cX9_lineOf : ByteArray := prog_1_method_28_code
def yX9_lineOf : MethodName := ⟨RX9, "lineOf", "(II)LNameDesk$Line;"⟩
abbrev cX9_putLine : ByteArray := prog_1_method_29_code
def yX9_putLine : MethodName := ⟨RX9, "putLine", "(LNameDesk$Name;)LNameDesk$Line;"⟩
abbrev cX9_sameFamily : ByteArray := prog_1_method_30_code
def yX9_sameFamily : MethodName := ⟨RX9, "sameFamily", "(LNameDesk$Name;LNameDesk$Name;)Z"⟩
abbrev cX9_fittingGiven : ByteArray := prog_1_method_31_code
def yX9_fittingGiven : MethodName := ⟨RX9, "fittingGiven", "(LNameDesk$Name;LNameDesk$Name;)Z"⟩
abbrev cX9_isSmall : ByteArray := prog_1_method_32_code
def yX9_isSmall : MethodName := ⟨RX9, "isSmall", "(I)Z"⟩
abbrev cX9_isBig : ByteArray := prog_1_method_33_code
def yX9_isBig : MethodName := ⟨RX9, "isBig", "(I)Z"⟩
def RX10 : String := "NameDeskModel"
def TX10 : u_T := fun k => match k with
  | 0 => ("NameDeskModel", "tape", "[I", true)
  | 1 => ("NameDeskModel", "tapeSize", "I", false)
  | 2 => ("NameDeskModel", "thrown", "I", false)
  | 3 => ("NameDeskModel", "entries", "I", false)
  | 4 => ("NameDeskModel", "eLand", "[I", true)
  | 5 => ("NameDeskModel", "eKind", "[I", true)
  | 6 => ("NameDeskModel", "eSize", "[I", true)
  | 7 => ("NameDeskModel", "eWord", "[I", true)
  | 8 => ("NameDeskModel", "has", "[Z", true)
  | 9 => ("NameDeskModel", "slots", "[I", true)
  | 10 => ("NameDeskModel", "slotKind", "[I", true)
  | 11 => ("NameDeskModel", "slotHow", "[I", true)
  | 12 => ("NameDeskModel", "sortMany", "[I", true)
  | 13 => ("NameDeskModel", "sortBy", "[I", true)
  | 14 => ("NameDeskModel", "callMany", "[I", true)
  | 15 => ("NameDeskModel", "callBy", "[I", true)
  | 16 => ("NameDeskModel", "endSize", "[I", true)
  | 17 => ("NameDeskModel", "endBy", "[I", true)
  | 18 => ("NameDeskModel", "fault", "I", false)
  | 19 => ("NameDeskModel", "faultPlace", "I", false)
  | 20 => ("NameDeskModel", "names", "I", false)
  | 21 => ("NameDeskModel", "nLand", "[I", true)
  | 22 => ("NameDeskModel", "nWords", "[I", true)
  | 23 => ("NameDeskModel", "told", "[I", true)
  | 24 => ("NameDeskModel", "toldSize", "[I", true)
  | 25 => ("NameDeskModel", "fold", "[I", true)
  | 26 => ("NameDeskModel", "foldSize", "[I", true)
  | 27 => ("NameDeskModel", "becomes", "[I", true)
  | 28 => ("NameDeskModel", "becomesSize", "[I", true)
  | 29 => ("NameDeskModel", "next", "I", false)
  | 30 => ("NameDeskModel", "end", "I", false)
  | 31 => ("NameDeskModel", "rSlots", "I", false)
  | 32 => ("NameDeskModel", "rKind", "[I", true)
  | 33 => ("NameDeskModel", "rHow", "[I", true)
  | 34 => ("NameDeskModel", "rBy", "[I", true)
  | 35 => ("NameDeskModel", "rMany", "[I", true)
  | 36 => ("NameDeskModel", "rEnd", "I", false)
  | 37 => ("NameDeskModel", "rEnding", "[I", true)
  | 38 => ("NameDeskModel", "folded", "[I", true)
  | 39 => ("NameDeskModel", "foldedSize", "I", false)
  | 40 => ("NameDeskModel", "costs", "[I", true)
  | 41 => ("NameDeskModel", "places", "[I", true)
  | 42 => ("NameDeskModel", "rows", "[I", true)
  | 43 => ("NameDeskModel", "rowCost", "[I", true)
  | 44 => ("NameDeskModel", "rowMany", "I", false)
  | 45 => ("NameDeskModel", "kinds", "[I", true)
  | 46 => ("NameDeskModel", "isRead", "[Z", true)
  | 47 => ("NameDeskModel", "picked", "[I", true)
  | _ => ("NameDeskModel", "pickedMany", "[I", true)
def tyX10 : Nat → FieldType := fun k => match k with
  | 0 => .array .int
  | 1 => .int
  | 2 => .int
  | 3 => .int
  | 4 => .array .int
  | 5 => .array .int
  | 6 => .array .int
  | 7 => .array .int
  | 8 => .array .boolean
  | 9 => .array .int
  | 10 => .array .int
  | 11 => .array .int
  | 12 => .array .int
  | 13 => .array .int
  | 14 => .array .int
  | 15 => .array .int
  | 16 => .array .int
  | 17 => .array .int
  | 18 => .int
  | 19 => .int
  | 20 => .int
  | 21 => .array .int
  | 22 => .array .int
  | 23 => .array .int
  | 24 => .array .int
  | 25 => .array .int
  | 26 => .array .int
  | 27 => .array .int
  | 28 => .array .int
  | 29 => .int
  | 30 => .int
  | 31 => .int
  | 32 => .array .int
  | 33 => .array .int
  | 34 => .array .int
  | 35 => .array .int
  | 36 => .int
  | 37 => .array .int
  | 38 => .array .int
  | 39 => .int
  | 40 => .array .int
  | 41 => .array .int
  | 42 => .array .int
  | 43 => .array .int
  | 44 => .int
  | 45 => .array .int
  | 46 => .array .boolean
  | 47 => .array .int
  | _ => .array .int
abbrev wsX100 : List Cond := u_ws RX10 TX10 49
theorem nmX10 : ∀ a, a < 49 → ∀ b, b < 49 → a ≠ b → (TX10 a).2.1 ≠ (TX10 b).2.1 := by decide +kernel
theorem tyX10_ok : ∀ k, k < 49 → parseFieldDescriptor (TX10 k).2.2.1 = some (tyX10 k) := by decide +kernel
abbrev cX10_init : ByteArray := prog_12_method_1_code
def yX10_init : MethodName := ⟨RX10, "<init>", "()V"⟩
abbrev cX10_thrown : ByteArray := prog_12_method_2_code
def yX10_thrown : MethodName := ⟨RX10, "thrown", "()I"⟩
abbrev cX10_feed : ByteArray := prog_12_method_3_code
def yX10_feed : MethodName := ⟨RX10, "feed", "(IIIII)I"⟩
abbrev cX10_wrong : ByteArray := prog_12_method_4_code
def yX10_wrong : MethodName := ⟨RX10, "wrong", "(II)Z"⟩
abbrev cX10_see : ByteArray := prog_12_method_5_code
def yX10_see : MethodName := ⟨RX10, "see", "()I"⟩
abbrev cX10_kindOf : ByteArray := prog_12_method_6_code
def yX10_kindOf : MethodName := ⟨RX10, "kindOf", "(I)I"⟩
abbrev cX10_slotsRead : ByteArray := prog_12_method_7_code
def yX10_slotsRead : MethodName := ⟨RX10, "slotsRead", "()Z"⟩
abbrev cX10_lettersRead : ByteArray := prog_12_method_8_code
def yX10_lettersRead : MethodName := ⟨RX10, "lettersRead", "(I)Z"⟩
abbrev cX10_endingRead : ByteArray := prog_12_method_9_code
def yX10_endingRead : MethodName := ⟨RX10, "endingRead", "()Z"⟩
abbrev cX10_shape : ByteArray := prog_12_method_10_code
def yX10_shape : MethodName := ⟨RX10, "shape", "(II)I"⟩
abbrev cX10_fault : ByteArray := prog_12_method_11_code
def yX10_fault : MethodName := ⟨RX10, "fault", "(I)I"⟩
abbrev cX10_isLetter : ByteArray := prog_12_method_12_code
def yX10_isLetter : MethodName := ⟨RX10, "isLetter", "(I)Z"⟩
abbrev cX10_isWord : ByteArray := prog_12_method_13_code
def yX10_isWord : MethodName := ⟨RX10, "isWord", "(II)Z"⟩
abbrev cX10_entry : ByteArray := prog_12_method_14_code
def yX10_entry : MethodName := ⟨RX10, "entry", "(II[III)I"⟩
abbrev cX10_isKept : ByteArray := prog_12_method_15_code
def yX10_isKept : MethodName := ⟨RX10, "isKept", "(I)Z"⟩
abbrev cX10_know : ByteArray := prog_12_method_16_code
def yX10_know : MethodName := ⟨RX10, "know", "(III)I"⟩
abbrev cX10_forget : ByteArray := prog_12_method_17_code
def yX10_forget : MethodName := ⟨RX10, "forget", "(III)Z"⟩
abbrev cX10_name : ByteArray := prog_12_method_18_code
def yX10_name : MethodName := ⟨RX10, "name", "(II)I"⟩
abbrev cX10_costOf : ByteArray := prog_12_method_19_code
def yX10_costOf : MethodName := ⟨RX10, "costOf", "(III)I"⟩
abbrev cX10_slips : ByteArray := prog_12_method_20_code
def yX10_slips : MethodName := ⟨RX10, "slips", "(II)I"⟩
abbrev cX10_goes : ByteArray := prog_12_method_21_code
def yX10_goes : MethodName := ⟨RX10, "goes", "(III)I"⟩
abbrev cX10_fill : ByteArray := prog_12_method_22_code
def yX10_fill : MethodName := ⟨RX10, "fill", "(I)V"⟩
abbrev cX10_reading : ByteArray := prog_12_method_23_code
def yX10_reading : MethodName := ⟨RX10, "reading", "(II)I"⟩
abbrev cX10_isName : ByteArray := prog_12_method_24_code
def yX10_isName : MethodName := ⟨RX10, "isName", "(I)Z"⟩
abbrev cX10_readings : ByteArray := prog_12_method_25_code
def yX10_readings : MethodName := ⟨RX10, "readings", "(II)I"⟩
abbrev cX10_cost : ByteArray := prog_12_method_26_code
def yX10_cost : MethodName := ⟨RX10, "cost", "(II)I"⟩
abbrev cX10_kindIn : ByteArray := prog_12_method_27_code
def yX10_kindIn : MethodName := ⟨RX10, "kindIn", "(III)I"⟩
abbrev cX10_kind : ByteArray := prog_12_method_28_code
def yX10_kind : MethodName := ⟨RX10, "kind", "(III)I"⟩
abbrev cX10_first : ByteArray := prog_12_method_29_code
def yX10_first : MethodName := ⟨RX10, "first", "(I)V"⟩
abbrev cX10_firstAll : ByteArray := prog_12_method_30_code
def yX10_firstAll : MethodName := ⟨RX10, "firstAll", "()V"⟩
abbrev cX10_pick : ByteArray := prog_12_method_31_code
def yX10_pick : MethodName := ⟨RX10, "pick", "(IZ)V"⟩
abbrev cX10_compare : ByteArray := prog_12_method_32_code
def yX10_compare : MethodName := ⟨RX10, "compare", "(II)I"⟩
abbrev cX10_ahead : ByteArray := prog_12_method_33_code
def yX10_ahead : MethodName := ⟨RX10, "ahead", "(II)Z"⟩
abbrev cX10_orderAll : ByteArray := prog_12_method_34_code
def yX10_orderAll : MethodName := ⟨RX10, "orderAll", "()V"⟩
abbrev cX10_placeOf : ByteArray := prog_12_method_35_code
def yX10_placeOf : MethodName := ⟨RX10, "placeOf", "(I)I"⟩
abbrev cX10_signs : ByteArray := prog_12_method_36_code
def yX10_signs : MethodName := ⟨RX10, "signs", "(II)I"⟩
abbrev cX10_fails : ByteArray := prog_12_method_37_code
def yX10_fails : MethodName := ⟨RX10, "fails", "(I)I"⟩
abbrev cX10_look : ByteArray := prog_12_method_38_code
def yX10_look : MethodName := ⟨RX10, "look", "(II)I"⟩
abbrev cX10_order : ByteArray := prog_12_method_39_code
def yX10_order : MethodName := ⟨RX10, "order", "(I)I"⟩
abbrev cX10_over : ByteArray := prog_12_method_40_code
def yX10_over : MethodName := ⟨RX10, "over", "(II)I"⟩
abbrev cX10_sign : ByteArray := prog_12_method_41_code
def yX10_sign : MethodName := ⟨RX10, "sign", "(III)I"⟩
abbrev cX10_wordOf : ByteArray := prog_12_method_42_code
def yX10_wordOf : MethodName := ⟨RX10, "wordOf", "(IIII)I"⟩
abbrev cX10_agree : ByteArray := prog_12_method_43_code
def yX10_agree : MethodName := ⟨RX10, "agree", "(II)I"⟩
abbrev cX10_father : ByteArray := prog_12_method_44_code
def yX10_father : MethodName := ⟨RX10, "father", "(II)I"⟩
abbrev cX10_table : ByteArray := prog_12_method_45_code
def yX10_table : MethodName := ⟨RX10, "table", "(II)Z"⟩
abbrev cX10_alike : ByteArray := prog_12_method_46_code
def yX10_alike : MethodName := ⟨RX10, "alike", "(II)Z"⟩
abbrev cX10_overAlike : ByteArray := prog_12_method_47_code
def yX10_overAlike : MethodName := ⟨RX10, "overAlike", "(II)Z"⟩
abbrev cX10_fallen : ByteArray := prog_12_method_48_code
def yX10_fallen : MethodName := ⟨RX10, "fallen", "()I"⟩
abbrev cX10_count : ByteArray := prog_12_method_49_code
def yX10_count : MethodName := ⟨RX10, "count", "(I)I"⟩
def RJ11 : String := "java/lang/Character"
def TJ11 : u_T := fun k => match k with
  | _ => ("", "", "", false)
def tyJ11 : Nat → FieldType := fun k => match k with
  | _ => .int
abbrev wsJ110 : List Cond := u_ws RJ11 TJ11 0
theorem nmJ11 : ∀ a, a < 0 → ∀ b, b < 0 → a ≠ b → (TJ11 a).2.1 ≠ (TJ11 b).2.1 := by decide +kernel
theorem tyJ11_ok : ∀ k, k < 0 → parseFieldDescriptor (TJ11 k).2.2.1 = some (tyJ11 k) := by decide +kernel
abbrev cJ11_isValidCodePoint_9a6ad : ByteArray := prog_13_method_11_code
def yJ11_isValidCodePoint_9a6ad : MethodName := ⟨RJ11, "isValidCodePoint", "(I)Z"⟩
abbrev cJ11_highSurrogate_5068e : ByteArray := prog_13_method_28_code
def yJ11_highSurrogate_5068e : MethodName := ⟨RJ11, "highSurrogate", "(I)C"⟩
abbrev cJ11_lowSurrogate_5068e : ByteArray := prog_13_method_29_code
def yJ11_lowSurrogate_5068e : MethodName := ⟨RJ11, "lowSurrogate", "(I)C"⟩
def RJ9 : String := "java/lang/Math"
def TJ9 : u_T := fun k => match k with
  | _ => ("", "", "", false)
def tyJ9 : Nat → FieldType := fun k => match k with
  | _ => .int
abbrev wsJ90 : List Cond := u_ws RJ9 TJ9 0
theorem nmJ9 : ∀ a, a < 0 → ∀ b, b < 0 → a ≠ b → (TJ9 a).2.1 ≠ (TJ9 b).2.1 := by decide +kernel
theorem tyJ9_ok : ∀ k, k < 0 → parseFieldDescriptor (TJ9 k).2.2.1 = some (tyJ9 k) := by decide +kernel
abbrev cJ9_max_7cf53 : ByteArray := prog_16_method_65_code
def yJ9_max_7cf53 : MethodName := ⟨RJ9, "max", "(II)I"⟩
abbrev cJ9_min_7cf53 : ByteArray := prog_16_method_69_code
def yJ9_min_7cf53 : MethodName := ⟨RJ9, "min", "(II)I"⟩
def RJ0 : String := "java/lang/String"
def TJ0 : u_T := fun k => match k with
  | _ => ("", "", "", false)
def tyJ0 : Nat → FieldType := fun k => match k with
  | _ => .int
abbrev wsJ00 : List Cond := u_ws RJ0 TJ0 0
theorem nmJ0 : ∀ a, a < 0 → ∀ b, b < 0 → a ≠ b → (TJ0 a).2.1 ≠ (TJ0 b).2.1 := by decide +kernel
theorem tyJ0_ok : ∀ k, k < 0 → parseFieldDescriptor (TJ0 k).2.2.1 = some (tyJ0 k) := by decide +kernel
abbrev cJ0_length_8abf5 : ByteArray := prog_18_method_54_code
def yJ0_length_8abf5 : MethodName := ⟨RJ0, "length", "()I"⟩
abbrev cJ0_indexOf_0f7a4 : ByteArray := prog_18_method_79_code
def yJ0_indexOf_0f7a4 : MethodName := ⟨RJ0, "indexOf", "(I)I"⟩
abbrev cJ0_indexOf_7cf53 : ByteArray := prog_18_method_80_code
def yJ0_indexOf_7cf53 : MethodName := ⟨RJ0, "indexOf", "(II)I"⟩
abbrev cJ0_coder_7d493 : ByteArray := prog_18_method_152_code
def yJ0_coder_7d493 : MethodName := ⟨RJ0, "coder", "()B"⟩
abbrev cJ0_isLatin1_aae02 : ByteArray := prog_18_method_154_code
def yJ0_isLatin1_aae02 : MethodName := ⟨RJ0, "isLatin1", "()Z"⟩
abbrev cJ0_checkBoundsBeginEnd_23922 : ByteArray := prog_18_method_158_code
def yJ0_checkBoundsBeginEnd_23922 : MethodName := ⟨RJ0, "checkBoundsBeginEnd", "(III)V"⟩
def RJ1 : String := "java/lang/StringLatin1"
def TJ1 : u_T := fun k => match k with
  | _ => ("", "", "", false)
def tyJ1 : Nat → FieldType := fun k => match k with
  | _ => .int
abbrev wsJ10 : List Cond := u_ws RJ1 TJ1 0
theorem nmJ1 : ∀ a, a < 0 → ∀ b, b < 0 → a ≠ b → (TJ1 a).2.1 ≠ (TJ1 b).2.1 := by decide +kernel
theorem tyJ1_ok : ∀ k, k < 0 → parseFieldDescriptor (TJ1 k).2.2.1 = some (tyJ1 k) := by decide +kernel
abbrev cJ1_canEncode_9a6ad : ByteArray := prog_19_method_4_code
def yJ1_canEncode_9a6ad : MethodName := ⟨RJ1, "canEncode", "(I)Z"⟩
abbrev cJ1_indexOf_4cfef : ByteArray := prog_19_method_22_code
def yJ1_indexOf_4cfef : MethodName := ⟨RJ1, "indexOf", "([BIII)I"⟩
abbrev cJ1_indexOfChar_4cfef : ByteArray := prog_19_method_23_code
def yJ1_indexOfChar_4cfef : MethodName := ⟨RJ1, "indexOfChar", "([BIII)I"⟩
def RJ2 : String := "java/lang/StringUTF16"
def TJ2 : u_T := fun k => match k with
  | _ => ("", "", "", false)
def tyJ2 : Nat → FieldType := fun k => match k with
  | _ => .int
abbrev wsJ20 : List Cond := u_ws RJ2 TJ2 0
theorem nmJ2 : ∀ a, a < 0 → ∀ b, b < 0 → a ≠ b → (TJ2 a).2.1 ≠ (TJ2 b).2.1 := by decide +kernel
theorem tyJ2_ok : ∀ k, k < 0 → parseFieldDescriptor (TJ2 k).2.2.1 = some (tyJ2 k) := by decide +kernel
abbrev cJ2_getChar_3b067 : ByteArray := prog_20_method_5_code
def yJ2_getChar_3b067 : MethodName := ⟨RJ2, "getChar", "([BI)C"⟩
abbrev cJ2_length_9d52b : ByteArray := prog_20_method_6_code
def yJ2_length_9d52b : MethodName := ⟨RJ2, "length", "([B)I"⟩
abbrev cJ2_indexOf_4cfef : ByteArray := prog_20_method_40_code
def yJ2_indexOf_4cfef : MethodName := ⟨RJ2, "indexOf", "([BIII)I"⟩
abbrev cJ2_indexOfChar_4cfef : ByteArray := prog_20_method_47_code
def yJ2_indexOfChar_4cfef : MethodName := ⟨RJ2, "indexOfChar", "([BIII)I"⟩
abbrev cJ2_indexOfCharUnsafe_4cfef : ByteArray := prog_20_method_48_code
def yJ2_indexOfCharUnsafe_4cfef : MethodName := ⟨RJ2, "indexOfCharUnsafe", "([BIII)I"⟩
abbrev cJ2_indexOfSupplementary_4cfef : ByteArray := prog_20_method_49_code
def yJ2_indexOfSupplementary_4cfef : MethodName := ⟨RJ2, "indexOfSupplementary", "([BIII)I"⟩
abbrev cJ2_checkBoundsBeginEnd_d044e : ByteArray := prog_20_method_93_code
def yJ2_checkBoundsBeginEnd_d044e : MethodName := ⟨RJ2, "checkBoundsBeginEnd", "(II[B)V"⟩
def RJ3 : String := "jdk/internal/util/Preconditions"
def TJ3 : u_T := fun k => match k with
  | _ => ("", "", "", false)
def tyJ3 : Nat → FieldType := fun k => match k with
  | _ => .int
abbrev wsJ30 : List Cond := u_ws RJ3 TJ3 0
theorem nmJ3 : ∀ a, a < 0 → ∀ b, b < 0 → a ≠ b → (TJ3 a).2.1 ≠ (TJ3 b).2.1 := by decide +kernel
theorem tyJ3_ok : ∀ k, k < 0 → parseFieldDescriptor (TJ3 k).2.2.1 = some (tyJ3 k) := by decide +kernel
abbrev cJ3_checkFromToIndex_8c36e : ByteArray := prog_23_method_12_code
def yJ3_checkFromToIndex_8c36e : MethodName := ⟨RJ3, "checkFromToIndex", "(IIILjava/util/function/BiFunction;)I"⟩
def RL : String := "NameDeskLaw"
abbrev cL_look : ByteArray := method_3_code
def yL_look : MethodName := ⟨RL, "look", "(LNameDesk;II[J)I"⟩
abbrev cL_law : ByteArray := code
def yL_law : MethodName := ⟨RL, "law", "([I)Z"⟩
abbrev vwCl : List vw_C := [(RX0, TX0, 4), (RX1, TX1, 2), (RX2, TX2, 10), (RX3, TX3, 8), (RX4, TX4, 13), (RX5, TX5, 5), (RX6, TX6, 2), (RX7, TX7, 2), (RX8, TX8, 4), (RX9, TX9, 15), (RX10, TX10, 49)]
end
section
theorem dX0_init_0 : decode cX0_init 0 = .ok (.aload_n 0, 1) := by decide +kernel
theorem dX0_init_1 : decode cX0_init 1 = .ok (.invokespecial 3, 3) := by decide +kernel
theorem dX0_init_4 : decode cX0_init 4 = .ok (.aload_n 0, 1) := by decide +kernel
theorem dX0_init_5 : decode cX0_init 5 = .ok (.bipush 80, 2) := by decide +kernel
theorem dX0_init_7 : decode cX0_init 7 = .ok (.anewarray 9, 3) := by decide +kernel
theorem dX0_init_10 : decode cX0_init 10 = .ok (.putfield 11, 3) := by decide +kernel
theorem dX0_init_13 : decode cX0_init 13 = .ok (.aload_n 0, 1) := by decide +kernel
theorem dX0_init_14 : decode cX0_init 14 = .ok (.bipush 80, 2) := by decide +kernel
theorem dX0_init_16 : decode cX0_init 16 = .ok (.newarray .int, 2) := by decide +kernel
theorem dX0_init_18 : decode cX0_init 18 = .ok (.putfield 17, 3) := by decide +kernel
theorem dX0_init_21 : decode cX0_init 21 = .ok (.aload_n 0, 1) := by decide +kernel
theorem dX0_init_22 : decode cX0_init 22 = .ok (.bipush 80, 2) := by decide +kernel
theorem dX0_init_24 : decode cX0_init 24 = .ok (.newarray .int, 2) := by decide +kernel
theorem dX0_init_26 : decode cX0_init 26 = .ok (.putfield 21, 3) := by decide +kernel
theorem dX0_init_29 : decode cX0_init 29 = .ok (.aload_n 0, 1) := by decide +kernel
theorem dX0_init_30 : decode cX0_init 30 = .ok (.iconst 0, 1) := by decide +kernel
theorem dX0_init_31 : decode cX0_init 31 = .ok (.putfield 24, 3) := by decide +kernel
theorem dX0_init_34 : decode cX0_init 34 = .ok (.iconst 0, 1) := by decide +kernel
theorem dX0_init_35 : decode cX0_init 35 = .ok (.istore_n 1, 1) := by decide +kernel
theorem dX0_init_36 : decode cX0_init 36 = .ok (.iload_n 1, 1) := by decide +kernel
theorem dX0_init_37 : decode cX0_init 37 = .ok (.bipush 80, 2) := by decide +kernel
theorem dX0_init_39 : decode cX0_init 39 = .ok (.if_icmp .ge 22, 3) := by decide +kernel
theorem dX0_init_42 : decode cX0_init 42 = .ok (.aload_n 0, 1) := by decide +kernel
theorem dX0_init_43 : decode cX0_init 43 = .ok (.getfield 11, 3) := by decide +kernel
theorem dX0_init_46 : decode cX0_init 46 = .ok (.iload_n 1, 1) := by decide +kernel
theorem dX0_init_47 : decode cX0_init 47 = .ok (.new 9, 3) := by decide +kernel
theorem dX0_init_50 : decode cX0_init 50 = .ok (.dup, 1) := by decide +kernel
theorem dX0_init_51 : decode cX0_init 51 = .ok (.invokespecial 28, 3) := by decide +kernel
theorem dX0_init_54 : decode cX0_init 54 = .ok (.aastore, 1) := by decide +kernel
theorem dX0_init_55 : decode cX0_init 55 = .ok (.iinc 1 1, 3) := by decide +kernel
theorem dX0_init_58 : decode cX0_init 58 = .ok (.goto (-22), 3) := by decide +kernel
theorem dX0_init_61 : decode cX0_init 61 = .ok (.return_, 1) := by decide +kernel
theorem dX0_find_0 : decode cX0_find 0 = .ok (.iconst 0, 1) := by decide +kernel
theorem dX0_find_1 : decode cX0_find 1 = .ok (.istore 4, 2) := by decide +kernel
theorem dX0_find_3 : decode cX0_find 3 = .ok (.iload 4, 2) := by decide +kernel
theorem dX0_find_5 : decode cX0_find 5 = .ok (.aload_n 0, 1) := by decide +kernel
theorem dX0_find_6 : decode cX0_find 6 = .ok (.getfield 24, 3) := by decide +kernel
theorem dX0_find_9 : decode cX0_find 9 = .ok (.if_icmp .ge 48, 3) := by decide +kernel
theorem dX0_find_12 : decode cX0_find 12 = .ok (.aload_n 0, 1) := by decide +kernel
theorem dX0_find_13 : decode cX0_find 13 = .ok (.getfield 17, 3) := by decide +kernel
theorem dX0_find_16 : decode cX0_find 16 = .ok (.iload 4, 2) := by decide +kernel
theorem dX0_find_18 : decode cX0_find 18 = .ok (.iaload, 1) := by decide +kernel
theorem dX0_find_19 : decode cX0_find 19 = .ok (.iload_n 1, 1) := by decide +kernel
theorem dX0_find_20 : decode cX0_find 20 = .ok (.if_icmp .ne 31, 3) := by decide +kernel
theorem dX0_find_23 : decode cX0_find 23 = .ok (.aload_n 0, 1) := by decide +kernel
theorem dX0_find_24 : decode cX0_find 24 = .ok (.getfield 21, 3) := by decide +kernel
theorem dX0_find_27 : decode cX0_find 27 = .ok (.iload 4, 2) := by decide +kernel
theorem dX0_find_29 : decode cX0_find 29 = .ok (.iaload, 1) := by decide +kernel
theorem dX0_find_30 : decode cX0_find 30 = .ok (.iload_n 2, 1) := by decide +kernel
theorem dX0_find_31 : decode cX0_find 31 = .ok (.if_icmp .ne 20, 3) := by decide +kernel
theorem dX0_find_34 : decode cX0_find 34 = .ok (.aload_n 0, 1) := by decide +kernel
theorem dX0_find_35 : decode cX0_find 35 = .ok (.getfield 11, 3) := by decide +kernel
theorem dX0_find_38 : decode cX0_find 38 = .ok (.iload 4, 2) := by decide +kernel
theorem dX0_find_40 : decode cX0_find 40 = .ok (.aaload, 1) := by decide +kernel
theorem dX0_find_41 : decode cX0_find 41 = .ok (.aload_n 3, 1) := by decide +kernel
theorem dX0_find_42 : decode cX0_find 42 = .ok (.invokevirtual 29, 3) := by decide +kernel
theorem dX0_find_45 : decode cX0_find 45 = .ok (.ifCond .eq 6, 3) := by decide +kernel
theorem dX0_find_48 : decode cX0_find 48 = .ok (.iload 4, 2) := by decide +kernel
theorem dX0_find_50 : decode cX0_find 50 = .ok (.ireturn, 1) := by decide +kernel
theorem dX0_find_51 : decode cX0_find 51 = .ok (.iinc 4 1, 3) := by decide +kernel
theorem dX0_find_54 : decode cX0_find 54 = .ok (.goto (-51), 3) := by decide +kernel
theorem dX0_find_57 : decode cX0_find 57 = .ok (.iconst (-1), 1) := by decide +kernel
theorem dX0_find_58 : decode cX0_find 58 = .ok (.ireturn, 1) := by decide +kernel
theorem dX0_add_0 : decode cX0_add 0 = .ok (.aload_n 0, 1) := by decide +kernel
theorem dX0_add_1 : decode cX0_add 1 = .ok (.getfield 24, 3) := by decide +kernel
theorem dX0_add_4 : decode cX0_add 4 = .ok (.bipush 80, 2) := by decide +kernel
theorem dX0_add_6 : decode cX0_add 6 = .ok (.if_icmp .ge 46, 3) := by decide +kernel
theorem dX0_add_9 : decode cX0_add 9 = .ok (.aload_n 0, 1) := by decide +kernel
theorem dX0_add_10 : decode cX0_add 10 = .ok (.getfield 11, 3) := by decide +kernel
theorem dX0_add_13 : decode cX0_add 13 = .ok (.aload_n 0, 1) := by decide +kernel
theorem dX0_add_14 : decode cX0_add 14 = .ok (.getfield 24, 3) := by decide +kernel
theorem dX0_add_17 : decode cX0_add 17 = .ok (.aaload, 1) := by decide +kernel
theorem dX0_add_18 : decode cX0_add 18 = .ok (.aload_n 3, 1) := by decide +kernel
theorem dX0_add_19 : decode cX0_add 19 = .ok (.invokevirtual 33, 3) := by decide +kernel
theorem dX0_add_22 : decode cX0_add 22 = .ok (.aload_n 0, 1) := by decide +kernel
theorem dX0_add_23 : decode cX0_add 23 = .ok (.getfield 17, 3) := by decide +kernel
theorem dX0_add_26 : decode cX0_add 26 = .ok (.aload_n 0, 1) := by decide +kernel
theorem dX0_add_27 : decode cX0_add 27 = .ok (.getfield 24, 3) := by decide +kernel
theorem dX0_add_30 : decode cX0_add 30 = .ok (.iload_n 1, 1) := by decide +kernel
theorem dX0_add_31 : decode cX0_add 31 = .ok (.iastore, 1) := by decide +kernel
theorem dX0_add_32 : decode cX0_add 32 = .ok (.aload_n 0, 1) := by decide +kernel
theorem dX0_add_33 : decode cX0_add 33 = .ok (.getfield 21, 3) := by decide +kernel
theorem dX0_add_36 : decode cX0_add 36 = .ok (.aload_n 0, 1) := by decide +kernel
theorem dX0_add_37 : decode cX0_add 37 = .ok (.getfield 24, 3) := by decide +kernel
theorem dX0_add_40 : decode cX0_add 40 = .ok (.iload_n 2, 1) := by decide +kernel
theorem dX0_add_41 : decode cX0_add 41 = .ok (.iastore, 1) := by decide +kernel
theorem dX0_add_42 : decode cX0_add 42 = .ok (.aload_n 0, 1) := by decide +kernel
theorem dX0_add_43 : decode cX0_add 43 = .ok (.dup, 1) := by decide +kernel
theorem dX0_add_44 : decode cX0_add 44 = .ok (.getfield 24, 3) := by decide +kernel
theorem dX0_add_47 : decode cX0_add 47 = .ok (.iconst 1, 1) := by decide +kernel
theorem dX0_add_48 : decode cX0_add 48 = .ok (.iadd, 1) := by decide +kernel
theorem dX0_add_49 : decode cX0_add 49 = .ok (.putfield 24, 3) := by decide +kernel
theorem dX0_add_52 : decode cX0_add 52 = .ok (.return_, 1) := by decide +kernel
theorem dX0_remove_0 : decode cX0_remove 0 = .ok (.iload_n 1, 1) := by decide +kernel
theorem dX0_remove_1 : decode cX0_remove 1 = .ok (.ifCond .lt 11, 3) := by decide +kernel
theorem dX0_remove_4 : decode cX0_remove 4 = .ok (.iload_n 1, 1) := by decide +kernel
theorem dX0_remove_5 : decode cX0_remove 5 = .ok (.aload_n 0, 1) := by decide +kernel
theorem dX0_remove_6 : decode cX0_remove 6 = .ok (.getfield 24, 3) := by decide +kernel
theorem dX0_remove_9 : decode cX0_remove 9 = .ok (.if_icmp .lt 4, 3) := by decide +kernel
theorem dX0_remove_12 : decode cX0_remove 12 = .ok (.return_, 1) := by decide +kernel
theorem dX0_remove_13 : decode cX0_remove 13 = .ok (.aload_n 0, 1) := by decide +kernel
theorem dX0_remove_14 : decode cX0_remove 14 = .ok (.getfield 24, 3) := by decide +kernel
theorem dX0_remove_17 : decode cX0_remove 17 = .ok (.iconst 1, 1) := by decide +kernel
theorem dX0_remove_18 : decode cX0_remove 18 = .ok (.isub, 1) := by decide +kernel
theorem dX0_remove_19 : decode cX0_remove 19 = .ok (.istore_n 2, 1) := by decide +kernel
theorem dX0_remove_20 : decode cX0_remove 20 = .ok (.aload_n 0, 1) := by decide +kernel
theorem dX0_remove_21 : decode cX0_remove 21 = .ok (.getfield 11, 3) := by decide +kernel
theorem dX0_remove_24 : decode cX0_remove 24 = .ok (.iload_n 1, 1) := by decide +kernel
theorem dX0_remove_25 : decode cX0_remove 25 = .ok (.aaload, 1) := by decide +kernel
theorem dX0_remove_26 : decode cX0_remove 26 = .ok (.astore_n 3, 1) := by decide +kernel
theorem dX0_remove_27 : decode cX0_remove 27 = .ok (.aload_n 0, 1) := by decide +kernel
theorem dX0_remove_28 : decode cX0_remove 28 = .ok (.getfield 11, 3) := by decide +kernel
theorem dX0_remove_31 : decode cX0_remove 31 = .ok (.iload_n 1, 1) := by decide +kernel
theorem dX0_remove_32 : decode cX0_remove 32 = .ok (.aload_n 0, 1) := by decide +kernel
theorem dX0_remove_33 : decode cX0_remove 33 = .ok (.getfield 11, 3) := by decide +kernel
theorem dX0_remove_36 : decode cX0_remove 36 = .ok (.iload_n 2, 1) := by decide +kernel
theorem dX0_remove_37 : decode cX0_remove 37 = .ok (.aaload, 1) := by decide +kernel
theorem dX0_remove_38 : decode cX0_remove 38 = .ok (.aastore, 1) := by decide +kernel
theorem dX0_remove_39 : decode cX0_remove 39 = .ok (.aload_n 0, 1) := by decide +kernel
theorem dX0_remove_40 : decode cX0_remove 40 = .ok (.getfield 11, 3) := by decide +kernel
theorem dX0_remove_43 : decode cX0_remove 43 = .ok (.iload_n 2, 1) := by decide +kernel
theorem dX0_remove_44 : decode cX0_remove 44 = .ok (.aload_n 3, 1) := by decide +kernel
theorem dX0_remove_45 : decode cX0_remove 45 = .ok (.aastore, 1) := by decide +kernel
theorem dX0_remove_46 : decode cX0_remove 46 = .ok (.aload_n 0, 1) := by decide +kernel
theorem dX0_remove_47 : decode cX0_remove 47 = .ok (.getfield 17, 3) := by decide +kernel
theorem dX0_remove_50 : decode cX0_remove 50 = .ok (.iload_n 1, 1) := by decide +kernel
theorem dX0_remove_51 : decode cX0_remove 51 = .ok (.aload_n 0, 1) := by decide +kernel
theorem dX0_remove_52 : decode cX0_remove 52 = .ok (.getfield 17, 3) := by decide +kernel
theorem dX0_remove_55 : decode cX0_remove 55 = .ok (.iload_n 2, 1) := by decide +kernel
theorem dX0_remove_56 : decode cX0_remove 56 = .ok (.iaload, 1) := by decide +kernel
theorem dX0_remove_57 : decode cX0_remove 57 = .ok (.iastore, 1) := by decide +kernel
theorem dX0_remove_58 : decode cX0_remove 58 = .ok (.aload_n 0, 1) := by decide +kernel
theorem dX0_remove_59 : decode cX0_remove 59 = .ok (.getfield 21, 3) := by decide +kernel
theorem dX0_remove_62 : decode cX0_remove 62 = .ok (.iload_n 1, 1) := by decide +kernel
theorem dX0_remove_63 : decode cX0_remove 63 = .ok (.aload_n 0, 1) := by decide +kernel
theorem dX0_remove_64 : decode cX0_remove 64 = .ok (.getfield 21, 3) := by decide +kernel
theorem dX0_remove_67 : decode cX0_remove 67 = .ok (.iload_n 2, 1) := by decide +kernel
theorem dX0_remove_68 : decode cX0_remove 68 = .ok (.iaload, 1) := by decide +kernel
theorem dX0_remove_69 : decode cX0_remove 69 = .ok (.iastore, 1) := by decide +kernel
theorem dX0_remove_70 : decode cX0_remove 70 = .ok (.aload_n 0, 1) := by decide +kernel
theorem dX0_remove_71 : decode cX0_remove 71 = .ok (.iload_n 2, 1) := by decide +kernel
theorem dX0_remove_72 : decode cX0_remove 72 = .ok (.putfield 24, 3) := by decide +kernel
theorem dX0_remove_75 : decode cX0_remove 75 = .ok (.return_, 1) := by decide +kernel
theorem dX0_kindsOf_0 : decode cX0_kindsOf 0 = .ok (.iconst 0, 1) := by decide +kernel
theorem dX0_kindsOf_1 : decode cX0_kindsOf 1 = .ok (.istore 4, 2) := by decide +kernel
theorem dX0_kindsOf_3 : decode cX0_kindsOf 3 = .ok (.iconst 0, 1) := by decide +kernel
theorem dX0_kindsOf_4 : decode cX0_kindsOf 4 = .ok (.istore 5, 2) := by decide +kernel
theorem dX0_kindsOf_6 : decode cX0_kindsOf 6 = .ok (.iload 5, 2) := by decide +kernel
theorem dX0_kindsOf_8 : decode cX0_kindsOf 8 = .ok (.aload_n 0, 1) := by decide +kernel
theorem dX0_kindsOf_9 : decode cX0_kindsOf 9 = .ok (.getfield 24, 3) := by decide +kernel
theorem dX0_kindsOf_12 : decode cX0_kindsOf 12 = .ok (.if_icmp .ge 49, 3) := by decide +kernel
theorem dX0_kindsOf_15 : decode cX0_kindsOf 15 = .ok (.aload_n 0, 1) := by decide +kernel
theorem dX0_kindsOf_16 : decode cX0_kindsOf 16 = .ok (.getfield 17, 3) := by decide +kernel
theorem dX0_kindsOf_19 : decode cX0_kindsOf 19 = .ok (.iload 5, 2) := by decide +kernel
theorem dX0_kindsOf_21 : decode cX0_kindsOf 21 = .ok (.iaload, 1) := by decide +kernel
theorem dX0_kindsOf_22 : decode cX0_kindsOf 22 = .ok (.iload_n 1, 1) := by decide +kernel
theorem dX0_kindsOf_23 : decode cX0_kindsOf 23 = .ok (.if_icmp .ne 32, 3) := by decide +kernel
theorem dX0_kindsOf_26 : decode cX0_kindsOf 26 = .ok (.aload_n 0, 1) := by decide +kernel
theorem dX0_kindsOf_27 : decode cX0_kindsOf 27 = .ok (.getfield 11, 3) := by decide +kernel
theorem dX0_kindsOf_30 : decode cX0_kindsOf 30 = .ok (.iload 5, 2) := by decide +kernel
theorem dX0_kindsOf_32 : decode cX0_kindsOf 32 = .ok (.aaload, 1) := by decide +kernel
theorem dX0_kindsOf_33 : decode cX0_kindsOf 33 = .ok (.aload_n 2, 1) := by decide +kernel
theorem dX0_kindsOf_34 : decode cX0_kindsOf 34 = .ok (.iload_n 3, 1) := by decide +kernel
theorem dX0_kindsOf_35 : decode cX0_kindsOf 35 = .ok (.invokevirtual 37, 3) := by decide +kernel
theorem dX0_kindsOf_38 : decode cX0_kindsOf 38 = .ok (.ifCond .eq 17, 3) := by decide +kernel
theorem dX0_kindsOf_41 : decode cX0_kindsOf 41 = .ok (.iload 4, 2) := by decide +kernel
theorem dX0_kindsOf_43 : decode cX0_kindsOf 43 = .ok (.iconst 1, 1) := by decide +kernel
theorem dX0_kindsOf_44 : decode cX0_kindsOf 44 = .ok (.aload_n 0, 1) := by decide +kernel
theorem dX0_kindsOf_45 : decode cX0_kindsOf 45 = .ok (.getfield 21, 3) := by decide +kernel
theorem dX0_kindsOf_48 : decode cX0_kindsOf 48 = .ok (.iload 5, 2) := by decide +kernel
theorem dX0_kindsOf_50 : decode cX0_kindsOf 50 = .ok (.iaload, 1) := by decide +kernel
theorem dX0_kindsOf_51 : decode cX0_kindsOf 51 = .ok (.ishl, 1) := by decide +kernel
theorem dX0_kindsOf_52 : decode cX0_kindsOf 52 = .ok (.ior, 1) := by decide +kernel
theorem dX0_kindsOf_53 : decode cX0_kindsOf 53 = .ok (.istore 4, 2) := by decide +kernel
theorem dX0_kindsOf_55 : decode cX0_kindsOf 55 = .ok (.iinc 5 1, 3) := by decide +kernel
theorem dX0_kindsOf_58 : decode cX0_kindsOf 58 = .ok (.goto (-52), 3) := by decide +kernel
theorem dX0_kindsOf_61 : decode cX0_kindsOf 61 = .ok (.iload 4, 2) := by decide +kernel
theorem dX0_kindsOf_63 : decode cX0_kindsOf 63 = .ok (.ireturn, 1) := by decide +kernel
theorem dX1_init_0 : decode cX1_init 0 = .ok (.aload_n 0, 1) := by decide +kernel
theorem dX1_init_1 : decode cX1_init 1 = .ok (.invokespecial 3, 3) := by decide +kernel
theorem dX1_init_4 : decode cX1_init 4 = .ok (.aload_n 0, 1) := by decide +kernel
theorem dX1_init_5 : decode cX1_init 5 = .ok (.sipush 488, 3) := by decide +kernel
theorem dX1_init_8 : decode cX1_init 8 = .ok (.newarray .byte, 2) := by decide +kernel
theorem dX1_init_10 : decode cX1_init 10 = .ok (.putfield 9, 3) := by decide +kernel
theorem dX1_init_13 : decode cX1_init 13 = .ok (.aload_n 0, 1) := by decide +kernel
theorem dX1_init_14 : decode cX1_init 14 = .ok (.iconst 0, 1) := by decide +kernel
theorem dX1_init_15 : decode cX1_init 15 = .ok (.putfield 15, 3) := by decide +kernel
theorem dX1_init_18 : decode cX1_init 18 = .ok (.return_, 1) := by decide +kernel
theorem dX1_add_0 : decode cX1_add 0 = .ok (.aload_n 0, 1) := by decide +kernel
theorem dX1_add_1 : decode cX1_add 1 = .ok (.getfield 15, 3) := by decide +kernel
theorem dX1_add_4 : decode cX1_add 4 = .ok (.sipush 488, 3) := by decide +kernel
theorem dX1_add_7 : decode cX1_add 7 = .ok (.if_icmp .ge 23, 3) := by decide +kernel
theorem dX1_add_10 : decode cX1_add 10 = .ok (.aload_n 0, 1) := by decide +kernel
theorem dX1_add_11 : decode cX1_add 11 = .ok (.getfield 9, 3) := by decide +kernel
theorem dX1_add_14 : decode cX1_add 14 = .ok (.aload_n 0, 1) := by decide +kernel
theorem dX1_add_15 : decode cX1_add 15 = .ok (.getfield 15, 3) := by decide +kernel
theorem dX1_add_18 : decode cX1_add 18 = .ok (.iload_n 1, 1) := by decide +kernel
theorem dX1_add_19 : decode cX1_add 19 = .ok (.bastore, 1) := by decide +kernel
theorem dX1_add_20 : decode cX1_add 20 = .ok (.aload_n 0, 1) := by decide +kernel
theorem dX1_add_21 : decode cX1_add 21 = .ok (.dup, 1) := by decide +kernel
theorem dX1_add_22 : decode cX1_add 22 = .ok (.getfield 15, 3) := by decide +kernel
theorem dX1_add_25 : decode cX1_add 25 = .ok (.iconst 1, 1) := by decide +kernel
theorem dX1_add_26 : decode cX1_add 26 = .ok (.iadd, 1) := by decide +kernel
theorem dX1_add_27 : decode cX1_add 27 = .ok (.putfield 15, 3) := by decide +kernel
theorem dX1_add_30 : decode cX1_add 30 = .ok (.return_, 1) := by decide +kernel
theorem dX1_addWord_0 : decode cX1_addWord 0 = .ok (.iload_n 3, 1) := by decide +kernel
theorem dX1_addWord_1 : decode cX1_addWord 1 = .ok (.ifCond .le 9, 3) := by decide +kernel
theorem dX1_addWord_4 : decode cX1_addWord 4 = .ok (.aload_n 0, 1) := by decide +kernel
theorem dX1_addWord_5 : decode cX1_addWord 5 = .ok (.bipush 32, 2) := by decide +kernel
theorem dX1_addWord_7 : decode cX1_addWord 7 = .ok (.invokevirtual 19, 3) := by decide +kernel
theorem dX1_addWord_10 : decode cX1_addWord 10 = .ok (.iconst 0, 1) := by decide +kernel
theorem dX1_addWord_11 : decode cX1_addWord 11 = .ok (.istore 4, 2) := by decide +kernel
theorem dX1_addWord_13 : decode cX1_addWord 13 = .ok (.iload 4, 2) := by decide +kernel
theorem dX1_addWord_15 : decode cX1_addWord 15 = .ok (.iload_n 2, 1) := by decide +kernel
theorem dX1_addWord_16 : decode cX1_addWord 16 = .ok (.if_icmp .ge 24, 3) := by decide +kernel
theorem dX1_addWord_19 : decode cX1_addWord 19 = .ok (.iload 4, 2) := by decide +kernel
theorem dX1_addWord_21 : decode cX1_addWord 21 = .ok (.aload_n 1, 1) := by decide +kernel
theorem dX1_addWord_22 : decode cX1_addWord 22 = .ok (.arraylength, 1) := by decide +kernel
theorem dX1_addWord_23 : decode cX1_addWord 23 = .ok (.if_icmp .ge 17, 3) := by decide +kernel
theorem dX1_addWord_26 : decode cX1_addWord 26 = .ok (.aload_n 0, 1) := by decide +kernel
theorem dX1_addWord_27 : decode cX1_addWord 27 = .ok (.aload_n 1, 1) := by decide +kernel
theorem dX1_addWord_28 : decode cX1_addWord 28 = .ok (.iload 4, 2) := by decide +kernel
theorem dX1_addWord_30 : decode cX1_addWord 30 = .ok (.baload, 1) := by decide +kernel
theorem dX1_addWord_31 : decode cX1_addWord 31 = .ok (.invokevirtual 19, 3) := by decide +kernel
theorem dX1_addWord_34 : decode cX1_addWord 34 = .ok (.iinc 4 1, 3) := by decide +kernel
theorem dX1_addWord_37 : decode cX1_addWord 37 = .ok (.goto (-24), 3) := by decide +kernel
theorem dX1_addWord_40 : decode cX1_addWord 40 = .ok (.return_, 1) := by decide +kernel
theorem dX1_signAt_0 : decode cX1_signAt 0 = .ok (.iload_n 1, 1) := by decide +kernel
theorem dX1_signAt_1 : decode cX1_signAt 1 = .ok (.ifCond .lt 20, 3) := by decide +kernel
theorem dX1_signAt_4 : decode cX1_signAt 4 = .ok (.iload_n 1, 1) := by decide +kernel
theorem dX1_signAt_5 : decode cX1_signAt 5 = .ok (.aload_n 0, 1) := by decide +kernel
theorem dX1_signAt_6 : decode cX1_signAt 6 = .ok (.getfield 15, 3) := by decide +kernel
theorem dX1_signAt_9 : decode cX1_signAt 9 = .ok (.if_icmp .ge 12, 3) := by decide +kernel
theorem dX1_signAt_12 : decode cX1_signAt 12 = .ok (.aload_n 0, 1) := by decide +kernel
theorem dX1_signAt_13 : decode cX1_signAt 13 = .ok (.getfield 9, 3) := by decide +kernel
theorem dX1_signAt_16 : decode cX1_signAt 16 = .ok (.iload_n 1, 1) := by decide +kernel
theorem dX1_signAt_17 : decode cX1_signAt 17 = .ok (.baload, 1) := by decide +kernel
theorem dX1_signAt_18 : decode cX1_signAt 18 = .ok (.goto 4, 3) := by decide +kernel
theorem dX1_signAt_21 : decode cX1_signAt 21 = .ok (.iconst (-1), 1) := by decide +kernel
theorem dX1_signAt_22 : decode cX1_signAt 22 = .ok (.ireturn, 1) := by decide +kernel
theorem dX1_alike_0 : decode cX1_alike 0 = .ok (.aload_n 0, 1) := by decide +kernel
theorem dX1_alike_1 : decode cX1_alike 1 = .ok (.getfield 15, 3) := by decide +kernel
theorem dX1_alike_4 : decode cX1_alike 4 = .ok (.aload_n 1, 1) := by decide +kernel
theorem dX1_alike_5 : decode cX1_alike 5 = .ok (.getfield 15, 3) := by decide +kernel
theorem dX1_alike_8 : decode cX1_alike 8 = .ok (.if_icmp .eq 5, 3) := by decide +kernel
theorem dX1_alike_11 : decode cX1_alike 11 = .ok (.iconst 0, 1) := by decide +kernel
theorem dX1_alike_12 : decode cX1_alike 12 = .ok (.ireturn, 1) := by decide +kernel
theorem dX1_alike_13 : decode cX1_alike 13 = .ok (.iconst 0, 1) := by decide +kernel
theorem dX1_alike_14 : decode cX1_alike 14 = .ok (.istore_n 2, 1) := by decide +kernel
theorem dX1_alike_15 : decode cX1_alike 15 = .ok (.iload_n 2, 1) := by decide +kernel
theorem dX1_alike_16 : decode cX1_alike 16 = .ok (.aload_n 0, 1) := by decide +kernel
theorem dX1_alike_17 : decode cX1_alike 17 = .ok (.getfield 15, 3) := by decide +kernel
theorem dX1_alike_20 : decode cX1_alike 20 = .ok (.if_icmp .ge 26, 3) := by decide +kernel
theorem dX1_alike_23 : decode cX1_alike 23 = .ok (.aload_n 0, 1) := by decide +kernel
theorem dX1_alike_24 : decode cX1_alike 24 = .ok (.getfield 9, 3) := by decide +kernel
theorem dX1_alike_27 : decode cX1_alike 27 = .ok (.iload_n 2, 1) := by decide +kernel
theorem dX1_alike_28 : decode cX1_alike 28 = .ok (.baload, 1) := by decide +kernel
theorem dX1_alike_29 : decode cX1_alike 29 = .ok (.aload_n 1, 1) := by decide +kernel
theorem dX1_alike_30 : decode cX1_alike 30 = .ok (.getfield 9, 3) := by decide +kernel
theorem dX1_alike_33 : decode cX1_alike 33 = .ok (.iload_n 2, 1) := by decide +kernel
theorem dX1_alike_34 : decode cX1_alike 34 = .ok (.baload, 1) := by decide +kernel
theorem dX1_alike_35 : decode cX1_alike 35 = .ok (.if_icmp .eq 5, 3) := by decide +kernel
theorem dX1_alike_38 : decode cX1_alike 38 = .ok (.iconst 0, 1) := by decide +kernel
theorem dX1_alike_39 : decode cX1_alike 39 = .ok (.ireturn, 1) := by decide +kernel
theorem dX1_alike_40 : decode cX1_alike 40 = .ok (.iinc 2 1, 3) := by decide +kernel
theorem dX1_alike_43 : decode cX1_alike 43 = .ok (.goto (-28), 3) := by decide +kernel
theorem dX1_alike_46 : decode cX1_alike 46 = .ok (.iconst 1, 1) := by decide +kernel
theorem dX1_alike_47 : decode cX1_alike 47 = .ok (.ireturn, 1) := by decide +kernel
theorem dX2_init_0 : decode cX2_init 0 = .ok (.aload_n 0, 1) := by decide +kernel
theorem dX2_init_1 : decode cX2_init 1 = .ok (.invokespecial 3, 3) := by decide +kernel
theorem dX2_init_4 : decode cX2_init 4 = .ok (.aload_n 0, 1) := by decide +kernel
theorem dX2_init_5 : decode cX2_init 5 = .ok (.iconst 0, 1) := by decide +kernel
theorem dX2_init_6 : decode cX2_init 6 = .ok (.putfield 9, 3) := by decide +kernel
theorem dX2_init_9 : decode cX2_init 9 = .ok (.aload_n 0, 1) := by decide +kernel
theorem dX2_init_10 : decode cX2_init 10 = .ok (.iconst 0, 1) := by decide +kernel
theorem dX2_init_11 : decode cX2_init 11 = .ok (.putfield 15, 3) := by decide +kernel
theorem dX2_init_14 : decode cX2_init 14 = .ok (.aload_n 0, 1) := by decide +kernel
theorem dX2_init_15 : decode cX2_init 15 = .ok (.bipush 8, 2) := by decide +kernel
theorem dX2_init_17 : decode cX2_init 17 = .ok (.anewarray 18, 3) := by decide +kernel
theorem dX2_init_20 : decode cX2_init 20 = .ok (.putfield 20, 3) := by decide +kernel
theorem dX2_init_23 : decode cX2_init 23 = .ok (.aload_n 0, 1) := by decide +kernel
theorem dX2_init_24 : decode cX2_init 24 = .ok (.iconst 0, 1) := by decide +kernel
theorem dX2_init_25 : decode cX2_init 25 = .ok (.putfield 24, 3) := by decide +kernel
theorem dX2_init_28 : decode cX2_init 28 = .ok (.aload_n 0, 1) := by decide +kernel
theorem dX2_init_29 : decode cX2_init 29 = .ok (.iconst 0, 1) := by decide +kernel
theorem dX2_init_30 : decode cX2_init 30 = .ok (.putfield 28, 3) := by decide +kernel
theorem dX2_init_33 : decode cX2_init 33 = .ok (.aload_n 0, 1) := by decide +kernel
theorem dX2_init_34 : decode cX2_init 34 = .ok (.bipush 8, 2) := by decide +kernel
theorem dX2_init_36 : decode cX2_init 36 = .ok (.newarray .int, 2) := by decide +kernel
theorem dX2_init_38 : decode cX2_init 38 = .ok (.putfield 31, 3) := by decide +kernel
theorem dX2_init_41 : decode cX2_init 41 = .ok (.aload_n 0, 1) := by decide +kernel
theorem dX2_init_42 : decode cX2_init 42 = .ok (.bipush 8, 2) := by decide +kernel
theorem dX2_init_44 : decode cX2_init 44 = .ok (.newarray .int, 2) := by decide +kernel
theorem dX2_init_46 : decode cX2_init 46 = .ok (.putfield 35, 3) := by decide +kernel
theorem dX2_init_49 : decode cX2_init 49 = .ok (.aload_n 0, 1) := by decide +kernel
theorem dX2_init_50 : decode cX2_init 50 = .ok (.iconst 0, 1) := by decide +kernel
theorem dX2_init_51 : decode cX2_init 51 = .ok (.putfield 38, 3) := by decide +kernel
theorem dX2_init_54 : decode cX2_init 54 = .ok (.aload_n 0, 1) := by decide +kernel
theorem dX2_init_55 : decode cX2_init 55 = .ok (.iconst 0, 1) := by decide +kernel
theorem dX2_init_56 : decode cX2_init 56 = .ok (.putfield 41, 3) := by decide +kernel
theorem dX2_init_59 : decode cX2_init 59 = .ok (.aload_n 0, 1) := by decide +kernel
theorem dX2_init_60 : decode cX2_init 60 = .ok (.new 44, 3) := by decide +kernel
theorem dX2_init_63 : decode cX2_init 63 = .ok (.dup, 1) := by decide +kernel
theorem dX2_init_64 : decode cX2_init 64 = .ok (.invokespecial 46, 3) := by decide +kernel
theorem dX2_init_67 : decode cX2_init 67 = .ok (.putfield 47, 3) := by decide +kernel
theorem dX2_init_70 : decode cX2_init 70 = .ok (.iconst 0, 1) := by decide +kernel
theorem dX2_init_71 : decode cX2_init 71 = .ok (.istore_n 1, 1) := by decide +kernel
theorem dX2_init_72 : decode cX2_init 72 = .ok (.iload_n 1, 1) := by decide +kernel
theorem dX2_init_73 : decode cX2_init 73 = .ok (.bipush 8, 2) := by decide +kernel
theorem dX2_init_75 : decode cX2_init 75 = .ok (.if_icmp .ge 22, 3) := by decide +kernel
theorem dX2_init_78 : decode cX2_init 78 = .ok (.aload_n 0, 1) := by decide +kernel
theorem dX2_init_79 : decode cX2_init 79 = .ok (.getfield 20, 3) := by decide +kernel
theorem dX2_init_82 : decode cX2_init 82 = .ok (.iload_n 1, 1) := by decide +kernel
theorem dX2_init_83 : decode cX2_init 83 = .ok (.new 18, 3) := by decide +kernel
theorem dX2_init_86 : decode cX2_init 86 = .ok (.dup, 1) := by decide +kernel
theorem dX2_init_87 : decode cX2_init 87 = .ok (.invokespecial 51, 3) := by decide +kernel
theorem dX2_init_90 : decode cX2_init 90 = .ok (.aastore, 1) := by decide +kernel
theorem dX2_init_91 : decode cX2_init 91 = .ok (.iinc 1 1, 3) := by decide +kernel
theorem dX2_init_94 : decode cX2_init 94 = .ok (.goto (-22), 3) := by decide +kernel
theorem dX2_init_97 : decode cX2_init 97 = .ok (.return_, 1) := by decide +kernel
theorem dX2_take_0 : decode cX2_take 0 = .ok (.aload_n 0, 1) := by decide +kernel
theorem dX2_take_1 : decode cX2_take 1 = .ok (.iconst 0, 1) := by decide +kernel
theorem dX2_take_2 : decode cX2_take 2 = .ok (.putfield 15, 3) := by decide +kernel
theorem dX2_take_5 : decode cX2_take 5 = .ok (.iconst 0, 1) := by decide +kernel
theorem dX2_take_6 : decode cX2_take 6 = .ok (.istore_n 3, 1) := by decide +kernel
theorem dX2_take_7 : decode cX2_take 7 = .ok (.iconst 0, 1) := by decide +kernel
theorem dX2_take_8 : decode cX2_take 8 = .ok (.istore 4, 2) := by decide +kernel
theorem dX2_take_10 : decode cX2_take 10 = .ok (.iload 4, 2) := by decide +kernel
theorem dX2_take_12 : decode cX2_take 12 = .ok (.iload_n 2, 1) := by decide +kernel
theorem dX2_take_13 : decode cX2_take 13 = .ok (.if_icmp .gt 78, 3) := by decide +kernel
theorem dX2_take_16 : decode cX2_take 16 = .ok (.iload_n 2, 1) := by decide +kernel
theorem dX2_take_17 : decode cX2_take 17 = .ok (.aload_n 1, 1) := by decide +kernel
theorem dX2_take_18 : decode cX2_take 18 = .ok (.arraylength, 1) := by decide +kernel
theorem dX2_take_19 : decode cX2_take 19 = .ok (.if_icmp .gt 72, 3) := by decide +kernel
theorem dX2_take_22 : decode cX2_take 22 = .ok (.iload 4, 2) := by decide +kernel
theorem dX2_take_24 : decode cX2_take 24 = .ok (.iload_n 2, 1) := by decide +kernel
theorem dX2_take_25 : decode cX2_take 25 = .ok (.if_icmp .ge 15, 3) := by decide +kernel
theorem dX2_take_28 : decode cX2_take 28 = .ok (.aload_n 1, 1) := by decide +kernel
theorem dX2_take_29 : decode cX2_take 29 = .ok (.iload 4, 2) := by decide +kernel
theorem dX2_take_31 : decode cX2_take 31 = .ok (.baload, 1) := by decide +kernel
theorem dX2_take_32 : decode cX2_take 32 = .ok (.bipush 32, 2) := by decide +kernel
theorem dX2_take_34 : decode cX2_take 34 = .ok (.if_icmp .eq 6, 3) := by decide +kernel
theorem dX2_take_37 : decode cX2_take 37 = .ok (.goto 48, 3) := by decide +kernel
theorem dX2_take_40 : decode cX2_take 40 = .ok (.aload_n 0, 1) := by decide +kernel
theorem dX2_take_41 : decode cX2_take 41 = .ok (.getfield 15, 3) := by decide +kernel
theorem dX2_take_44 : decode cX2_take 44 = .ok (.bipush 8, 2) := by decide +kernel
theorem dX2_take_46 : decode cX2_take 46 = .ok (.if_icmp .ge 22, 3) := by decide +kernel
theorem dX2_take_49 : decode cX2_take 49 = .ok (.aload_n 0, 1) := by decide +kernel
theorem dX2_take_50 : decode cX2_take 50 = .ok (.getfield 20, 3) := by decide +kernel
theorem dX2_take_53 : decode cX2_take 53 = .ok (.aload_n 0, 1) := by decide +kernel
theorem dX2_take_54 : decode cX2_take 54 = .ok (.getfield 15, 3) := by decide +kernel
theorem dX2_take_57 : decode cX2_take 57 = .ok (.aaload, 1) := by decide +kernel
theorem dX2_take_58 : decode cX2_take 58 = .ok (.aload_n 1, 1) := by decide +kernel
theorem dX2_take_59 : decode cX2_take 59 = .ok (.iload_n 3, 1) := by decide +kernel
theorem dX2_take_60 : decode cX2_take 60 = .ok (.iload 4, 2) := by decide +kernel
theorem dX2_take_62 : decode cX2_take 62 = .ok (.invokevirtual 52, 3) := by decide +kernel
theorem dX2_take_65 : decode cX2_take 65 = .ok (.ifCond .ne 5, 3) := by decide +kernel
theorem dX2_take_68 : decode cX2_take 68 = .ok (.iconst 0, 1) := by decide +kernel
theorem dX2_take_69 : decode cX2_take 69 = .ok (.ireturn, 1) := by decide +kernel
theorem dX2_take_70 : decode cX2_take 70 = .ok (.aload_n 0, 1) := by decide +kernel
theorem dX2_take_71 : decode cX2_take 71 = .ok (.dup, 1) := by decide +kernel
theorem dX2_take_72 : decode cX2_take 72 = .ok (.getfield 15, 3) := by decide +kernel
theorem dX2_take_75 : decode cX2_take 75 = .ok (.iconst 1, 1) := by decide +kernel
theorem dX2_take_76 : decode cX2_take 76 = .ok (.iadd, 1) := by decide +kernel
theorem dX2_take_77 : decode cX2_take 77 = .ok (.putfield 15, 3) := by decide +kernel
theorem dX2_take_80 : decode cX2_take 80 = .ok (.iload 4, 2) := by decide +kernel
theorem dX2_take_82 : decode cX2_take 82 = .ok (.iconst 1, 1) := by decide +kernel
theorem dX2_take_83 : decode cX2_take 83 = .ok (.iadd, 1) := by decide +kernel
theorem dX2_take_84 : decode cX2_take 84 = .ok (.istore_n 3, 1) := by decide +kernel
theorem dX2_take_85 : decode cX2_take 85 = .ok (.iinc 4 1, 3) := by decide +kernel
theorem dX2_take_88 : decode cX2_take 88 = .ok (.goto (-78), 3) := by decide +kernel
theorem dX2_take_91 : decode cX2_take 91 = .ok (.aload_n 0, 1) := by decide +kernel
theorem dX2_take_92 : decode cX2_take 92 = .ok (.getfield 15, 3) := by decide +kernel
theorem dX2_take_95 : decode cX2_take 95 = .ok (.ifCond .le 7, 3) := by decide +kernel
theorem dX2_take_98 : decode cX2_take 98 = .ok (.iconst 1, 1) := by decide +kernel
theorem dX2_take_99 : decode cX2_take 99 = .ok (.goto 4, 3) := by decide +kernel
theorem dX2_take_102 : decode cX2_take 102 = .ok (.iconst 0, 1) := by decide +kernel
theorem dX2_take_103 : decode cX2_take 103 = .ok (.ireturn, 1) := by decide +kernel
theorem dX2_nextOf_0 : decode cX2_nextOf 0 = .ok (.aload_n 0, 1) := by decide +kernel
theorem dX2_nextOf_1 : decode cX2_nextOf 1 = .ok (.getfield 28, 3) := by decide +kernel
theorem dX2_nextOf_4 : decode cX2_nextOf 4 = .ok (.ifCond .eq 7, 3) := by decide +kernel
theorem dX2_nextOf_7 : decode cX2_nextOf 7 = .ok (.iload_n 2, 1) := by decide +kernel
theorem dX2_nextOf_8 : decode cX2_nextOf 8 = .ok (.ifCond .ge 5, 3) := by decide +kernel
theorem dX2_nextOf_11 : decode cX2_nextOf 11 = .ok (.iconst (-1), 1) := by decide +kernel
theorem dX2_nextOf_12 : decode cX2_nextOf 12 = .ok (.ireturn, 1) := by decide +kernel
theorem dX2_nextOf_13 : decode cX2_nextOf 13 = .ok (.iload_n 2, 1) := by decide +kernel
theorem dX2_nextOf_14 : decode cX2_nextOf 14 = .ok (.istore_n 3, 1) := by decide +kernel
theorem dX2_nextOf_15 : decode cX2_nextOf 15 = .ok (.iload_n 3, 1) := by decide +kernel
theorem dX2_nextOf_16 : decode cX2_nextOf 16 = .ok (.aload_n 0, 1) := by decide +kernel
theorem dX2_nextOf_17 : decode cX2_nextOf 17 = .ok (.getfield 15, 3) := by decide +kernel
theorem dX2_nextOf_20 : decode cX2_nextOf 20 = .ok (.if_icmp .ge 24, 3) := by decide +kernel
theorem dX2_nextOf_23 : decode cX2_nextOf 23 = .ok (.iload_n 1, 1) := by decide +kernel
theorem dX2_nextOf_24 : decode cX2_nextOf 24 = .ok (.aload_n 0, 1) := by decide +kernel
theorem dX2_nextOf_25 : decode cX2_nextOf 25 = .ok (.getfield 31, 3) := by decide +kernel
theorem dX2_nextOf_28 : decode cX2_nextOf 28 = .ok (.iload_n 3, 1) := by decide +kernel
theorem dX2_nextOf_29 : decode cX2_nextOf 29 = .ok (.iaload, 1) := by decide +kernel
theorem dX2_nextOf_30 : decode cX2_nextOf 30 = .ok (.ishr, 1) := by decide +kernel
theorem dX2_nextOf_31 : decode cX2_nextOf 31 = .ok (.iconst 1, 1) := by decide +kernel
theorem dX2_nextOf_32 : decode cX2_nextOf 32 = .ok (.iand, 1) := by decide +kernel
theorem dX2_nextOf_33 : decode cX2_nextOf 33 = .ok (.ifCond .eq 5, 3) := by decide +kernel
theorem dX2_nextOf_36 : decode cX2_nextOf 36 = .ok (.iload_n 3, 1) := by decide +kernel
theorem dX2_nextOf_37 : decode cX2_nextOf 37 = .ok (.ireturn, 1) := by decide +kernel
theorem dX2_nextOf_38 : decode cX2_nextOf 38 = .ok (.iinc 3 1, 3) := by decide +kernel
theorem dX2_nextOf_41 : decode cX2_nextOf 41 = .ok (.goto (-26), 3) := by decide +kernel
theorem dX2_nextOf_44 : decode cX2_nextOf 44 = .ok (.iconst (-1), 1) := by decide +kernel
theorem dX2_nextOf_45 : decode cX2_nextOf 45 = .ok (.ireturn, 1) := by decide +kernel
theorem dX2_choose_0 : decode cX2_choose 0 = .ok (.iconst 0, 1) := by decide +kernel
theorem dX2_choose_1 : decode cX2_choose 1 = .ok (.istore 4, 2) := by decide +kernel
theorem dX2_choose_3 : decode cX2_choose 3 = .ok (.iconst 0, 1) := by decide +kernel
theorem dX2_choose_4 : decode cX2_choose 4 = .ok (.istore 5, 2) := by decide +kernel
theorem dX2_choose_6 : decode cX2_choose 6 = .ok (.iload 5, 2) := by decide +kernel
theorem dX2_choose_8 : decode cX2_choose 8 = .ok (.iload_n 2, 1) := by decide +kernel
theorem dX2_choose_9 : decode cX2_choose 9 = .ok (.if_icmp .ge 64, 3) := by decide +kernel
theorem dX2_choose_12 : decode cX2_choose 12 = .ok (.aload_n 0, 1) := by decide +kernel
theorem dX2_choose_13 : decode cX2_choose 13 = .ok (.getfield 28, 3) := by decide +kernel
theorem dX2_choose_16 : decode cX2_choose 16 = .ok (.ifCond .eq 57, 3) := by decide +kernel
theorem dX2_choose_19 : decode cX2_choose 19 = .ok (.iconst 0, 1) := by decide +kernel
theorem dX2_choose_20 : decode cX2_choose 20 = .ok (.istore 6, 2) := by decide +kernel
theorem dX2_choose_22 : decode cX2_choose 22 = .ok (.iload 6, 2) := by decide +kernel
theorem dX2_choose_24 : decode cX2_choose 24 = .ok (.aload_n 0, 1) := by decide +kernel
theorem dX2_choose_25 : decode cX2_choose 25 = .ok (.getfield 15, 3) := by decide +kernel
theorem dX2_choose_28 : decode cX2_choose 28 = .ok (.if_icmp .ge 39, 3) := by decide +kernel
theorem dX2_choose_31 : decode cX2_choose 31 = .ok (.aload_n 0, 1) := by decide +kernel
theorem dX2_choose_32 : decode cX2_choose 32 = .ok (.getfield 31, 3) := by decide +kernel
theorem dX2_choose_35 : decode cX2_choose 35 = .ok (.iload 6, 2) := by decide +kernel
theorem dX2_choose_37 : decode cX2_choose 37 = .ok (.iaload, 1) := by decide +kernel
theorem dX2_choose_38 : decode cX2_choose 38 = .ok (.aload_n 1, 1) := by decide +kernel
theorem dX2_choose_39 : decode cX2_choose 39 = .ok (.iload 5, 2) := by decide +kernel
theorem dX2_choose_41 : decode cX2_choose 41 = .ok (.iaload, 1) := by decide +kernel
theorem dX2_choose_42 : decode cX2_choose 42 = .ok (.if_icmp .ne 19, 3) := by decide +kernel
theorem dX2_choose_45 : decode cX2_choose 45 = .ok (.iload 4, 2) := by decide +kernel
theorem dX2_choose_47 : decode cX2_choose 47 = .ok (.aload_n 3, 1) := by decide +kernel
theorem dX2_choose_48 : decode cX2_choose 48 = .ok (.arraylength, 1) := by decide +kernel
theorem dX2_choose_49 : decode cX2_choose 49 = .ok (.if_icmp .ge 12, 3) := by decide +kernel
theorem dX2_choose_52 : decode cX2_choose 52 = .ok (.aload_n 3, 1) := by decide +kernel
theorem dX2_choose_53 : decode cX2_choose 53 = .ok (.iload 4, 2) := by decide +kernel
theorem dX2_choose_55 : decode cX2_choose 55 = .ok (.iload 6, 2) := by decide +kernel
theorem dX2_choose_57 : decode cX2_choose 57 = .ok (.iastore, 1) := by decide +kernel
theorem dX2_choose_58 : decode cX2_choose 58 = .ok (.iinc 4 1, 3) := by decide +kernel
theorem dX2_choose_61 : decode cX2_choose 61 = .ok (.iinc 6 1, 3) := by decide +kernel
theorem dX2_choose_64 : decode cX2_choose 64 = .ok (.goto (-42), 3) := by decide +kernel
theorem dX2_choose_67 : decode cX2_choose 67 = .ok (.iinc 5 1, 3) := by decide +kernel
theorem dX2_choose_70 : decode cX2_choose 70 = .ok (.goto (-64), 3) := by decide +kernel
theorem dX2_choose_73 : decode cX2_choose 73 = .ok (.iload 4, 2) := by decide +kernel
theorem dX2_choose_75 : decode cX2_choose 75 = .ok (.ireturn, 1) := by decide +kernel
theorem dX2_isBefore_0 : decode cX2_isBefore 0 = .ok (.aload_n 0, 1) := by decide +kernel
theorem dX2_isBefore_1 : decode cX2_isBefore 1 = .ok (.getfield 28, 3) := by decide +kernel
theorem dX2_isBefore_4 : decode cX2_isBefore 4 = .ok (.ifCond .eq 10, 3) := by decide +kernel
theorem dX2_isBefore_7 : decode cX2_isBefore 7 = .ok (.aload_n 1, 1) := by decide +kernel
theorem dX2_isBefore_8 : decode cX2_isBefore 8 = .ok (.getfield 28, 3) := by decide +kernel
theorem dX2_isBefore_11 : decode cX2_isBefore 11 = .ok (.ifCond .ne 8, 3) := by decide +kernel
theorem dX2_isBefore_14 : decode cX2_isBefore 14 = .ok (.aload_n 0, 1) := by decide +kernel
theorem dX2_isBefore_15 : decode cX2_isBefore 15 = .ok (.getfield 28, 3) := by decide +kernel
theorem dX2_isBefore_18 : decode cX2_isBefore 18 = .ok (.ireturn, 1) := by decide +kernel
theorem dX2_isBefore_19 : decode cX2_isBefore 19 = .ok (.iconst 0, 1) := by decide +kernel
theorem dX2_isBefore_20 : decode cX2_isBefore 20 = .ok (.istore_n 2, 1) := by decide +kernel
theorem dX2_isBefore_21 : decode cX2_isBefore 21 = .ok (.iload_n 2, 1) := by decide +kernel
theorem dX2_isBefore_22 : decode cX2_isBefore 22 = .ok (.aload_n 0, 1) := by decide +kernel
theorem dX2_isBefore_23 : decode cX2_isBefore 23 = .ok (.getfield 38, 3) := by decide +kernel
theorem dX2_isBefore_26 : decode cX2_isBefore 26 = .ok (.if_icmp .ge 57, 3) := by decide +kernel
theorem dX2_isBefore_29 : decode cX2_isBefore 29 = .ok (.iload_n 2, 1) := by decide +kernel
theorem dX2_isBefore_30 : decode cX2_isBefore 30 = .ok (.aload_n 1, 1) := by decide +kernel
theorem dX2_isBefore_31 : decode cX2_isBefore 31 = .ok (.getfield 38, 3) := by decide +kernel
theorem dX2_isBefore_34 : decode cX2_isBefore 34 = .ok (.if_icmp .ge 49, 3) := by decide +kernel
theorem dX2_isBefore_37 : decode cX2_isBefore 37 = .ok (.aload_n 0, 1) := by decide +kernel
theorem dX2_isBefore_38 : decode cX2_isBefore 38 = .ok (.getfield 20, 3) := by decide +kernel
theorem dX2_isBefore_41 : decode cX2_isBefore 41 = .ok (.aload_n 0, 1) := by decide +kernel
theorem dX2_isBefore_42 : decode cX2_isBefore 42 = .ok (.getfield 35, 3) := by decide +kernel
theorem dX2_isBefore_45 : decode cX2_isBefore 45 = .ok (.iload_n 2, 1) := by decide +kernel
theorem dX2_isBefore_46 : decode cX2_isBefore 46 = .ok (.iaload, 1) := by decide +kernel
theorem dX2_isBefore_47 : decode cX2_isBefore 47 = .ok (.aaload, 1) := by decide +kernel
theorem dX2_isBefore_48 : decode cX2_isBefore 48 = .ok (.aload_n 1, 1) := by decide +kernel
theorem dX2_isBefore_49 : decode cX2_isBefore 49 = .ok (.getfield 20, 3) := by decide +kernel
theorem dX2_isBefore_52 : decode cX2_isBefore 52 = .ok (.aload_n 1, 1) := by decide +kernel
theorem dX2_isBefore_53 : decode cX2_isBefore 53 = .ok (.getfield 35, 3) := by decide +kernel
theorem dX2_isBefore_56 : decode cX2_isBefore 56 = .ok (.iload_n 2, 1) := by decide +kernel
theorem dX2_isBefore_57 : decode cX2_isBefore 57 = .ok (.iaload, 1) := by decide +kernel
theorem dX2_isBefore_58 : decode cX2_isBefore 58 = .ok (.aaload, 1) := by decide +kernel
theorem dX2_isBefore_59 : decode cX2_isBefore 59 = .ok (.invokevirtual 56, 3) := by decide +kernel
theorem dX2_isBefore_62 : decode cX2_isBefore 62 = .ok (.istore_n 3, 1) := by decide +kernel
theorem dX2_isBefore_63 : decode cX2_isBefore 63 = .ok (.iload_n 3, 1) := by decide +kernel
theorem dX2_isBefore_64 : decode cX2_isBefore 64 = .ok (.ifCond .eq 13, 3) := by decide +kernel
theorem dX2_isBefore_67 : decode cX2_isBefore 67 = .ok (.iload_n 3, 1) := by decide +kernel
theorem dX2_isBefore_68 : decode cX2_isBefore 68 = .ok (.ifCond .ge 7, 3) := by decide +kernel
theorem dX2_isBefore_71 : decode cX2_isBefore 71 = .ok (.iconst 1, 1) := by decide +kernel
theorem dX2_isBefore_72 : decode cX2_isBefore 72 = .ok (.goto 4, 3) := by decide +kernel
theorem dX2_isBefore_75 : decode cX2_isBefore 75 = .ok (.iconst 0, 1) := by decide +kernel
theorem dX2_isBefore_76 : decode cX2_isBefore 76 = .ok (.ireturn, 1) := by decide +kernel
theorem dX2_isBefore_77 : decode cX2_isBefore 77 = .ok (.iinc 2 1, 3) := by decide +kernel
theorem dX2_isBefore_80 : decode cX2_isBefore 80 = .ok (.goto (-59), 3) := by decide +kernel
theorem dX2_isBefore_83 : decode cX2_isBefore 83 = .ok (.aload_n 0, 1) := by decide +kernel
theorem dX2_isBefore_84 : decode cX2_isBefore 84 = .ok (.getfield 38, 3) := by decide +kernel
theorem dX2_isBefore_87 : decode cX2_isBefore 87 = .ok (.aload_n 1, 1) := by decide +kernel
theorem dX2_isBefore_88 : decode cX2_isBefore 88 = .ok (.getfield 38, 3) := by decide +kernel
theorem dX2_isBefore_91 : decode cX2_isBefore 91 = .ok (.if_icmp .ge 7, 3) := by decide +kernel
theorem dX2_isBefore_94 : decode cX2_isBefore 94 = .ok (.iconst 1, 1) := by decide +kernel
theorem dX2_isBefore_95 : decode cX2_isBefore 95 = .ok (.goto 4, 3) := by decide +kernel
theorem dX2_isBefore_98 : decode cX2_isBefore 98 = .ok (.iconst 0, 1) := by decide +kernel
theorem dX2_isBefore_99 : decode cX2_isBefore 99 = .ok (.ireturn, 1) := by decide +kernel
theorem dX2_alikeFolded_0 : decode cX2_alikeFolded 0 = .ok (.aload_n 0, 1) := by decide +kernel
theorem dX2_alikeFolded_1 : decode cX2_alikeFolded 1 = .ok (.getfield 15, 3) := by decide +kernel
theorem dX2_alikeFolded_4 : decode cX2_alikeFolded 4 = .ok (.aload_n 1, 1) := by decide +kernel
theorem dX2_alikeFolded_5 : decode cX2_alikeFolded 5 = .ok (.getfield 15, 3) := by decide +kernel
theorem dX2_alikeFolded_8 : decode cX2_alikeFolded 8 = .ok (.if_icmp .eq 5, 3) := by decide +kernel
theorem dX2_alikeFolded_11 : decode cX2_alikeFolded 11 = .ok (.iconst 0, 1) := by decide +kernel
theorem dX2_alikeFolded_12 : decode cX2_alikeFolded 12 = .ok (.ireturn, 1) := by decide +kernel
theorem dX2_alikeFolded_13 : decode cX2_alikeFolded 13 = .ok (.iconst 0, 1) := by decide +kernel
theorem dX2_alikeFolded_14 : decode cX2_alikeFolded 14 = .ok (.istore_n 2, 1) := by decide +kernel
theorem dX2_alikeFolded_15 : decode cX2_alikeFolded 15 = .ok (.iload_n 2, 1) := by decide +kernel
theorem dX2_alikeFolded_16 : decode cX2_alikeFolded 16 = .ok (.aload_n 0, 1) := by decide +kernel
theorem dX2_alikeFolded_17 : decode cX2_alikeFolded 17 = .ok (.getfield 15, 3) := by decide +kernel
theorem dX2_alikeFolded_20 : decode cX2_alikeFolded 20 = .ok (.if_icmp .ge 29, 3) := by decide +kernel
theorem dX2_alikeFolded_23 : decode cX2_alikeFolded 23 = .ok (.aload_n 0, 1) := by decide +kernel
theorem dX2_alikeFolded_24 : decode cX2_alikeFolded 24 = .ok (.getfield 20, 3) := by decide +kernel
theorem dX2_alikeFolded_27 : decode cX2_alikeFolded 27 = .ok (.iload_n 2, 1) := by decide +kernel
theorem dX2_alikeFolded_28 : decode cX2_alikeFolded 28 = .ok (.aaload, 1) := by decide +kernel
theorem dX2_alikeFolded_29 : decode cX2_alikeFolded 29 = .ok (.aload_n 1, 1) := by decide +kernel
theorem dX2_alikeFolded_30 : decode cX2_alikeFolded 30 = .ok (.getfield 20, 3) := by decide +kernel
theorem dX2_alikeFolded_33 : decode cX2_alikeFolded 33 = .ok (.iload_n 2, 1) := by decide +kernel
theorem dX2_alikeFolded_34 : decode cX2_alikeFolded 34 = .ok (.aaload, 1) := by decide +kernel
theorem dX2_alikeFolded_35 : decode cX2_alikeFolded 35 = .ok (.invokevirtual 60, 3) := by decide +kernel
theorem dX2_alikeFolded_38 : decode cX2_alikeFolded 38 = .ok (.ifCond .ne 5, 3) := by decide +kernel
theorem dX2_alikeFolded_41 : decode cX2_alikeFolded 41 = .ok (.iconst 0, 1) := by decide +kernel
theorem dX2_alikeFolded_42 : decode cX2_alikeFolded 42 = .ok (.ireturn, 1) := by decide +kernel
theorem dX2_alikeFolded_43 : decode cX2_alikeFolded 43 = .ok (.iinc 2 1, 3) := by decide +kernel
theorem dX2_alikeFolded_46 : decode cX2_alikeFolded 46 = .ok (.goto (-31), 3) := by decide +kernel
theorem dX2_alikeFolded_49 : decode cX2_alikeFolded 49 = .ok (.iconst 1, 1) := by decide +kernel
theorem dX2_alikeFolded_50 : decode cX2_alikeFolded 50 = .ok (.ireturn, 1) := by decide +kernel
theorem dX3_init_0 : decode cX3_init 0 = .ok (.aload_n 0, 1) := by decide +kernel
theorem dX3_init_1 : decode cX3_init 1 = .ok (.invokespecial 3, 3) := by decide +kernel
theorem dX3_init_4 : decode cX3_init 4 = .ok (.aload_n 0, 1) := by decide +kernel
theorem dX3_init_5 : decode cX3_init 5 = .ok (.new 9, 3) := by decide +kernel
theorem dX3_init_8 : decode cX3_init 8 = .ok (.dup, 1) := by decide +kernel
theorem dX3_init_9 : decode cX3_init 9 = .ok (.invokespecial 11, 3) := by decide +kernel
theorem dX3_init_12 : decode cX3_init 12 = .ok (.putfield 12, 3) := by decide +kernel
theorem dX3_init_15 : decode cX3_init 15 = .ok (.aload_n 0, 1) := by decide +kernel
theorem dX3_init_16 : decode cX3_init 16 = .ok (.iconst 0, 1) := by decide +kernel
theorem dX3_init_17 : decode cX3_init 17 = .ok (.putfield 18, 3) := by decide +kernel
theorem dX3_init_20 : decode cX3_init 20 = .ok (.aload_n 0, 1) := by decide +kernel
theorem dX3_init_21 : decode cX3_init 21 = .ok (.bipush 8, 2) := by decide +kernel
theorem dX3_init_23 : decode cX3_init 23 = .ok (.bipush 7, 2) := by decide +kernel
theorem dX3_init_25 : decode cX3_init 25 = .ok (.multianewarray 22 2, 4) := by decide +kernel
theorem dX3_init_29 : decode cX3_init 29 = .ok (.putfield 24, 3) := by decide +kernel
theorem dX3_init_32 : decode cX3_init 32 = .ok (.aload_n 0, 1) := by decide +kernel
theorem dX3_init_33 : decode cX3_init 33 = .ok (.bipush 8, 2) := by decide +kernel
theorem dX3_init_35 : decode cX3_init 35 = .ok (.bipush 8, 2) := by decide +kernel
theorem dX3_init_37 : decode cX3_init 37 = .ok (.multianewarray 22 2, 4) := by decide +kernel
theorem dX3_init_41 : decode cX3_init 41 = .ok (.putfield 27, 3) := by decide +kernel
theorem dX3_init_44 : decode cX3_init 44 = .ok (.aload_n 0, 1) := by decide +kernel
theorem dX3_init_45 : decode cX3_init 45 = .ok (.sipush 6435, 3) := by decide +kernel
theorem dX3_init_48 : decode cX3_init 48 = .ok (.newarray .long, 2) := by decide +kernel
theorem dX3_init_50 : decode cX3_init 50 = .ok (.putfield 30, 3) := by decide +kernel
theorem dX3_init_53 : decode cX3_init 53 = .ok (.aload_n 0, 1) := by decide +kernel
theorem dX3_init_54 : decode cX3_init 54 = .ok (.sipush 6435, 3) := by decide +kernel
theorem dX3_init_57 : decode cX3_init 57 = .ok (.newarray .long, 2) := by decide +kernel
theorem dX3_init_59 : decode cX3_init 59 = .ok (.putfield 34, 3) := by decide +kernel
theorem dX3_init_62 : decode cX3_init 62 = .ok (.aload_n 0, 1) := by decide +kernel
theorem dX3_init_63 : decode cX3_init 63 = .ok (.iconst 0, 1) := by decide +kernel
theorem dX3_init_64 : decode cX3_init 64 = .ok (.putfield 37, 3) := by decide +kernel
theorem dX3_init_67 : decode cX3_init 67 = .ok (.aload_n 0, 1) := by decide +kernel
theorem dX3_init_68 : decode cX3_init 68 = .ok (.bipush 41, 2) := by decide +kernel
theorem dX3_init_70 : decode cX3_init 70 = .ok (.newarray .int, 2) := by decide +kernel
theorem dX3_init_72 : decode cX3_init 72 = .ok (.putfield 40, 3) := by decide +kernel
theorem dX3_init_75 : decode cX3_init 75 = .ok (.return_, 1) := by decide +kernel
theorem dX3_weigh_0 : decode cX3_weigh 0 = .ok (.aload_n 0, 1) := by decide +kernel
theorem dX3_weigh_1 : decode cX3_weigh 1 = .ok (.aload_n 2, 1) := by decide +kernel
theorem dX3_weigh_2 : decode cX3_weigh 2 = .ok (.putfield 12, 3) := by decide +kernel
theorem dX3_weigh_5 : decode cX3_weigh 5 = .ok (.aload_n 0, 1) := by decide +kernel
theorem dX3_weigh_6 : decode cX3_weigh 6 = .ok (.aload_n 1, 1) := by decide +kernel
theorem dX3_weigh_7 : decode cX3_weigh 7 = .ok (.getfield 44, 3) := by decide +kernel
theorem dX3_weigh_10 : decode cX3_weigh 10 = .ok (.bipush 8, 2) := by decide +kernel
theorem dX3_weigh_12 : decode cX3_weigh 12 = .ok (.invokestatic 47, 3) := by decide +kernel
theorem dX3_weigh_15 : decode cX3_weigh 15 = .ok (.putfield 18, 3) := by decide +kernel
theorem dX3_weigh_18 : decode cX3_weigh 18 = .ok (.iconst 0, 1) := by decide +kernel
theorem dX3_weigh_19 : decode cX3_weigh 19 = .ok (.istore 4, 2) := by decide +kernel
theorem dX3_weigh_21 : decode cX3_weigh 21 = .ok (.iload 4, 2) := by decide +kernel
theorem dX3_weigh_23 : decode cX3_weigh 23 = .ok (.aload_n 0, 1) := by decide +kernel
theorem dX3_weigh_24 : decode cX3_weigh 24 = .ok (.getfield 18, 3) := by decide +kernel
theorem dX3_weigh_27 : decode cX3_weigh 27 = .ok (.if_icmp .ge 32, 3) := by decide +kernel
theorem dX3_weigh_30 : decode cX3_weigh 30 = .ok (.aload_n 0, 1) := by decide +kernel
theorem dX3_weigh_31 : decode cX3_weigh 31 = .ok (.aload_n 1, 1) := by decide +kernel
theorem dX3_weigh_32 : decode cX3_weigh 32 = .ok (.getfield 53, 3) := by decide +kernel
theorem dX3_weigh_35 : decode cX3_weigh 35 = .ok (.iload 4, 2) := by decide +kernel
theorem dX3_weigh_37 : decode cX3_weigh 37 = .ok (.aaload, 1) := by decide +kernel
theorem dX3_weigh_38 : decode cX3_weigh 38 = .ok (.aload_n 1, 1) := by decide +kernel
theorem dX3_weigh_39 : decode cX3_weigh 39 = .ok (.getfield 57, 3) := by decide +kernel
theorem dX3_weigh_42 : decode cX3_weigh 42 = .ok (.aload_n 3, 1) := by decide +kernel
theorem dX3_weigh_43 : decode cX3_weigh 43 = .ok (.aload_n 0, 1) := by decide +kernel
theorem dX3_weigh_44 : decode cX3_weigh 44 = .ok (.getfield 24, 3) := by decide +kernel
theorem dX3_weigh_47 : decode cX3_weigh 47 = .ok (.iload 4, 2) := by decide +kernel
theorem dX3_weigh_49 : decode cX3_weigh 49 = .ok (.aaload, 1) := by decide +kernel
theorem dX3_weigh_50 : decode cX3_weigh 50 = .ok (.invokevirtual 60, 3) := by decide +kernel
theorem dX3_weigh_53 : decode cX3_weigh 53 = .ok (.iinc 4 1, 3) := by decide +kernel
theorem dX3_weigh_56 : decode cX3_weigh 56 = .ok (.goto (-35), 3) := by decide +kernel
theorem dX3_weigh_59 : decode cX3_weigh 59 = .ok (.aload_n 0, 1) := by decide +kernel
theorem dX3_weigh_60 : decode cX3_weigh 60 = .ok (.getfield 18, 3) := by decide +kernel
theorem dX3_weigh_63 : decode cX3_weigh 63 = .ok (.iconst 1, 1) := by decide +kernel
theorem dX3_weigh_64 : decode cX3_weigh 64 = .ok (.isub, 1) := by decide +kernel
theorem dX3_weigh_65 : decode cX3_weigh 65 = .ok (.istore 4, 2) := by decide +kernel
theorem dX3_weigh_67 : decode cX3_weigh 67 = .ok (.iload 4, 2) := by decide +kernel
theorem dX3_weigh_69 : decode cX3_weigh 69 = .ok (.ifCond .lt 87, 3) := by decide +kernel
theorem dX3_weigh_72 : decode cX3_weigh 72 = .ok (.iconst 0, 1) := by decide +kernel
theorem dX3_weigh_73 : decode cX3_weigh 73 = .ok (.istore 5, 2) := by decide +kernel
theorem dX3_weigh_75 : decode cX3_weigh 75 = .ok (.iload 5, 2) := by decide +kernel
theorem dX3_weigh_77 : decode cX3_weigh 77 = .ok (.aload_n 0, 1) := by decide +kernel
theorem dX3_weigh_78 : decode cX3_weigh 78 = .ok (.getfield 12, 3) := by decide +kernel
theorem dX3_weigh_81 : decode cX3_weigh 81 = .ok (.getfield 64, 3) := by decide +kernel
theorem dX3_weigh_84 : decode cX3_weigh 84 = .ok (.if_icmp .ge 66, 3) := by decide +kernel
theorem dX3_weigh_87 : decode cX3_weigh 87 = .ok (.aload_n 0, 1) := by decide +kernel
theorem dX3_weigh_88 : decode cX3_weigh 88 = .ok (.getfield 24, 3) := by decide +kernel
theorem dX3_weigh_91 : decode cX3_weigh 91 = .ok (.iload 4, 2) := by decide +kernel
theorem dX3_weigh_93 : decode cX3_weigh 93 = .ok (.aaload, 1) := by decide +kernel
theorem dX3_weigh_94 : decode cX3_weigh 94 = .ok (.aload_n 0, 1) := by decide +kernel
theorem dX3_weigh_95 : decode cX3_weigh 95 = .ok (.getfield 12, 3) := by decide +kernel
theorem dX3_weigh_98 : decode cX3_weigh 98 = .ok (.getfield 67, 3) := by decide +kernel
theorem dX3_weigh_101 : decode cX3_weigh 101 = .ok (.iload 5, 2) := by decide +kernel
theorem dX3_weigh_103 : decode cX3_weigh 103 = .ok (.iaload, 1) := by decide +kernel
theorem dX3_weigh_104 : decode cX3_weigh 104 = .ok (.iaload, 1) := by decide +kernel
theorem dX3_weigh_105 : decode cX3_weigh 105 = .ok (.aload_n 0, 1) := by decide +kernel
theorem dX3_weigh_106 : decode cX3_weigh 106 = .ok (.iload 4, 2) := by decide +kernel
theorem dX3_weigh_108 : decode cX3_weigh 108 = .ok (.iconst 1, 1) := by decide +kernel
theorem dX3_weigh_109 : decode cX3_weigh 109 = .ok (.iadd, 1) := by decide +kernel
theorem dX3_weigh_110 : decode cX3_weigh 110 = .ok (.aload_n 0, 1) := by decide +kernel
theorem dX3_weigh_111 : decode cX3_weigh 111 = .ok (.getfield 12, 3) := by decide +kernel
theorem dX3_weigh_114 : decode cX3_weigh 114 = .ok (.getfield 70, 3) := by decide +kernel
theorem dX3_weigh_117 : decode cX3_weigh 117 = .ok (.iload 5, 2) := by decide +kernel
theorem dX3_weigh_119 : decode cX3_weigh 119 = .ok (.iaload, 1) := by decide +kernel
theorem dX3_weigh_120 : decode cX3_weigh 120 = .ok (.invokevirtual 73, 3) := by decide +kernel
theorem dX3_weigh_123 : decode cX3_weigh 123 = .ok (.iadd, 1) := by decide +kernel
theorem dX3_weigh_124 : decode cX3_weigh 124 = .ok (.istore 6, 2) := by decide +kernel
theorem dX3_weigh_126 : decode cX3_weigh 126 = .ok (.aload_n 0, 1) := by decide +kernel
theorem dX3_weigh_127 : decode cX3_weigh 127 = .ok (.getfield 27, 3) := by decide +kernel
theorem dX3_weigh_130 : decode cX3_weigh 130 = .ok (.iload 4, 2) := by decide +kernel
theorem dX3_weigh_132 : decode cX3_weigh 132 = .ok (.aaload, 1) := by decide +kernel
theorem dX3_weigh_133 : decode cX3_weigh 133 = .ok (.iload 5, 2) := by decide +kernel
theorem dX3_weigh_135 : decode cX3_weigh 135 = .ok (.iload 6, 2) := by decide +kernel
theorem dX3_weigh_137 : decode cX3_weigh 137 = .ok (.sipush 1000, 3) := by decide +kernel
theorem dX3_weigh_140 : decode cX3_weigh 140 = .ok (.invokestatic 47, 3) := by decide +kernel
theorem dX3_weigh_143 : decode cX3_weigh 143 = .ok (.iastore, 1) := by decide +kernel
theorem dX3_weigh_144 : decode cX3_weigh 144 = .ok (.iinc 5 1, 3) := by decide +kernel
theorem dX3_weigh_147 : decode cX3_weigh 147 = .ok (.goto (-72), 3) := by decide +kernel
theorem dX3_weigh_150 : decode cX3_weigh 150 = .ok (.iinc 4 (-1), 3) := by decide +kernel
theorem dX3_weigh_153 : decode cX3_weigh 153 = .ok (.goto (-86), 3) := by decide +kernel
theorem dX3_weigh_156 : decode cX3_weigh 156 = .ok (.return_, 1) := by decide +kernel
theorem dX3_weighWord_0 : decode cX3_weighWord 0 = .ok (.aload_n 3, 1) := by decide +kernel
theorem dX3_weighWord_1 : decode cX3_weighWord 1 = .ok (.iload_n 2, 1) := by decide +kernel
theorem dX3_weighWord_2 : decode cX3_weighWord 2 = .ok (.aload_n 1, 1) := by decide +kernel
theorem dX3_weighWord_3 : decode cX3_weighWord 3 = .ok (.aload_n 1, 1) := by decide +kernel
theorem dX3_weighWord_4 : decode cX3_weighWord 4 = .ok (.getfield 76, 3) := by decide +kernel
theorem dX3_weighWord_7 : decode cX3_weighWord 7 = .ok (.invokevirtual 81, 3) := by decide +kernel
theorem dX3_weighWord_10 : decode cX3_weighWord 10 = .ok (.istore 5, 2) := by decide +kernel
theorem dX3_weighWord_12 : decode cX3_weighWord 12 = .ok (.iload 5, 2) := by decide +kernel
theorem dX3_weighWord_14 : decode cX3_weighWord 14 = .ok (.bipush 13, 2) := by decide +kernel
theorem dX3_weighWord_16 : decode cX3_weighWord 16 = .ok (.iand, 1) := by decide +kernel
theorem dX3_weighWord_17 : decode cX3_weighWord 17 = .ok (.ifCond .eq 7, 3) := by decide +kernel
theorem dX3_weighWord_20 : decode cX3_weighWord 20 = .ok (.iconst 1, 1) := by decide +kernel
theorem dX3_weighWord_21 : decode cX3_weighWord 21 = .ok (.goto 4, 3) := by decide +kernel
theorem dX3_weighWord_24 : decode cX3_weighWord 24 = .ok (.iconst 0, 1) := by decide +kernel
theorem dX3_weighWord_25 : decode cX3_weighWord 25 = .ok (.istore 6, 2) := by decide +kernel
theorem dX3_weighWord_27 : decode cX3_weighWord 27 = .ok (.iconst 0, 1) := by decide +kernel
theorem dX3_weighWord_28 : decode cX3_weighWord 28 = .ok (.istore 7, 2) := by decide +kernel
theorem dX3_weighWord_30 : decode cX3_weighWord 30 = .ok (.iload 7, 2) := by decide +kernel
theorem dX3_weighWord_32 : decode cX3_weighWord 32 = .ok (.iconst 4, 1) := by decide +kernel
theorem dX3_weighWord_33 : decode cX3_weighWord 33 = .ok (.if_icmp .gt 66, 3) := by decide +kernel
theorem dX3_weighWord_36 : decode cX3_weighWord 36 = .ok (.iload 5, 2) := by decide +kernel
theorem dX3_weighWord_38 : decode cX3_weighWord 38 = .ok (.iload 7, 2) := by decide +kernel
theorem dX3_weighWord_40 : decode cX3_weighWord 40 = .ok (.ishr, 1) := by decide +kernel
theorem dX3_weighWord_41 : decode cX3_weighWord 41 = .ok (.iconst 1, 1) := by decide +kernel
theorem dX3_weighWord_42 : decode cX3_weighWord 42 = .ok (.iand, 1) := by decide +kernel
theorem dX3_weighWord_43 : decode cX3_weighWord 43 = .ok (.ifCond .eq 12, 3) := by decide +kernel
theorem dX3_weighWord_46 : decode cX3_weighWord 46 = .ok (.aload 4, 2) := by decide +kernel
theorem dX3_weighWord_48 : decode cX3_weighWord 48 = .ok (.iload 7, 2) := by decide +kernel
theorem dX3_weighWord_50 : decode cX3_weighWord 50 = .ok (.iconst 0, 1) := by decide +kernel
theorem dX3_weighWord_51 : decode cX3_weighWord 51 = .ok (.iastore, 1) := by decide +kernel
theorem dX3_weighWord_52 : decode cX3_weighWord 52 = .ok (.goto 41, 3) := by decide +kernel
theorem dX3_weighWord_55 : decode cX3_weighWord 55 = .ok (.iload 7, 2) := by decide +kernel
theorem dX3_weighWord_57 : decode cX3_weighWord 57 = .ok (.iconst 1, 1) := by decide +kernel
theorem dX3_weighWord_58 : decode cX3_weighWord 58 = .ok (.if_icmp .eq 9, 3) := by decide +kernel
theorem dX3_weighWord_61 : decode cX3_weighWord 61 = .ok (.iload 7, 2) := by decide +kernel
theorem dX3_weighWord_63 : decode cX3_weighWord 63 = .ok (.iconst 4, 1) := by decide +kernel
theorem dX3_weighWord_64 : decode cX3_weighWord 64 = .ok (.if_icmp .ne 21, 3) := by decide +kernel
theorem dX3_weighWord_67 : decode cX3_weighWord 67 = .ok (.aload 4, 2) := by decide +kernel
theorem dX3_weighWord_69 : decode cX3_weighWord 69 = .ok (.iload 7, 2) := by decide +kernel
theorem dX3_weighWord_71 : decode cX3_weighWord 71 = .ok (.iload 6, 2) := by decide +kernel
theorem dX3_weighWord_73 : decode cX3_weighWord 73 = .ok (.ifCond .eq 7, 3) := by decide +kernel
theorem dX3_weighWord_76 : decode cX3_weighWord 76 = .ok (.iconst 5, 1) := by decide +kernel
theorem dX3_weighWord_77 : decode cX3_weighWord 77 = .ok (.goto 4, 3) := by decide +kernel
theorem dX3_weighWord_80 : decode cX3_weighWord 80 = .ok (.iconst 2, 1) := by decide +kernel
theorem dX3_weighWord_81 : decode cX3_weighWord 81 = .ok (.iastore, 1) := by decide +kernel
theorem dX3_weighWord_82 : decode cX3_weighWord 82 = .ok (.goto 11, 3) := by decide +kernel
theorem dX3_weighWord_85 : decode cX3_weighWord 85 = .ok (.aload 4, 2) := by decide +kernel
theorem dX3_weighWord_87 : decode cX3_weighWord 87 = .ok (.iload 7, 2) := by decide +kernel
theorem dX3_weighWord_89 : decode cX3_weighWord 89 = .ok (.sipush 1000, 3) := by decide +kernel
theorem dX3_weighWord_92 : decode cX3_weighWord 92 = .ok (.iastore, 1) := by decide +kernel
theorem dX3_weighWord_93 : decode cX3_weighWord 93 = .ok (.iinc 7 1, 3) := by decide +kernel
theorem dX3_weighWord_96 : decode cX3_weighWord 96 = .ok (.goto (-66), 3) := by decide +kernel
theorem dX3_weighWord_99 : decode cX3_weighWord 99 = .ok (.aload 4, 2) := by decide +kernel
theorem dX3_weighWord_101 : decode cX3_weighWord 101 = .ok (.iconst 5, 1) := by decide +kernel
theorem dX3_weighWord_102 : decode cX3_weighWord 102 = .ok (.sipush 1000, 3) := by decide +kernel
theorem dX3_weighWord_105 : decode cX3_weighWord 105 = .ok (.iastore, 1) := by decide +kernel
theorem dX3_weighWord_106 : decode cX3_weighWord 106 = .ok (.aload_n 0, 1) := by decide +kernel
theorem dX3_weighWord_107 : decode cX3_weighWord 107 = .ok (.getfield 12, 3) := by decide +kernel
theorem dX3_weighWord_110 : decode cX3_weighWord 110 = .ok (.aload_n 1, 1) := by decide +kernel
theorem dX3_weighWord_111 : decode cX3_weighWord 111 = .ok (.invokevirtual 87, 3) := by decide +kernel
theorem dX3_weighWord_114 : decode cX3_weighWord 114 = .ok (.ifCond .eq 41, 3) := by decide +kernel
theorem dX3_weighWord_117 : decode cX3_weighWord 117 = .ok (.aload_n 3, 1) := by decide +kernel
theorem dX3_weighWord_118 : decode cX3_weighWord 118 = .ok (.iload_n 2, 1) := by decide +kernel
theorem dX3_weighWord_119 : decode cX3_weighWord 119 = .ok (.aload_n 1, 1) := by decide +kernel
theorem dX3_weighWord_120 : decode cX3_weighWord 120 = .ok (.aload_n 1, 1) := by decide +kernel
theorem dX3_weighWord_121 : decode cX3_weighWord 121 = .ok (.getfield 76, 3) := by decide +kernel
theorem dX3_weighWord_124 : decode cX3_weighWord 124 = .ok (.aload_n 0, 1) := by decide +kernel
theorem dX3_weighWord_125 : decode cX3_weighWord 125 = .ok (.getfield 12, 3) := by decide +kernel
theorem dX3_weighWord_128 : decode cX3_weighWord 128 = .ok (.getfield 91, 3) := by decide +kernel
theorem dX3_weighWord_131 : decode cX3_weighWord 131 = .ok (.isub, 1) := by decide +kernel
theorem dX3_weighWord_132 : decode cX3_weighWord 132 = .ok (.invokevirtual 81, 3) := by decide +kernel
theorem dX3_weighWord_135 : decode cX3_weighWord 135 = .ok (.istore 7, 2) := by decide +kernel
theorem dX3_weighWord_137 : decode cX3_weighWord 137 = .ok (.aload 4, 2) := by decide +kernel
theorem dX3_weighWord_139 : decode cX3_weighWord 139 = .ok (.iconst 5, 1) := by decide +kernel
theorem dX3_weighWord_140 : decode cX3_weighWord 140 = .ok (.iload 7, 2) := by decide +kernel
theorem dX3_weighWord_142 : decode cX3_weighWord 142 = .ok (.iconst 1, 1) := by decide +kernel
theorem dX3_weighWord_143 : decode cX3_weighWord 143 = .ok (.ishr, 1) := by decide +kernel
theorem dX3_weighWord_144 : decode cX3_weighWord 144 = .ok (.iconst 1, 1) := by decide +kernel
theorem dX3_weighWord_145 : decode cX3_weighWord 145 = .ok (.iand, 1) := by decide +kernel
theorem dX3_weighWord_146 : decode cX3_weighWord 146 = .ok (.ifCond .eq 7, 3) := by decide +kernel
theorem dX3_weighWord_149 : decode cX3_weighWord 149 = .ok (.iconst 0, 1) := by decide +kernel
theorem dX3_weighWord_150 : decode cX3_weighWord 150 = .ok (.goto 4, 3) := by decide +kernel
theorem dX3_weighWord_153 : decode cX3_weighWord 153 = .ok (.iconst 3, 1) := by decide +kernel
theorem dX3_weighWord_154 : decode cX3_weighWord 154 = .ok (.iastore, 1) := by decide +kernel
theorem dX3_weighWord_155 : decode cX3_weighWord 155 = .ok (.aload 4, 2) := by decide +kernel
theorem dX3_weighWord_157 : decode cX3_weighWord 157 = .ok (.bipush 6, 2) := by decide +kernel
theorem dX3_weighWord_159 : decode cX3_weighWord 159 = .ok (.aload_n 1, 1) := by decide +kernel
theorem dX3_weighWord_160 : decode cX3_weighWord 160 = .ok (.getfield 76, 3) := by decide +kernel
theorem dX3_weighWord_163 : decode cX3_weighWord 163 = .ok (.iconst 1, 1) := by decide +kernel
theorem dX3_weighWord_164 : decode cX3_weighWord 164 = .ok (.if_icmp .ne 7, 3) := by decide +kernel
theorem dX3_weighWord_167 : decode cX3_weighWord 167 = .ok (.iconst 0, 1) := by decide +kernel
theorem dX3_weighWord_168 : decode cX3_weighWord 168 = .ok (.goto 6, 3) := by decide +kernel
theorem dX3_weighWord_171 : decode cX3_weighWord 171 = .ok (.sipush 1000, 3) := by decide +kernel
theorem dX3_weighWord_174 : decode cX3_weighWord 174 = .ok (.iastore, 1) := by decide +kernel
theorem dX3_weighWord_175 : decode cX3_weighWord 175 = .ok (.return_, 1) := by decide +kernel
theorem dX3_leastFrom_0 : decode cX3_leastFrom 0 = .ok (.iload_n 1, 1) := by decide +kernel
theorem dX3_leastFrom_1 : decode cX3_leastFrom 1 = .ok (.aload_n 0, 1) := by decide +kernel
theorem dX3_leastFrom_2 : decode cX3_leastFrom 2 = .ok (.getfield 18, 3) := by decide +kernel
theorem dX3_leastFrom_5 : decode cX3_leastFrom 5 = .ok (.if_icmp .lt 19, 3) := by decide +kernel
theorem dX3_leastFrom_8 : decode cX3_leastFrom 8 = .ok (.iload_n 2, 1) := by decide +kernel
theorem dX3_leastFrom_9 : decode cX3_leastFrom 9 = .ok (.sipush 256, 3) := by decide +kernel
theorem dX3_leastFrom_12 : decode cX3_leastFrom 12 = .ok (.iand, 1) := by decide +kernel
theorem dX3_leastFrom_13 : decode cX3_leastFrom 13 = .ok (.ifCond .eq 7, 3) := by decide +kernel
theorem dX3_leastFrom_16 : decode cX3_leastFrom 16 = .ok (.iconst 0, 1) := by decide +kernel
theorem dX3_leastFrom_17 : decode cX3_leastFrom 17 = .ok (.goto 6, 3) := by decide +kernel
theorem dX3_leastFrom_20 : decode cX3_leastFrom 20 = .ok (.sipush 1000, 3) := by decide +kernel
theorem dX3_leastFrom_23 : decode cX3_leastFrom 23 = .ok (.ireturn, 1) := by decide +kernel
theorem dX3_leastFrom_24 : decode cX3_leastFrom 24 = .ok (.sipush 1000, 3) := by decide +kernel
theorem dX3_leastFrom_27 : decode cX3_leastFrom 27 = .ok (.istore_n 3, 1) := by decide +kernel
theorem dX3_leastFrom_28 : decode cX3_leastFrom 28 = .ok (.iconst 0, 1) := by decide +kernel
theorem dX3_leastFrom_29 : decode cX3_leastFrom 29 = .ok (.istore 4, 2) := by decide +kernel
theorem dX3_leastFrom_31 : decode cX3_leastFrom 31 = .ok (.iload 4, 2) := by decide +kernel
theorem dX3_leastFrom_33 : decode cX3_leastFrom 33 = .ok (.bipush 8, 2) := by decide +kernel
theorem dX3_leastFrom_35 : decode cX3_leastFrom 35 = .ok (.if_icmp .ge 32, 3) := by decide +kernel
theorem dX3_leastFrom_38 : decode cX3_leastFrom 38 = .ok (.iload_n 2, 1) := by decide +kernel
theorem dX3_leastFrom_39 : decode cX3_leastFrom 39 = .ok (.iload 4, 2) := by decide +kernel
theorem dX3_leastFrom_41 : decode cX3_leastFrom 41 = .ok (.ishr, 1) := by decide +kernel
theorem dX3_leastFrom_42 : decode cX3_leastFrom 42 = .ok (.iconst 1, 1) := by decide +kernel
theorem dX3_leastFrom_43 : decode cX3_leastFrom 43 = .ok (.iand, 1) := by decide +kernel
theorem dX3_leastFrom_44 : decode cX3_leastFrom 44 = .ok (.ifCond .eq 17, 3) := by decide +kernel
theorem dX3_leastFrom_47 : decode cX3_leastFrom 47 = .ok (.iload_n 3, 1) := by decide +kernel
theorem dX3_leastFrom_48 : decode cX3_leastFrom 48 = .ok (.aload_n 0, 1) := by decide +kernel
theorem dX3_leastFrom_49 : decode cX3_leastFrom 49 = .ok (.getfield 27, 3) := by decide +kernel
theorem dX3_leastFrom_52 : decode cX3_leastFrom 52 = .ok (.iload_n 1, 1) := by decide +kernel
theorem dX3_leastFrom_53 : decode cX3_leastFrom 53 = .ok (.aaload, 1) := by decide +kernel
theorem dX3_leastFrom_54 : decode cX3_leastFrom 54 = .ok (.iload 4, 2) := by decide +kernel
theorem dX3_leastFrom_56 : decode cX3_leastFrom 56 = .ok (.iaload, 1) := by decide +kernel
theorem dX3_leastFrom_57 : decode cX3_leastFrom 57 = .ok (.invokestatic 47, 3) := by decide +kernel
theorem dX3_leastFrom_60 : decode cX3_leastFrom 60 = .ok (.istore_n 3, 1) := by decide +kernel
theorem dX3_leastFrom_61 : decode cX3_leastFrom 61 = .ok (.iinc 4 1, 3) := by decide +kernel
theorem dX3_leastFrom_64 : decode cX3_leastFrom 64 = .ok (.goto (-33), 3) := by decide +kernel
theorem dX3_leastFrom_67 : decode cX3_leastFrom 67 = .ok (.iload_n 3, 1) := by decide +kernel
theorem dX3_leastFrom_68 : decode cX3_leastFrom 68 = .ok (.ireturn, 1) := by decide +kernel
theorem dX3_readFirst_0 : decode cX3_readFirst 0 = .ok (.aload_n 0, 1) := by decide +kernel
theorem dX3_readFirst_1 : decode cX3_readFirst 1 = .ok (.getfield 12, 3) := by decide +kernel
theorem dX3_readFirst_4 : decode cX3_readFirst 4 = .ok (.getfield 94, 3) := by decide +kernel
theorem dX3_readFirst_7 : decode cX3_readFirst 7 = .ok (.istore_n 2, 1) := by decide +kernel
theorem dX3_readFirst_8 : decode cX3_readFirst 8 = .ok (.aload_n 0, 1) := by decide +kernel
theorem dX3_readFirst_9 : decode cX3_readFirst 9 = .ok (.iconst 0, 1) := by decide +kernel
theorem dX3_readFirst_10 : decode cX3_readFirst 10 = .ok (.iload_n 2, 1) := by decide +kernel
theorem dX3_readFirst_11 : decode cX3_readFirst 11 = .ok (.invokevirtual 73, 3) := by decide +kernel
theorem dX3_readFirst_14 : decode cX3_readFirst 14 = .ok (.istore_n 3, 1) := by decide +kernel
theorem dX3_readFirst_15 : decode cX3_readFirst 15 = .ok (.iload_n 3, 1) := by decide +kernel
theorem dX3_readFirst_16 : decode cX3_readFirst 16 = .ok (.sipush 1000, 3) := by decide +kernel
theorem dX3_readFirst_19 : decode cX3_readFirst 19 = .ok (.if_icmp .lt 5, 3) := by decide +kernel
theorem dX3_readFirst_22 : decode cX3_readFirst 22 = .ok (.iconst 0, 1) := by decide +kernel
theorem dX3_readFirst_23 : decode cX3_readFirst 23 = .ok (.ireturn, 1) := by decide +kernel
theorem dX3_readFirst_24 : decode cX3_readFirst 24 = .ok (.iconst 0, 1) := by decide +kernel
theorem dX3_readFirst_25 : decode cX3_readFirst 25 = .ok (.istore 4, 2) := by decide +kernel
theorem dX3_readFirst_27 : decode cX3_readFirst 27 = .ok (.iload 4, 2) := by decide +kernel
theorem dX3_readFirst_29 : decode cX3_readFirst 29 = .ok (.aload_n 0, 1) := by decide +kernel
theorem dX3_readFirst_30 : decode cX3_readFirst 30 = .ok (.getfield 18, 3) := by decide +kernel
theorem dX3_readFirst_33 : decode cX3_readFirst 33 = .ok (.if_icmp .ge 94, 3) := by decide +kernel
theorem dX3_readFirst_36 : decode cX3_readFirst 36 = .ok (.iload 4, 2) := by decide +kernel
theorem dX3_readFirst_38 : decode cX3_readFirst 38 = .ok (.aload_n 1, 1) := by decide +kernel
theorem dX3_readFirst_39 : decode cX3_readFirst 39 = .ok (.arraylength, 1) := by decide +kernel
theorem dX3_readFirst_40 : decode cX3_readFirst 40 = .ok (.if_icmp .ge 87, 3) := by decide +kernel
theorem dX3_readFirst_43 : decode cX3_readFirst 43 = .ok (.iconst 0, 1) := by decide +kernel
theorem dX3_readFirst_44 : decode cX3_readFirst 44 = .ok (.istore 5, 2) := by decide +kernel
theorem dX3_readFirst_46 : decode cX3_readFirst 46 = .ok (.iload 5, 2) := by decide +kernel
theorem dX3_readFirst_48 : decode cX3_readFirst 48 = .ok (.bipush 7, 2) := by decide +kernel
theorem dX3_readFirst_50 : decode cX3_readFirst 50 = .ok (.if_icmp .ge 71, 3) := by decide +kernel
theorem dX3_readFirst_53 : decode cX3_readFirst 53 = .ok (.aload_n 0, 1) := by decide +kernel
theorem dX3_readFirst_54 : decode cX3_readFirst 54 = .ok (.getfield 12, 3) := by decide +kernel
theorem dX3_readFirst_57 : decode cX3_readFirst 57 = .ok (.iload_n 2, 1) := by decide +kernel
theorem dX3_readFirst_58 : decode cX3_readFirst 58 = .ok (.iload 5, 2) := by decide +kernel
theorem dX3_readFirst_60 : decode cX3_readFirst 60 = .ok (.invokevirtual 97, 3) := by decide +kernel
theorem dX3_readFirst_63 : decode cX3_readFirst 63 = .ok (.istore 6, 2) := by decide +kernel
theorem dX3_readFirst_65 : decode cX3_readFirst 65 = .ok (.aload_n 0, 1) := by decide +kernel
theorem dX3_readFirst_66 : decode cX3_readFirst 66 = .ok (.getfield 24, 3) := by decide +kernel
theorem dX3_readFirst_69 : decode cX3_readFirst 69 = .ok (.iload 4, 2) := by decide +kernel
theorem dX3_readFirst_71 : decode cX3_readFirst 71 = .ok (.aaload, 1) := by decide +kernel
theorem dX3_readFirst_72 : decode cX3_readFirst 72 = .ok (.iload 5, 2) := by decide +kernel
theorem dX3_readFirst_74 : decode cX3_readFirst 74 = .ok (.iaload, 1) := by decide +kernel
theorem dX3_readFirst_75 : decode cX3_readFirst 75 = .ok (.aload_n 0, 1) := by decide +kernel
theorem dX3_readFirst_76 : decode cX3_readFirst 76 = .ok (.iload 4, 2) := by decide +kernel
theorem dX3_readFirst_78 : decode cX3_readFirst 78 = .ok (.iconst 1, 1) := by decide +kernel
theorem dX3_readFirst_79 : decode cX3_readFirst 79 = .ok (.iadd, 1) := by decide +kernel
theorem dX3_readFirst_80 : decode cX3_readFirst 80 = .ok (.iload 6, 2) := by decide +kernel
theorem dX3_readFirst_82 : decode cX3_readFirst 82 = .ok (.invokevirtual 73, 3) := by decide +kernel
theorem dX3_readFirst_85 : decode cX3_readFirst 85 = .ok (.iadd, 1) := by decide +kernel
theorem dX3_readFirst_86 : decode cX3_readFirst 86 = .ok (.iload_n 3, 1) := by decide +kernel
theorem dX3_readFirst_87 : decode cX3_readFirst 87 = .ok (.if_icmp .ne 28, 3) := by decide +kernel
theorem dX3_readFirst_90 : decode cX3_readFirst 90 = .ok (.aload_n 1, 1) := by decide +kernel
theorem dX3_readFirst_91 : decode cX3_readFirst 91 = .ok (.iload 4, 2) := by decide +kernel
theorem dX3_readFirst_93 : decode cX3_readFirst 93 = .ok (.iload 5, 2) := by decide +kernel
theorem dX3_readFirst_95 : decode cX3_readFirst 95 = .ok (.iastore, 1) := by decide +kernel
theorem dX3_readFirst_96 : decode cX3_readFirst 96 = .ok (.iload_n 3, 1) := by decide +kernel
theorem dX3_readFirst_97 : decode cX3_readFirst 97 = .ok (.aload_n 0, 1) := by decide +kernel
theorem dX3_readFirst_98 : decode cX3_readFirst 98 = .ok (.getfield 24, 3) := by decide +kernel
theorem dX3_readFirst_101 : decode cX3_readFirst 101 = .ok (.iload 4, 2) := by decide +kernel
theorem dX3_readFirst_103 : decode cX3_readFirst 103 = .ok (.aaload, 1) := by decide +kernel
theorem dX3_readFirst_104 : decode cX3_readFirst 104 = .ok (.iload 5, 2) := by decide +kernel
theorem dX3_readFirst_106 : decode cX3_readFirst 106 = .ok (.iaload, 1) := by decide +kernel
theorem dX3_readFirst_107 : decode cX3_readFirst 107 = .ok (.isub, 1) := by decide +kernel
theorem dX3_readFirst_108 : decode cX3_readFirst 108 = .ok (.istore_n 3, 1) := by decide +kernel
theorem dX3_readFirst_109 : decode cX3_readFirst 109 = .ok (.iload 6, 2) := by decide +kernel
theorem dX3_readFirst_111 : decode cX3_readFirst 111 = .ok (.istore_n 2, 1) := by decide +kernel
theorem dX3_readFirst_112 : decode cX3_readFirst 112 = .ok (.goto 9, 3) := by decide +kernel
theorem dX3_readFirst_115 : decode cX3_readFirst 115 = .ok (.iinc 5 1, 3) := by decide +kernel
theorem dX3_readFirst_118 : decode cX3_readFirst 118 = .ok (.goto (-72), 3) := by decide +kernel
theorem dX3_readFirst_121 : decode cX3_readFirst 121 = .ok (.iinc 4 1, 3) := by decide +kernel
theorem dX3_readFirst_124 : decode cX3_readFirst 124 = .ok (.goto (-97), 3) := by decide +kernel
theorem dX3_readFirst_127 : decode cX3_readFirst 127 = .ok (.iconst 1, 1) := by decide +kernel
theorem dX3_readFirst_128 : decode cX3_readFirst 128 = .ok (.ireturn, 1) := by decide +kernel
theorem dX3_listRows_0 : decode cX3_listRows 0 = .ok (.aload_n 0, 1) := by decide +kernel
theorem dX3_listRows_1 : decode cX3_listRows 1 = .ok (.iconst 0, 1) := by decide +kernel
theorem dX3_listRows_2 : decode cX3_listRows 2 = .ok (.putfield 37, 3) := by decide +kernel
theorem dX3_listRows_5 : decode cX3_listRows 5 = .ok (.aload_n 0, 1) := by decide +kernel
theorem dX3_listRows_6 : decode cX3_listRows 6 = .ok (.iconst 0, 1) := by decide +kernel
theorem dX3_listRows_7 : decode cX3_listRows 7 = .ok (.aload_n 0, 1) := by decide +kernel
theorem dX3_listRows_8 : decode cX3_listRows 8 = .ok (.getfield 12, 3) := by decide +kernel
theorem dX3_listRows_11 : decode cX3_listRows 11 = .ok (.getfield 94, 3) := by decide +kernel
theorem dX3_listRows_14 : decode cX3_listRows 14 = .ok (.invokevirtual 73, 3) := by decide +kernel
theorem dX3_listRows_17 : decode cX3_listRows 17 = .ok (.sipush 1000, 3) := by decide +kernel
theorem dX3_listRows_20 : decode cX3_listRows 20 = .ok (.if_icmp .ge 22, 3) := by decide +kernel
theorem dX3_listRows_23 : decode cX3_listRows 23 = .ok (.aload_n 0, 1) := by decide +kernel
theorem dX3_listRows_24 : decode cX3_listRows 24 = .ok (.getfield 30, 3) := by decide +kernel
theorem dX3_listRows_27 : decode cX3_listRows 27 = .ok (.iconst 0, 1) := by decide +kernel
theorem dX3_listRows_28 : decode cX3_listRows 28 = .ok (.aload_n 0, 1) := by decide +kernel
theorem dX3_listRows_29 : decode cX3_listRows 29 = .ok (.getfield 12, 3) := by decide +kernel
theorem dX3_listRows_32 : decode cX3_listRows 32 = .ok (.getfield 94, 3) := by decide +kernel
theorem dX3_listRows_35 : decode cX3_listRows 35 = .ok (.i2l, 1) := by decide +kernel
theorem dX3_listRows_36 : decode cX3_listRows 36 = .ok (.lastore, 1) := by decide +kernel
theorem dX3_listRows_37 : decode cX3_listRows 37 = .ok (.aload_n 0, 1) := by decide +kernel
theorem dX3_listRows_38 : decode cX3_listRows 38 = .ok (.iconst 1, 1) := by decide +kernel
theorem dX3_listRows_39 : decode cX3_listRows 39 = .ok (.putfield 37, 3) := by decide +kernel
theorem dX3_listRows_42 : decode cX3_listRows 42 = .ok (.iconst 0, 1) := by decide +kernel
theorem dX3_listRows_43 : decode cX3_listRows 43 = .ok (.istore_n 1, 1) := by decide +kernel
theorem dX3_listRows_44 : decode cX3_listRows 44 = .ok (.iload_n 1, 1) := by decide +kernel
theorem dX3_listRows_45 : decode cX3_listRows 45 = .ok (.aload_n 0, 1) := by decide +kernel
theorem dX3_listRows_46 : decode cX3_listRows 46 = .ok (.getfield 18, 3) := by decide +kernel
theorem dX3_listRows_49 : decode cX3_listRows 49 = .ok (.if_icmp .ge 14, 3) := by decide +kernel
theorem dX3_listRows_52 : decode cX3_listRows 52 = .ok (.aload_n 0, 1) := by decide +kernel
theorem dX3_listRows_53 : decode cX3_listRows 53 = .ok (.iload_n 1, 1) := by decide +kernel
theorem dX3_listRows_54 : decode cX3_listRows 54 = .ok (.invokevirtual 100, 3) := by decide +kernel
theorem dX3_listRows_57 : decode cX3_listRows 57 = .ok (.iinc 1 1, 3) := by decide +kernel
theorem dX3_listRows_60 : decode cX3_listRows 60 = .ok (.goto (-16), 3) := by decide +kernel
theorem dX3_listRows_63 : decode cX3_listRows 63 = .ok (.aload_n 0, 1) := by decide +kernel
theorem dX3_listRows_64 : decode cX3_listRows 64 = .ok (.invokevirtual 104, 3) := by decide +kernel
theorem dX3_listRows_67 : decode cX3_listRows 67 = .ok (.return_, 1) := by decide +kernel
theorem dX3_swapRows_0 : decode cX3_swapRows 0 = .ok (.aload_n 0, 1) := by decide +kernel
theorem dX3_swapRows_1 : decode cX3_swapRows 1 = .ok (.getfield 30, 3) := by decide +kernel
theorem dX3_swapRows_4 : decode cX3_swapRows 4 = .ok (.astore_n 1, 1) := by decide +kernel
theorem dX3_swapRows_5 : decode cX3_swapRows 5 = .ok (.aload_n 0, 1) := by decide +kernel
theorem dX3_swapRows_6 : decode cX3_swapRows 6 = .ok (.aload_n 0, 1) := by decide +kernel
theorem dX3_swapRows_7 : decode cX3_swapRows 7 = .ok (.getfield 34, 3) := by decide +kernel
theorem dX3_swapRows_10 : decode cX3_swapRows 10 = .ok (.putfield 30, 3) := by decide +kernel
theorem dX3_swapRows_13 : decode cX3_swapRows 13 = .ok (.aload_n 0, 1) := by decide +kernel
theorem dX3_swapRows_14 : decode cX3_swapRows 14 = .ok (.aload_n 1, 1) := by decide +kernel
theorem dX3_swapRows_15 : decode cX3_swapRows 15 = .ok (.putfield 34, 3) := by decide +kernel
theorem dX3_swapRows_18 : decode cX3_swapRows 18 = .ok (.return_, 1) := by decide +kernel
theorem dX3_lengthenRows_0 : decode cX3_lengthenRows 0 = .ok (.iconst 0, 1) := by decide +kernel
theorem dX3_lengthenRows_1 : decode cX3_lengthenRows 1 = .ok (.istore_n 2, 1) := by decide +kernel
theorem dX3_lengthenRows_2 : decode cX3_lengthenRows 2 = .ok (.iconst 0, 1) := by decide +kernel
theorem dX3_lengthenRows_3 : decode cX3_lengthenRows 3 = .ok (.istore_n 3, 1) := by decide +kernel
theorem dX3_lengthenRows_4 : decode cX3_lengthenRows 4 = .ok (.iload_n 3, 1) := by decide +kernel
theorem dX3_lengthenRows_5 : decode cX3_lengthenRows 5 = .ok (.aload_n 0, 1) := by decide +kernel
theorem dX3_lengthenRows_6 : decode cX3_lengthenRows 6 = .ok (.getfield 37, 3) := by decide +kernel
theorem dX3_lengthenRows_9 : decode cX3_lengthenRows 9 = .ok (.if_icmp .ge 146, 3) := by decide +kernel
theorem dX3_lengthenRows_12 : decode cX3_lengthenRows 12 = .ok (.aload_n 0, 1) := by decide +kernel
theorem dX3_lengthenRows_13 : decode cX3_lengthenRows 13 = .ok (.getfield 30, 3) := by decide +kernel
theorem dX3_lengthenRows_16 : decode cX3_lengthenRows 16 = .ok (.iload_n 3, 1) := by decide +kernel
theorem dX3_lengthenRows_17 : decode cX3_lengthenRows 17 = .ok (.laload, 1) := by decide +kernel
theorem dX3_lengthenRows_18 : decode cX3_lengthenRows 18 = .ok (.lstore 4, 2) := by decide +kernel
theorem dX3_lengthenRows_20 : decode cX3_lengthenRows 20 = .ok (.lload 4, 2) := by decide +kernel
theorem dX3_lengthenRows_22 : decode cX3_lengthenRows 22 = .ok (.l2i, 1) := by decide +kernel
theorem dX3_lengthenRows_23 : decode cX3_lengthenRows 23 = .ok (.sipush 511, 3) := by decide +kernel
theorem dX3_lengthenRows_26 : decode cX3_lengthenRows 26 = .ok (.iand, 1) := by decide +kernel
theorem dX3_lengthenRows_27 : decode cX3_lengthenRows 27 = .ok (.istore 6, 2) := by decide +kernel
theorem dX3_lengthenRows_29 : decode cX3_lengthenRows 29 = .ok (.iconst 0, 1) := by decide +kernel
theorem dX3_lengthenRows_30 : decode cX3_lengthenRows 30 = .ok (.istore 7, 2) := by decide +kernel
theorem dX3_lengthenRows_32 : decode cX3_lengthenRows 32 = .ok (.iload 7, 2) := by decide +kernel
theorem dX3_lengthenRows_34 : decode cX3_lengthenRows 34 = .ok (.bipush 7, 2) := by decide +kernel
theorem dX3_lengthenRows_36 : decode cX3_lengthenRows 36 = .ok (.if_icmp .ge 113, 3) := by decide +kernel
theorem dX3_lengthenRows_39 : decode cX3_lengthenRows 39 = .ok (.aload_n 0, 1) := by decide +kernel
theorem dX3_lengthenRows_40 : decode cX3_lengthenRows 40 = .ok (.getfield 12, 3) := by decide +kernel
theorem dX3_lengthenRows_43 : decode cX3_lengthenRows 43 = .ok (.iload 6, 2) := by decide +kernel
theorem dX3_lengthenRows_45 : decode cX3_lengthenRows 45 = .ok (.iload 7, 2) := by decide +kernel
theorem dX3_lengthenRows_47 : decode cX3_lengthenRows 47 = .ok (.invokevirtual 97, 3) := by decide +kernel
theorem dX3_lengthenRows_50 : decode cX3_lengthenRows 50 = .ok (.istore 8, 2) := by decide +kernel
theorem dX3_lengthenRows_52 : decode cX3_lengthenRows 52 = .ok (.aload_n 0, 1) := by decide +kernel
theorem dX3_lengthenRows_53 : decode cX3_lengthenRows 53 = .ok (.getfield 24, 3) := by decide +kernel
theorem dX3_lengthenRows_56 : decode cX3_lengthenRows 56 = .ok (.iload_n 1, 1) := by decide +kernel
theorem dX3_lengthenRows_57 : decode cX3_lengthenRows 57 = .ok (.aaload, 1) := by decide +kernel
theorem dX3_lengthenRows_58 : decode cX3_lengthenRows 58 = .ok (.iload 7, 2) := by decide +kernel
theorem dX3_lengthenRows_60 : decode cX3_lengthenRows 60 = .ok (.iaload, 1) := by decide +kernel
theorem dX3_lengthenRows_61 : decode cX3_lengthenRows 61 = .ok (.aload_n 0, 1) := by decide +kernel
theorem dX3_lengthenRows_62 : decode cX3_lengthenRows 62 = .ok (.iload_n 1, 1) := by decide +kernel
theorem dX3_lengthenRows_63 : decode cX3_lengthenRows 63 = .ok (.iconst 1, 1) := by decide +kernel
theorem dX3_lengthenRows_64 : decode cX3_lengthenRows 64 = .ok (.iadd, 1) := by decide +kernel
theorem dX3_lengthenRows_65 : decode cX3_lengthenRows 65 = .ok (.iload 8, 2) := by decide +kernel
theorem dX3_lengthenRows_67 : decode cX3_lengthenRows 67 = .ok (.invokevirtual 73, 3) := by decide +kernel
theorem dX3_lengthenRows_70 : decode cX3_lengthenRows 70 = .ok (.iadd, 1) := by decide +kernel
theorem dX3_lengthenRows_71 : decode cX3_lengthenRows 71 = .ok (.sipush 1000, 3) := by decide +kernel
theorem dX3_lengthenRows_74 : decode cX3_lengthenRows 74 = .ok (.if_icmp .ge 69, 3) := by decide +kernel
theorem dX3_lengthenRows_77 : decode cX3_lengthenRows 77 = .ok (.iload_n 2, 1) := by decide +kernel
theorem dX3_lengthenRows_78 : decode cX3_lengthenRows 78 = .ok (.sipush 6435, 3) := by decide +kernel
theorem dX3_lengthenRows_81 : decode cX3_lengthenRows 81 = .ok (.if_icmp .ge 62, 3) := by decide +kernel
theorem dX3_lengthenRows_84 : decode cX3_lengthenRows 84 = .ok (.lload 4, 2) := by decide +kernel
theorem dX3_lengthenRows_86 : decode cX3_lengthenRows 86 = .ok (.bipush 40, 2) := by decide +kernel
theorem dX3_lengthenRows_88 : decode cX3_lengthenRows 88 = .ok (.lshr, 1) := by decide +kernel
theorem dX3_lengthenRows_89 : decode cX3_lengthenRows 89 = .ok (.aload_n 0, 1) := by decide +kernel
theorem dX3_lengthenRows_90 : decode cX3_lengthenRows 90 = .ok (.getfield 24, 3) := by decide +kernel
theorem dX3_lengthenRows_93 : decode cX3_lengthenRows 93 = .ok (.iload_n 1, 1) := by decide +kernel
theorem dX3_lengthenRows_94 : decode cX3_lengthenRows 94 = .ok (.aaload, 1) := by decide +kernel
theorem dX3_lengthenRows_95 : decode cX3_lengthenRows 95 = .ok (.iload 7, 2) := by decide +kernel
theorem dX3_lengthenRows_97 : decode cX3_lengthenRows 97 = .ok (.iaload, 1) := by decide +kernel
theorem dX3_lengthenRows_98 : decode cX3_lengthenRows 98 = .ok (.i2l, 1) := by decide +kernel
theorem dX3_lengthenRows_99 : decode cX3_lengthenRows 99 = .ok (.ladd, 1) := by decide +kernel
theorem dX3_lengthenRows_100 : decode cX3_lengthenRows 100 = .ok (.lstore 9, 2) := by decide +kernel
theorem dX3_lengthenRows_102 : decode cX3_lengthenRows 102 = .ok (.lload 4, 2) := by decide +kernel
theorem dX3_lengthenRows_104 : decode cX3_lengthenRows 104 = .ok (.bipush 12, 2) := by decide +kernel
theorem dX3_lengthenRows_106 : decode cX3_lengthenRows 106 = .ok (.lshr, 1) := by decide +kernel
theorem dX3_lengthenRows_107 : decode cX3_lengthenRows 107 = .ok (.ldc2_w 107, 3) := by decide +kernel
theorem dX3_lengthenRows_110 : decode cX3_lengthenRows 110 = .ok (.land, 1) := by decide +kernel
theorem dX3_lengthenRows_111 : decode cX3_lengthenRows 111 = .ok (.iconst 3, 1) := by decide +kernel
theorem dX3_lengthenRows_112 : decode cX3_lengthenRows 112 = .ok (.lshl, 1) := by decide +kernel
theorem dX3_lengthenRows_113 : decode cX3_lengthenRows 113 = .ok (.iload 7, 2) := by decide +kernel
theorem dX3_lengthenRows_115 : decode cX3_lengthenRows 115 = .ok (.i2l, 1) := by decide +kernel
theorem dX3_lengthenRows_116 : decode cX3_lengthenRows 116 = .ok (.lor, 1) := by decide +kernel
theorem dX3_lengthenRows_117 : decode cX3_lengthenRows 117 = .ok (.lstore 11, 2) := by decide +kernel
theorem dX3_lengthenRows_119 : decode cX3_lengthenRows 119 = .ok (.aload_n 0, 1) := by decide +kernel
theorem dX3_lengthenRows_120 : decode cX3_lengthenRows 120 = .ok (.getfield 34, 3) := by decide +kernel
theorem dX3_lengthenRows_123 : decode cX3_lengthenRows 123 = .ok (.iload_n 2, 1) := by decide +kernel
theorem dX3_lengthenRows_124 : decode cX3_lengthenRows 124 = .ok (.lload 9, 2) := by decide +kernel
theorem dX3_lengthenRows_126 : decode cX3_lengthenRows 126 = .ok (.bipush 40, 2) := by decide +kernel
theorem dX3_lengthenRows_128 : decode cX3_lengthenRows 128 = .ok (.lshl, 1) := by decide +kernel
theorem dX3_lengthenRows_129 : decode cX3_lengthenRows 129 = .ok (.lload 11, 2) := by decide +kernel
theorem dX3_lengthenRows_131 : decode cX3_lengthenRows 131 = .ok (.bipush 12, 2) := by decide +kernel
theorem dX3_lengthenRows_133 : decode cX3_lengthenRows 133 = .ok (.lshl, 1) := by decide +kernel
theorem dX3_lengthenRows_134 : decode cX3_lengthenRows 134 = .ok (.lor, 1) := by decide +kernel
theorem dX3_lengthenRows_135 : decode cX3_lengthenRows 135 = .ok (.iload 8, 2) := by decide +kernel
theorem dX3_lengthenRows_137 : decode cX3_lengthenRows 137 = .ok (.i2l, 1) := by decide +kernel
theorem dX3_lengthenRows_138 : decode cX3_lengthenRows 138 = .ok (.lor, 1) := by decide +kernel
theorem dX3_lengthenRows_139 : decode cX3_lengthenRows 139 = .ok (.lastore, 1) := by decide +kernel
theorem dX3_lengthenRows_140 : decode cX3_lengthenRows 140 = .ok (.iinc 2 1, 3) := by decide +kernel
theorem dX3_lengthenRows_143 : decode cX3_lengthenRows 143 = .ok (.iinc 7 1, 3) := by decide +kernel
theorem dX3_lengthenRows_146 : decode cX3_lengthenRows 146 = .ok (.goto (-114), 3) := by decide +kernel
theorem dX3_lengthenRows_149 : decode cX3_lengthenRows 149 = .ok (.iinc 3 1, 3) := by decide +kernel
theorem dX3_lengthenRows_152 : decode cX3_lengthenRows 152 = .ok (.goto (-148), 3) := by decide +kernel
theorem dX3_lengthenRows_155 : decode cX3_lengthenRows 155 = .ok (.aload_n 0, 1) := by decide +kernel
theorem dX3_lengthenRows_156 : decode cX3_lengthenRows 156 = .ok (.invokevirtual 109, 3) := by decide +kernel
theorem dX3_lengthenRows_159 : decode cX3_lengthenRows 159 = .ok (.aload_n 0, 1) := by decide +kernel
theorem dX3_lengthenRows_160 : decode cX3_lengthenRows 160 = .ok (.iload_n 2, 1) := by decide +kernel
theorem dX3_lengthenRows_161 : decode cX3_lengthenRows 161 = .ok (.putfield 37, 3) := by decide +kernel
theorem dX3_lengthenRows_164 : decode cX3_lengthenRows 164 = .ok (.return_, 1) := by decide +kernel
theorem dX3_sortByCost_0 : decode cX3_sortByCost 0 = .ok (.iconst 0, 1) := by decide +kernel
theorem dX3_sortByCost_1 : decode cX3_sortByCost 1 = .ok (.istore_n 1, 1) := by decide +kernel
theorem dX3_sortByCost_2 : decode cX3_sortByCost 2 = .ok (.iload_n 1, 1) := by decide +kernel
theorem dX3_sortByCost_3 : decode cX3_sortByCost 3 = .ok (.bipush 40, 2) := by decide +kernel
theorem dX3_sortByCost_5 : decode cX3_sortByCost 5 = .ok (.if_icmp .gt 16, 3) := by decide +kernel
theorem dX3_sortByCost_8 : decode cX3_sortByCost 8 = .ok (.aload_n 0, 1) := by decide +kernel
theorem dX3_sortByCost_9 : decode cX3_sortByCost 9 = .ok (.getfield 40, 3) := by decide +kernel
theorem dX3_sortByCost_12 : decode cX3_sortByCost 12 = .ok (.iload_n 1, 1) := by decide +kernel
theorem dX3_sortByCost_13 : decode cX3_sortByCost 13 = .ok (.iconst 0, 1) := by decide +kernel
theorem dX3_sortByCost_14 : decode cX3_sortByCost 14 = .ok (.iastore, 1) := by decide +kernel
theorem dX3_sortByCost_15 : decode cX3_sortByCost 15 = .ok (.iinc 1 1, 3) := by decide +kernel
theorem dX3_sortByCost_18 : decode cX3_sortByCost 18 = .ok (.goto (-16), 3) := by decide +kernel
theorem dX3_sortByCost_21 : decode cX3_sortByCost 21 = .ok (.iconst 0, 1) := by decide +kernel
theorem dX3_sortByCost_22 : decode cX3_sortByCost 22 = .ok (.istore_n 1, 1) := by decide +kernel
theorem dX3_sortByCost_23 : decode cX3_sortByCost 23 = .ok (.iload_n 1, 1) := by decide +kernel
theorem dX3_sortByCost_24 : decode cX3_sortByCost 24 = .ok (.aload_n 0, 1) := by decide +kernel
theorem dX3_sortByCost_25 : decode cX3_sortByCost 25 = .ok (.getfield 37, 3) := by decide +kernel
theorem dX3_sortByCost_28 : decode cX3_sortByCost 28 = .ok (.if_icmp .ge 27, 3) := by decide +kernel
theorem dX3_sortByCost_31 : decode cX3_sortByCost 31 = .ok (.aload_n 0, 1) := by decide +kernel
theorem dX3_sortByCost_32 : decode cX3_sortByCost 32 = .ok (.getfield 40, 3) := by decide +kernel
theorem dX3_sortByCost_35 : decode cX3_sortByCost 35 = .ok (.aload_n 0, 1) := by decide +kernel
theorem dX3_sortByCost_36 : decode cX3_sortByCost 36 = .ok (.getfield 30, 3) := by decide +kernel
theorem dX3_sortByCost_39 : decode cX3_sortByCost 39 = .ok (.iload_n 1, 1) := by decide +kernel
theorem dX3_sortByCost_40 : decode cX3_sortByCost 40 = .ok (.laload, 1) := by decide +kernel
theorem dX3_sortByCost_41 : decode cX3_sortByCost 41 = .ok (.invokestatic 112, 3) := by decide +kernel
theorem dX3_sortByCost_44 : decode cX3_sortByCost 44 = .ok (.dup2, 1) := by decide +kernel
theorem dX3_sortByCost_45 : decode cX3_sortByCost 45 = .ok (.iaload, 1) := by decide +kernel
theorem dX3_sortByCost_46 : decode cX3_sortByCost 46 = .ok (.iconst 1, 1) := by decide +kernel
theorem dX3_sortByCost_47 : decode cX3_sortByCost 47 = .ok (.iadd, 1) := by decide +kernel
theorem dX3_sortByCost_48 : decode cX3_sortByCost 48 = .ok (.iastore, 1) := by decide +kernel
theorem dX3_sortByCost_49 : decode cX3_sortByCost 49 = .ok (.iinc 1 1, 3) := by decide +kernel
theorem dX3_sortByCost_52 : decode cX3_sortByCost 52 = .ok (.goto (-29), 3) := by decide +kernel
theorem dX3_sortByCost_55 : decode cX3_sortByCost 55 = .ok (.iconst 1, 1) := by decide +kernel
theorem dX3_sortByCost_56 : decode cX3_sortByCost 56 = .ok (.istore_n 1, 1) := by decide +kernel
theorem dX3_sortByCost_57 : decode cX3_sortByCost 57 = .ok (.iload_n 1, 1) := by decide +kernel
theorem dX3_sortByCost_58 : decode cX3_sortByCost 58 = .ok (.bipush 40, 2) := by decide +kernel
theorem dX3_sortByCost_60 : decode cX3_sortByCost 60 = .ok (.if_icmp .gt 26, 3) := by decide +kernel
theorem dX3_sortByCost_63 : decode cX3_sortByCost 63 = .ok (.aload_n 0, 1) := by decide +kernel
theorem dX3_sortByCost_64 : decode cX3_sortByCost 64 = .ok (.getfield 40, 3) := by decide +kernel
theorem dX3_sortByCost_67 : decode cX3_sortByCost 67 = .ok (.iload_n 1, 1) := by decide +kernel
theorem dX3_sortByCost_68 : decode cX3_sortByCost 68 = .ok (.dup2, 1) := by decide +kernel
theorem dX3_sortByCost_69 : decode cX3_sortByCost 69 = .ok (.iaload, 1) := by decide +kernel
theorem dX3_sortByCost_70 : decode cX3_sortByCost 70 = .ok (.aload_n 0, 1) := by decide +kernel
theorem dX3_sortByCost_71 : decode cX3_sortByCost 71 = .ok (.getfield 40, 3) := by decide +kernel
theorem dX3_sortByCost_74 : decode cX3_sortByCost 74 = .ok (.iload_n 1, 1) := by decide +kernel
theorem dX3_sortByCost_75 : decode cX3_sortByCost 75 = .ok (.iconst 1, 1) := by decide +kernel
theorem dX3_sortByCost_76 : decode cX3_sortByCost 76 = .ok (.isub, 1) := by decide +kernel
theorem dX3_sortByCost_77 : decode cX3_sortByCost 77 = .ok (.iaload, 1) := by decide +kernel
theorem dX3_sortByCost_78 : decode cX3_sortByCost 78 = .ok (.iadd, 1) := by decide +kernel
theorem dX3_sortByCost_79 : decode cX3_sortByCost 79 = .ok (.iastore, 1) := by decide +kernel
theorem dX3_sortByCost_80 : decode cX3_sortByCost 80 = .ok (.iinc 1 1, 3) := by decide +kernel
theorem dX3_sortByCost_83 : decode cX3_sortByCost 83 = .ok (.goto (-26), 3) := by decide +kernel
theorem dX3_sortByCost_86 : decode cX3_sortByCost 86 = .ok (.aload_n 0, 1) := by decide +kernel
theorem dX3_sortByCost_87 : decode cX3_sortByCost 87 = .ok (.getfield 37, 3) := by decide +kernel
theorem dX3_sortByCost_90 : decode cX3_sortByCost 90 = .ok (.iconst 1, 1) := by decide +kernel
theorem dX3_sortByCost_91 : decode cX3_sortByCost 91 = .ok (.isub, 1) := by decide +kernel
theorem dX3_sortByCost_92 : decode cX3_sortByCost 92 = .ok (.istore_n 1, 1) := by decide +kernel
theorem dX3_sortByCost_93 : decode cX3_sortByCost 93 = .ok (.iload_n 1, 1) := by decide +kernel
theorem dX3_sortByCost_94 : decode cX3_sortByCost 94 = .ok (.ifCond .lt 46, 3) := by decide +kernel
theorem dX3_sortByCost_97 : decode cX3_sortByCost 97 = .ok (.aload_n 0, 1) := by decide +kernel
theorem dX3_sortByCost_98 : decode cX3_sortByCost 98 = .ok (.getfield 30, 3) := by decide +kernel
theorem dX3_sortByCost_101 : decode cX3_sortByCost 101 = .ok (.iload_n 1, 1) := by decide +kernel
theorem dX3_sortByCost_102 : decode cX3_sortByCost 102 = .ok (.laload, 1) := by decide +kernel
theorem dX3_sortByCost_103 : decode cX3_sortByCost 103 = .ok (.invokestatic 112, 3) := by decide +kernel
theorem dX3_sortByCost_106 : decode cX3_sortByCost 106 = .ok (.istore_n 2, 1) := by decide +kernel
theorem dX3_sortByCost_107 : decode cX3_sortByCost 107 = .ok (.aload_n 0, 1) := by decide +kernel
theorem dX3_sortByCost_108 : decode cX3_sortByCost 108 = .ok (.getfield 40, 3) := by decide +kernel
theorem dX3_sortByCost_111 : decode cX3_sortByCost 111 = .ok (.iload_n 2, 1) := by decide +kernel
theorem dX3_sortByCost_112 : decode cX3_sortByCost 112 = .ok (.dup2, 1) := by decide +kernel
theorem dX3_sortByCost_113 : decode cX3_sortByCost 113 = .ok (.iaload, 1) := by decide +kernel
theorem dX3_sortByCost_114 : decode cX3_sortByCost 114 = .ok (.iconst 1, 1) := by decide +kernel
theorem dX3_sortByCost_115 : decode cX3_sortByCost 115 = .ok (.isub, 1) := by decide +kernel
theorem dX3_sortByCost_116 : decode cX3_sortByCost 116 = .ok (.iastore, 1) := by decide +kernel
theorem dX3_sortByCost_117 : decode cX3_sortByCost 117 = .ok (.aload_n 0, 1) := by decide +kernel
theorem dX3_sortByCost_118 : decode cX3_sortByCost 118 = .ok (.getfield 34, 3) := by decide +kernel
theorem dX3_sortByCost_121 : decode cX3_sortByCost 121 = .ok (.aload_n 0, 1) := by decide +kernel
theorem dX3_sortByCost_122 : decode cX3_sortByCost 122 = .ok (.getfield 40, 3) := by decide +kernel
theorem dX3_sortByCost_125 : decode cX3_sortByCost 125 = .ok (.iload_n 2, 1) := by decide +kernel
theorem dX3_sortByCost_126 : decode cX3_sortByCost 126 = .ok (.iaload, 1) := by decide +kernel
theorem dX3_sortByCost_127 : decode cX3_sortByCost 127 = .ok (.aload_n 0, 1) := by decide +kernel
theorem dX3_sortByCost_128 : decode cX3_sortByCost 128 = .ok (.getfield 30, 3) := by decide +kernel
theorem dX3_sortByCost_131 : decode cX3_sortByCost 131 = .ok (.iload_n 1, 1) := by decide +kernel
theorem dX3_sortByCost_132 : decode cX3_sortByCost 132 = .ok (.laload, 1) := by decide +kernel
theorem dX3_sortByCost_133 : decode cX3_sortByCost 133 = .ok (.lastore, 1) := by decide +kernel
theorem dX3_sortByCost_134 : decode cX3_sortByCost 134 = .ok (.iinc 1 (-1), 3) := by decide +kernel
theorem dX3_sortByCost_137 : decode cX3_sortByCost 137 = .ok (.goto (-44), 3) := by decide +kernel
theorem dX3_sortByCost_140 : decode cX3_sortByCost 140 = .ok (.aload_n 0, 1) := by decide +kernel
theorem dX3_sortByCost_141 : decode cX3_sortByCost 141 = .ok (.invokevirtual 109, 3) := by decide +kernel
theorem dX3_sortByCost_144 : decode cX3_sortByCost 144 = .ok (.iconst 0, 1) := by decide +kernel
theorem dX3_sortByCost_145 : decode cX3_sortByCost 145 = .ok (.istore_n 1, 1) := by decide +kernel
theorem dX3_sortByCost_146 : decode cX3_sortByCost 146 = .ok (.iload_n 1, 1) := by decide +kernel
theorem dX3_sortByCost_147 : decode cX3_sortByCost 147 = .ok (.bipush 40, 2) := by decide +kernel
theorem dX3_sortByCost_149 : decode cX3_sortByCost 149 = .ok (.if_icmp .ge 23, 3) := by decide +kernel
theorem dX3_sortByCost_152 : decode cX3_sortByCost 152 = .ok (.aload_n 0, 1) := by decide +kernel
theorem dX3_sortByCost_153 : decode cX3_sortByCost 153 = .ok (.getfield 40, 3) := by decide +kernel
theorem dX3_sortByCost_156 : decode cX3_sortByCost 156 = .ok (.iload_n 1, 1) := by decide +kernel
theorem dX3_sortByCost_157 : decode cX3_sortByCost 157 = .ok (.aload_n 0, 1) := by decide +kernel
theorem dX3_sortByCost_158 : decode cX3_sortByCost 158 = .ok (.getfield 40, 3) := by decide +kernel
theorem dX3_sortByCost_161 : decode cX3_sortByCost 161 = .ok (.iload_n 1, 1) := by decide +kernel
theorem dX3_sortByCost_162 : decode cX3_sortByCost 162 = .ok (.iconst 1, 1) := by decide +kernel
theorem dX3_sortByCost_163 : decode cX3_sortByCost 163 = .ok (.iadd, 1) := by decide +kernel
theorem dX3_sortByCost_164 : decode cX3_sortByCost 164 = .ok (.iaload, 1) := by decide +kernel
theorem dX3_sortByCost_165 : decode cX3_sortByCost 165 = .ok (.iastore, 1) := by decide +kernel
theorem dX3_sortByCost_166 : decode cX3_sortByCost 166 = .ok (.iinc 1 1, 3) := by decide +kernel
theorem dX3_sortByCost_169 : decode cX3_sortByCost 169 = .ok (.goto (-23), 3) := by decide +kernel
theorem dX3_sortByCost_172 : decode cX3_sortByCost 172 = .ok (.aload_n 0, 1) := by decide +kernel
theorem dX3_sortByCost_173 : decode cX3_sortByCost 173 = .ok (.getfield 40, 3) := by decide +kernel
theorem dX3_sortByCost_176 : decode cX3_sortByCost 176 = .ok (.bipush 40, 2) := by decide +kernel
theorem dX3_sortByCost_178 : decode cX3_sortByCost 178 = .ok (.aload_n 0, 1) := by decide +kernel
theorem dX3_sortByCost_179 : decode cX3_sortByCost 179 = .ok (.getfield 37, 3) := by decide +kernel
theorem dX3_sortByCost_182 : decode cX3_sortByCost 182 = .ok (.iastore, 1) := by decide +kernel
theorem dX3_sortByCost_183 : decode cX3_sortByCost 183 = .ok (.return_, 1) := by decide +kernel
theorem dX3_costIn_0 : decode cX3_costIn 0 = .ok (.iconst 0, 1) := by decide +kernel
theorem dX3_costIn_1 : decode cX3_costIn 1 = .ok (.lload_n 0, 1) := by decide +kernel
theorem dX3_costIn_2 : decode cX3_costIn 2 = .ok (.bipush 40, 2) := by decide +kernel
theorem dX3_costIn_4 : decode cX3_costIn 4 = .ok (.lshr, 1) := by decide +kernel
theorem dX3_costIn_5 : decode cX3_costIn 5 = .ok (.l2i, 1) := by decide +kernel
theorem dX3_costIn_6 : decode cX3_costIn 6 = .ok (.bipush 40, 2) := by decide +kernel
theorem dX3_costIn_8 : decode cX3_costIn 8 = .ok (.invokestatic 47, 3) := by decide +kernel
theorem dX3_costIn_11 : decode cX3_costIn 11 = .ok (.invokestatic 116, 3) := by decide +kernel
theorem dX3_costIn_14 : decode cX3_costIn 14 = .ok (.ireturn, 1) := by decide +kernel
theorem dX3_rowsUpTo_0 : decode cX3_rowsUpTo 0 = .ok (.aload_n 0, 1) := by decide +kernel
theorem dX3_rowsUpTo_1 : decode cX3_rowsUpTo 1 = .ok (.getfield 40, 3) := by decide +kernel
theorem dX3_rowsUpTo_4 : decode cX3_rowsUpTo 4 = .ok (.iconst 0, 1) := by decide +kernel
theorem dX3_rowsUpTo_5 : decode cX3_rowsUpTo 5 = .ok (.iload_n 1, 1) := by decide +kernel
theorem dX3_rowsUpTo_6 : decode cX3_rowsUpTo 6 = .ok (.bipush 40, 2) := by decide +kernel
theorem dX3_rowsUpTo_8 : decode cX3_rowsUpTo 8 = .ok (.invokestatic 47, 3) := by decide +kernel
theorem dX3_rowsUpTo_11 : decode cX3_rowsUpTo 11 = .ok (.invokestatic 116, 3) := by decide +kernel
theorem dX3_rowsUpTo_14 : decode cX3_rowsUpTo 14 = .ok (.iaload, 1) := by decide +kernel
theorem dX3_rowsUpTo_15 : decode cX3_rowsUpTo 15 = .ok (.ireturn, 1) := by decide +kernel
theorem dX3_isRow_0 : decode cX3_isRow 0 = .ok (.iload_n 1, 1) := by decide +kernel
theorem dX3_isRow_1 : decode cX3_isRow 1 = .ok (.ifCond .lt 15, 3) := by decide +kernel
theorem dX3_isRow_4 : decode cX3_isRow 4 = .ok (.iload_n 1, 1) := by decide +kernel
theorem dX3_isRow_5 : decode cX3_isRow 5 = .ok (.aload_n 0, 1) := by decide +kernel
theorem dX3_isRow_6 : decode cX3_isRow 6 = .ok (.getfield 37, 3) := by decide +kernel
theorem dX3_isRow_9 : decode cX3_isRow 9 = .ok (.if_icmp .ge 7, 3) := by decide +kernel
theorem dX3_isRow_12 : decode cX3_isRow 12 = .ok (.iconst 1, 1) := by decide +kernel
theorem dX3_isRow_13 : decode cX3_isRow 13 = .ok (.goto 4, 3) := by decide +kernel
theorem dX3_isRow_16 : decode cX3_isRow 16 = .ok (.iconst 0, 1) := by decide +kernel
theorem dX3_isRow_17 : decode cX3_isRow 17 = .ok (.ireturn, 1) := by decide +kernel
theorem dX3_costOfRow_0 : decode cX3_costOfRow 0 = .ok (.aload_n 0, 1) := by decide +kernel
theorem dX3_costOfRow_1 : decode cX3_costOfRow 1 = .ok (.iload_n 1, 1) := by decide +kernel
theorem dX3_costOfRow_2 : decode cX3_costOfRow 2 = .ok (.invokevirtual 119, 3) := by decide +kernel
theorem dX3_costOfRow_5 : decode cX3_costOfRow 5 = .ok (.ifCond .eq 15, 3) := by decide +kernel
theorem dX3_costOfRow_8 : decode cX3_costOfRow 8 = .ok (.aload_n 0, 1) := by decide +kernel
theorem dX3_costOfRow_9 : decode cX3_costOfRow 9 = .ok (.getfield 30, 3) := by decide +kernel
theorem dX3_costOfRow_12 : decode cX3_costOfRow 12 = .ok (.iload_n 1, 1) := by decide +kernel
theorem dX3_costOfRow_13 : decode cX3_costOfRow 13 = .ok (.laload, 1) := by decide +kernel
theorem dX3_costOfRow_14 : decode cX3_costOfRow 14 = .ok (.invokestatic 112, 3) := by decide +kernel
theorem dX3_costOfRow_17 : decode cX3_costOfRow 17 = .ok (.goto 4, 3) := by decide +kernel
theorem dX3_costOfRow_20 : decode cX3_costOfRow 20 = .ok (.iconst (-1), 1) := by decide +kernel
theorem dX3_costOfRow_21 : decode cX3_costOfRow 21 = .ok (.ireturn, 1) := by decide +kernel
theorem dX3_kindInRow_0 : decode cX3_kindInRow 0 = .ok (.aload_n 0, 1) := by decide +kernel
theorem dX3_kindInRow_1 : decode cX3_kindInRow 1 = .ok (.iload_n 1, 1) := by decide +kernel
theorem dX3_kindInRow_2 : decode cX3_kindInRow 2 = .ok (.invokevirtual 119, 3) := by decide +kernel
theorem dX3_kindInRow_5 : decode cX3_kindInRow 5 = .ok (.ifCond .eq 15, 3) := by decide +kernel
theorem dX3_kindInRow_8 : decode cX3_kindInRow 8 = .ok (.iload_n 2, 1) := by decide +kernel
theorem dX3_kindInRow_9 : decode cX3_kindInRow 9 = .ok (.ifCond .lt 11, 3) := by decide +kernel
theorem dX3_kindInRow_12 : decode cX3_kindInRow 12 = .ok (.iload_n 2, 1) := by decide +kernel
theorem dX3_kindInRow_13 : decode cX3_kindInRow 13 = .ok (.aload_n 0, 1) := by decide +kernel
theorem dX3_kindInRow_14 : decode cX3_kindInRow 14 = .ok (.getfield 18, 3) := by decide +kernel
theorem dX3_kindInRow_17 : decode cX3_kindInRow 17 = .ok (.if_icmp .lt 5, 3) := by decide +kernel
theorem dX3_kindInRow_20 : decode cX3_kindInRow 20 = .ok (.iconst (-1), 1) := by decide +kernel
theorem dX3_kindInRow_21 : decode cX3_kindInRow 21 = .ok (.ireturn, 1) := by decide +kernel
theorem dX3_kindInRow_22 : decode cX3_kindInRow 22 = .ok (.aload_n 0, 1) := by decide +kernel
theorem dX3_kindInRow_23 : decode cX3_kindInRow 23 = .ok (.getfield 30, 3) := by decide +kernel
theorem dX3_kindInRow_26 : decode cX3_kindInRow 26 = .ok (.iload_n 1, 1) := by decide +kernel
theorem dX3_kindInRow_27 : decode cX3_kindInRow 27 = .ok (.laload, 1) := by decide +kernel
theorem dX3_kindInRow_28 : decode cX3_kindInRow 28 = .ok (.bipush 12, 2) := by decide +kernel
theorem dX3_kindInRow_30 : decode cX3_kindInRow 30 = .ok (.iconst 3, 1) := by decide +kernel
theorem dX3_kindInRow_31 : decode cX3_kindInRow 31 = .ok (.aload_n 0, 1) := by decide +kernel
theorem dX3_kindInRow_32 : decode cX3_kindInRow 32 = .ok (.getfield 18, 3) := by decide +kernel
theorem dX3_kindInRow_35 : decode cX3_kindInRow 35 = .ok (.iconst 1, 1) := by decide +kernel
theorem dX3_kindInRow_36 : decode cX3_kindInRow 36 = .ok (.isub, 1) := by decide +kernel
theorem dX3_kindInRow_37 : decode cX3_kindInRow 37 = .ok (.iload_n 2, 1) := by decide +kernel
theorem dX3_kindInRow_38 : decode cX3_kindInRow 38 = .ok (.isub, 1) := by decide +kernel
theorem dX3_kindInRow_39 : decode cX3_kindInRow 39 = .ok (.imul, 1) := by decide +kernel
theorem dX3_kindInRow_40 : decode cX3_kindInRow 40 = .ok (.iadd, 1) := by decide +kernel
theorem dX3_kindInRow_41 : decode cX3_kindInRow 41 = .ok (.lshr, 1) := by decide +kernel
theorem dX3_kindInRow_42 : decode cX3_kindInRow 42 = .ok (.l2i, 1) := by decide +kernel
theorem dX3_kindInRow_43 : decode cX3_kindInRow 43 = .ok (.bipush 7, 2) := by decide +kernel
theorem dX3_kindInRow_45 : decode cX3_kindInRow 45 = .ok (.iand, 1) := by decide +kernel
theorem dX3_kindInRow_46 : decode cX3_kindInRow 46 = .ok (.ireturn, 1) := by decide +kernel
theorem dX4_init_0 : decode cX4_init 0 = .ok (.aload_n 0, 1) := by decide +kernel
theorem dX4_init_1 : decode cX4_init 1 = .ok (.invokespecial 3, 3) := by decide +kernel
theorem dX4_init_4 : decode cX4_init 4 = .ok (.aload_n 0, 1) := by decide +kernel
theorem dX4_init_5 : decode cX4_init 5 = .ok (.iconst 0, 1) := by decide +kernel
theorem dX4_init_6 : decode cX4_init 6 = .ok (.putfield 9, 3) := by decide +kernel
theorem dX4_init_9 : decode cX4_init 9 = .ok (.aload_n 0, 1) := by decide +kernel
theorem dX4_init_10 : decode cX4_init 10 = .ok (.bipush 8, 2) := by decide +kernel
theorem dX4_init_12 : decode cX4_init 12 = .ok (.newarray .int, 2) := by decide +kernel
theorem dX4_init_14 : decode cX4_init 14 = .ok (.putfield 15, 3) := by decide +kernel
theorem dX4_init_17 : decode cX4_init 17 = .ok (.aload_n 0, 1) := by decide +kernel
theorem dX4_init_18 : decode cX4_init 18 = .ok (.bipush 8, 2) := by decide +kernel
theorem dX4_init_20 : decode cX4_init 20 = .ok (.newarray .boolean, 2) := by decide +kernel
theorem dX4_init_22 : decode cX4_init 22 = .ok (.putfield 19, 3) := by decide +kernel
theorem dX4_init_25 : decode cX4_init 25 = .ok (.aload_n 0, 1) := by decide +kernel
theorem dX4_init_26 : decode cX4_init 26 = .ok (.bipush 8, 2) := by decide +kernel
theorem dX4_init_28 : decode cX4_init 28 = .ok (.newarray .boolean, 2) := by decide +kernel
theorem dX4_init_30 : decode cX4_init 30 = .ok (.putfield 23, 3) := by decide +kernel
theorem dX4_init_33 : decode cX4_init 33 = .ok (.aload_n 0, 1) := by decide +kernel
theorem dX4_init_34 : decode cX4_init 34 = .ok (.iconst 0, 1) := by decide +kernel
theorem dX4_init_35 : decode cX4_init 35 = .ok (.putfield 26, 3) := by decide +kernel
theorem dX4_init_38 : decode cX4_init 38 = .ok (.aload_n 0, 1) := by decide +kernel
theorem dX4_init_39 : decode cX4_init 39 = .ok (.bipush 8, 2) := by decide +kernel
theorem dX4_init_41 : decode cX4_init 41 = .ok (.newarray .int, 2) := by decide +kernel
theorem dX4_init_43 : decode cX4_init 43 = .ok (.putfield 29, 3) := by decide +kernel
theorem dX4_init_46 : decode cX4_init 46 = .ok (.aload_n 0, 1) := by decide +kernel
theorem dX4_init_47 : decode cX4_init 47 = .ok (.bipush 7, 2) := by decide +kernel
theorem dX4_init_49 : decode cX4_init 49 = .ok (.newarray .int, 2) := by decide +kernel
theorem dX4_init_51 : decode cX4_init 51 = .ok (.putfield 32, 3) := by decide +kernel
theorem dX4_init_54 : decode cX4_init 54 = .ok (.aload_n 0, 1) := by decide +kernel
theorem dX4_init_55 : decode cX4_init 55 = .ok (.bipush 7, 2) := by decide +kernel
theorem dX4_init_57 : decode cX4_init 57 = .ok (.newarray .int, 2) := by decide +kernel
theorem dX4_init_59 : decode cX4_init 59 = .ok (.putfield 35, 3) := by decide +kernel
theorem dX4_init_62 : decode cX4_init 62 = .ok (.aload_n 0, 1) := by decide +kernel
theorem dX4_init_63 : decode cX4_init 63 = .ok (.iconst 0, 1) := by decide +kernel
theorem dX4_init_64 : decode cX4_init 64 = .ok (.putfield 38, 3) := by decide +kernel
theorem dX4_init_67 : decode cX4_init 67 = .ok (.aload_n 0, 1) := by decide +kernel
theorem dX4_init_68 : decode cX4_init 68 = .ok (.bipush 7, 2) := by decide +kernel
theorem dX4_init_70 : decode cX4_init 70 = .ok (.newarray .int, 2) := by decide +kernel
theorem dX4_init_72 : decode cX4_init 72 = .ok (.putfield 41, 3) := by decide +kernel
theorem dX4_init_75 : decode cX4_init 75 = .ok (.aload_n 0, 1) := by decide +kernel
theorem dX4_init_76 : decode cX4_init 76 = .ok (.iconst 0, 1) := by decide +kernel
theorem dX4_init_77 : decode cX4_init 77 = .ok (.putfield 44, 3) := by decide +kernel
theorem dX4_init_80 : decode cX4_init 80 = .ok (.aload_n 0, 1) := by decide +kernel
theorem dX4_init_81 : decode cX4_init 81 = .ok (.bipush 6, 2) := by decide +kernel
theorem dX4_init_83 : decode cX4_init 83 = .ok (.newarray .byte, 2) := by decide +kernel
theorem dX4_init_85 : decode cX4_init 85 = .ok (.putfield 47, 3) := by decide +kernel
theorem dX4_init_88 : decode cX4_init 88 = .ok (.aload_n 0, 1) := by decide +kernel
theorem dX4_init_89 : decode cX4_init 89 = .ok (.iconst 0, 1) := by decide +kernel
theorem dX4_init_90 : decode cX4_init 90 = .ok (.putfield 51, 3) := by decide +kernel
theorem dX4_init_93 : decode cX4_init 93 = .ok (.return_, 1) := by decide +kernel
theorem dX4_link_0 : decode cX4_link 0 = .ok (.iconst 0, 1) := by decide +kernel
theorem dX4_link_1 : decode cX4_link 1 = .ok (.istore_n 1, 1) := by decide +kernel
theorem dX4_link_2 : decode cX4_link 2 = .ok (.iload_n 1, 1) := by decide +kernel
theorem dX4_link_3 : decode cX4_link 3 = .ok (.bipush 7, 2) := by decide +kernel
theorem dX4_link_5 : decode cX4_link 5 = .ok (.if_icmp .ge 16, 3) := by decide +kernel
theorem dX4_link_8 : decode cX4_link 8 = .ok (.aload_n 0, 1) := by decide +kernel
theorem dX4_link_9 : decode cX4_link 9 = .ok (.getfield 32, 3) := by decide +kernel
theorem dX4_link_12 : decode cX4_link 12 = .ok (.iload_n 1, 1) := by decide +kernel
theorem dX4_link_13 : decode cX4_link 13 = .ok (.iconst 0, 1) := by decide +kernel
theorem dX4_link_14 : decode cX4_link 14 = .ok (.iastore, 1) := by decide +kernel
theorem dX4_link_15 : decode cX4_link 15 = .ok (.iinc 1 1, 3) := by decide +kernel
theorem dX4_link_18 : decode cX4_link 18 = .ok (.goto (-16), 3) := by decide +kernel
theorem dX4_link_21 : decode cX4_link 21 = .ok (.aload_n 0, 1) := by decide +kernel
theorem dX4_link_22 : decode cX4_link 22 = .ok (.aload_n 0, 1) := by decide +kernel
theorem dX4_link_23 : decode cX4_link 23 = .ok (.iconst 0, 1) := by decide +kernel
theorem dX4_link_24 : decode cX4_link 24 = .ok (.invokevirtual 54, 3) := by decide +kernel
theorem dX4_link_27 : decode cX4_link 27 = .ok (.putfield 26, 3) := by decide +kernel
theorem dX4_link_30 : decode cX4_link 30 = .ok (.iconst 0, 1) := by decide +kernel
theorem dX4_link_31 : decode cX4_link 31 = .ok (.istore_n 1, 1) := by decide +kernel
theorem dX4_link_32 : decode cX4_link 32 = .ok (.iload_n 1, 1) := by decide +kernel
theorem dX4_link_33 : decode cX4_link 33 = .ok (.aload_n 0, 1) := by decide +kernel
theorem dX4_link_34 : decode cX4_link 34 = .ok (.getfield 9, 3) := by decide +kernel
theorem dX4_link_37 : decode cX4_link 37 = .ok (.if_icmp .ge 56, 3) := by decide +kernel
theorem dX4_link_40 : decode cX4_link 40 = .ok (.aload_n 0, 1) := by decide +kernel
theorem dX4_link_41 : decode cX4_link 41 = .ok (.getfield 32, 3) := by decide +kernel
theorem dX4_link_44 : decode cX4_link 44 = .ok (.aload_n 0, 1) := by decide +kernel
theorem dX4_link_45 : decode cX4_link 45 = .ok (.getfield 15, 3) := by decide +kernel
theorem dX4_link_48 : decode cX4_link 48 = .ok (.iload_n 1, 1) := by decide +kernel
theorem dX4_link_49 : decode cX4_link 49 = .ok (.iaload, 1) := by decide +kernel
theorem dX4_link_50 : decode cX4_link 50 = .ok (.dup2, 1) := by decide +kernel
theorem dX4_link_51 : decode cX4_link 51 = .ok (.iaload, 1) := by decide +kernel
theorem dX4_link_52 : decode cX4_link 52 = .ok (.iconst 1, 1) := by decide +kernel
theorem dX4_link_53 : decode cX4_link 53 = .ok (.iload_n 1, 1) := by decide +kernel
theorem dX4_link_54 : decode cX4_link 54 = .ok (.ishl, 1) := by decide +kernel
theorem dX4_link_55 : decode cX4_link 55 = .ok (.ior, 1) := by decide +kernel
theorem dX4_link_56 : decode cX4_link 56 = .ok (.iastore, 1) := by decide +kernel
theorem dX4_link_57 : decode cX4_link 57 = .ok (.aload_n 0, 1) := by decide +kernel
theorem dX4_link_58 : decode cX4_link 58 = .ok (.getfield 29, 3) := by decide +kernel
theorem dX4_link_61 : decode cX4_link 61 = .ok (.iload_n 1, 1) := by decide +kernel
theorem dX4_link_62 : decode cX4_link 62 = .ok (.aload_n 0, 1) := by decide +kernel
theorem dX4_link_63 : decode cX4_link 63 = .ok (.iload_n 1, 1) := by decide +kernel
theorem dX4_link_64 : decode cX4_link 64 = .ok (.iconst 1, 1) := by decide +kernel
theorem dX4_link_65 : decode cX4_link 65 = .ok (.iadd, 1) := by decide +kernel
theorem dX4_link_66 : decode cX4_link 66 = .ok (.invokevirtual 54, 3) := by decide +kernel
theorem dX4_link_69 : decode cX4_link 69 = .ok (.aload_n 0, 1) := by decide +kernel
theorem dX4_link_70 : decode cX4_link 70 = .ok (.getfield 23, 3) := by decide +kernel
theorem dX4_link_73 : decode cX4_link 73 = .ok (.iload_n 1, 1) := by decide +kernel
theorem dX4_link_74 : decode cX4_link 74 = .ok (.baload, 1) := by decide +kernel
theorem dX4_link_75 : decode cX4_link 75 = .ok (.ifCond .eq 9, 3) := by decide +kernel
theorem dX4_link_78 : decode cX4_link 78 = .ok (.iconst 1, 1) := by decide +kernel
theorem dX4_link_79 : decode cX4_link 79 = .ok (.iload_n 1, 1) := by decide +kernel
theorem dX4_link_80 : decode cX4_link 80 = .ok (.ishl, 1) := by decide +kernel
theorem dX4_link_81 : decode cX4_link 81 = .ok (.goto 4, 3) := by decide +kernel
theorem dX4_link_84 : decode cX4_link 84 = .ok (.iconst 0, 1) := by decide +kernel
theorem dX4_link_85 : decode cX4_link 85 = .ok (.ior, 1) := by decide +kernel
theorem dX4_link_86 : decode cX4_link 86 = .ok (.iastore, 1) := by decide +kernel
theorem dX4_link_87 : decode cX4_link 87 = .ok (.iinc 1 1, 3) := by decide +kernel
theorem dX4_link_90 : decode cX4_link 90 = .ok (.goto (-58), 3) := by decide +kernel
theorem dX4_link_93 : decode cX4_link 93 = .ok (.return_, 1) := by decide +kernel
theorem dX4_openFrom_0 : decode cX4_openFrom 0 = .ok (.iconst 0, 1) := by decide +kernel
theorem dX4_openFrom_1 : decode cX4_openFrom 1 = .ok (.istore_n 2, 1) := by decide +kernel
theorem dX4_openFrom_2 : decode cX4_openFrom 2 = .ok (.iload_n 1, 1) := by decide +kernel
theorem dX4_openFrom_3 : decode cX4_openFrom 3 = .ok (.istore_n 3, 1) := by decide +kernel
theorem dX4_openFrom_4 : decode cX4_openFrom 4 = .ok (.iload_n 3, 1) := by decide +kernel
theorem dX4_openFrom_5 : decode cX4_openFrom 5 = .ok (.aload_n 0, 1) := by decide +kernel
theorem dX4_openFrom_6 : decode cX4_openFrom 6 = .ok (.getfield 9, 3) := by decide +kernel
theorem dX4_openFrom_9 : decode cX4_openFrom 9 = .ok (.if_icmp .ge 26, 3) := by decide +kernel
theorem dX4_openFrom_12 : decode cX4_openFrom 12 = .ok (.iload_n 2, 1) := by decide +kernel
theorem dX4_openFrom_13 : decode cX4_openFrom 13 = .ok (.iconst 1, 1) := by decide +kernel
theorem dX4_openFrom_14 : decode cX4_openFrom 14 = .ok (.iload_n 3, 1) := by decide +kernel
theorem dX4_openFrom_15 : decode cX4_openFrom 15 = .ok (.ishl, 1) := by decide +kernel
theorem dX4_openFrom_16 : decode cX4_openFrom 16 = .ok (.ior, 1) := by decide +kernel
theorem dX4_openFrom_17 : decode cX4_openFrom 17 = .ok (.istore_n 2, 1) := by decide +kernel
theorem dX4_openFrom_18 : decode cX4_openFrom 18 = .ok (.aload_n 0, 1) := by decide +kernel
theorem dX4_openFrom_19 : decode cX4_openFrom 19 = .ok (.getfield 19, 3) := by decide +kernel
theorem dX4_openFrom_22 : decode cX4_openFrom 22 = .ok (.iload_n 3, 1) := by decide +kernel
end
section
theorem dX4_openFrom_23 : decode cX4_openFrom 23 = .ok (.baload, 1) := by decide +kernel
theorem dX4_openFrom_24 : decode cX4_openFrom 24 = .ok (.ifCond .ne 5, 3) := by decide +kernel
theorem dX4_openFrom_27 : decode cX4_openFrom 27 = .ok (.iload_n 2, 1) := by decide +kernel
theorem dX4_openFrom_28 : decode cX4_openFrom 28 = .ok (.ireturn, 1) := by decide +kernel
theorem dX4_openFrom_29 : decode cX4_openFrom 29 = .ok (.iinc 3 1, 3) := by decide +kernel
theorem dX4_openFrom_32 : decode cX4_openFrom 32 = .ok (.goto (-28), 3) := by decide +kernel
theorem dX4_openFrom_35 : decode cX4_openFrom 35 = .ok (.iload_n 2, 1) := by decide +kernel
theorem dX4_openFrom_36 : decode cX4_openFrom 36 = .ok (.sipush 256, 3) := by decide +kernel
theorem dX4_openFrom_39 : decode cX4_openFrom 39 = .ok (.ior, 1) := by decide +kernel
theorem dX4_openFrom_40 : decode cX4_openFrom 40 = .ok (.ireturn, 1) := by decide +kernel
theorem dX4_openBehind_0 : decode cX4_openBehind 0 = .ok (.iload_n 1, 1) := by decide +kernel
theorem dX4_openBehind_1 : decode cX4_openBehind 1 = .ok (.aload_n 0, 1) := by decide +kernel
theorem dX4_openBehind_2 : decode cX4_openBehind 2 = .ok (.getfield 32, 3) := by decide +kernel
theorem dX4_openBehind_5 : decode cX4_openBehind 5 = .ok (.iload_n 2, 1) := by decide +kernel
theorem dX4_openBehind_6 : decode cX4_openBehind 6 = .ok (.iaload, 1) := by decide +kernel
theorem dX4_openBehind_7 : decode cX4_openBehind 7 = .ok (.iand, 1) := by decide +kernel
theorem dX4_openBehind_8 : decode cX4_openBehind 8 = .ok (.istore_n 3, 1) := by decide +kernel
theorem dX4_openBehind_9 : decode cX4_openBehind 9 = .ok (.iconst 0, 1) := by decide +kernel
theorem dX4_openBehind_10 : decode cX4_openBehind 10 = .ok (.istore 4, 2) := by decide +kernel
theorem dX4_openBehind_12 : decode cX4_openBehind 12 = .ok (.iconst 0, 1) := by decide +kernel
theorem dX4_openBehind_13 : decode cX4_openBehind 13 = .ok (.istore 5, 2) := by decide +kernel
theorem dX4_openBehind_15 : decode cX4_openBehind 15 = .ok (.iload 5, 2) := by decide +kernel
theorem dX4_openBehind_17 : decode cX4_openBehind 17 = .ok (.bipush 8, 2) := by decide +kernel
theorem dX4_openBehind_19 : decode cX4_openBehind 19 = .ok (.if_icmp .ge 37, 3) := by decide +kernel
theorem dX4_openBehind_22 : decode cX4_openBehind 22 = .ok (.iload_n 3, 1) := by decide +kernel
theorem dX4_openBehind_23 : decode cX4_openBehind 23 = .ok (.iload 5, 2) := by decide +kernel
theorem dX4_openBehind_25 : decode cX4_openBehind 25 = .ok (.ishr, 1) := by decide +kernel
theorem dX4_openBehind_26 : decode cX4_openBehind 26 = .ok (.ifCond .eq 30, 3) := by decide +kernel
theorem dX4_openBehind_29 : decode cX4_openBehind 29 = .ok (.iload_n 3, 1) := by decide +kernel
theorem dX4_openBehind_30 : decode cX4_openBehind 30 = .ok (.iload 5, 2) := by decide +kernel
theorem dX4_openBehind_32 : decode cX4_openBehind 32 = .ok (.ishr, 1) := by decide +kernel
theorem dX4_openBehind_33 : decode cX4_openBehind 33 = .ok (.iconst 1, 1) := by decide +kernel
theorem dX4_openBehind_34 : decode cX4_openBehind 34 = .ok (.iand, 1) := by decide +kernel
theorem dX4_openBehind_35 : decode cX4_openBehind 35 = .ok (.ifCond .eq 15, 3) := by decide +kernel
theorem dX4_openBehind_38 : decode cX4_openBehind 38 = .ok (.iload 4, 2) := by decide +kernel
theorem dX4_openBehind_40 : decode cX4_openBehind 40 = .ok (.aload_n 0, 1) := by decide +kernel
theorem dX4_openBehind_41 : decode cX4_openBehind 41 = .ok (.getfield 29, 3) := by decide +kernel
theorem dX4_openBehind_44 : decode cX4_openBehind 44 = .ok (.iload 5, 2) := by decide +kernel
theorem dX4_openBehind_46 : decode cX4_openBehind 46 = .ok (.iaload, 1) := by decide +kernel
theorem dX4_openBehind_47 : decode cX4_openBehind 47 = .ok (.ior, 1) := by decide +kernel
theorem dX4_openBehind_48 : decode cX4_openBehind 48 = .ok (.istore 4, 2) := by decide +kernel
theorem dX4_openBehind_50 : decode cX4_openBehind 50 = .ok (.iinc 5 1, 3) := by decide +kernel
theorem dX4_openBehind_53 : decode cX4_openBehind 53 = .ok (.goto (-38), 3) := by decide +kernel
theorem dX4_openBehind_56 : decode cX4_openBehind 56 = .ok (.iload 4, 2) := by decide +kernel
theorem dX4_openBehind_58 : decode cX4_openBehind 58 = .ok (.ireturn, 1) := by decide +kernel
theorem dX4_isMade_0 : decode cX4_isMade 0 = .ok (.aload_n 0, 1) := by decide +kernel
theorem dX4_isMade_1 : decode cX4_isMade 1 = .ok (.getfield 51, 3) := by decide +kernel
theorem dX4_isMade_4 : decode cX4_isMade 4 = .ok (.ifCond .le 33, 3) := by decide +kernel
theorem dX4_isMade_7 : decode cX4_isMade 7 = .ok (.aload_n 1, 1) := by decide +kernel
theorem dX4_isMade_8 : decode cX4_isMade 8 = .ok (.getfield 58, 3) := by decide +kernel
theorem dX4_isMade_11 : decode cX4_isMade 11 = .ok (.aload_n 0, 1) := by decide +kernel
theorem dX4_isMade_12 : decode cX4_isMade 12 = .ok (.getfield 51, 3) := by decide +kernel
theorem dX4_isMade_15 : decode cX4_isMade 15 = .ok (.if_icmp .le 22, 3) := by decide +kernel
theorem dX4_isMade_18 : decode cX4_isMade 18 = .ok (.aload_n 1, 1) := by decide +kernel
theorem dX4_isMade_19 : decode cX4_isMade 19 = .ok (.aload_n 0, 1) := by decide +kernel
theorem dX4_isMade_20 : decode cX4_isMade 20 = .ok (.getfield 47, 3) := by decide +kernel
theorem dX4_isMade_23 : decode cX4_isMade 23 = .ok (.aload_n 0, 1) := by decide +kernel
theorem dX4_isMade_24 : decode cX4_isMade 24 = .ok (.getfield 51, 3) := by decide +kernel
theorem dX4_isMade_27 : decode cX4_isMade 27 = .ok (.invokevirtual 63, 3) := by decide +kernel
theorem dX4_isMade_30 : decode cX4_isMade 30 = .ok (.ifCond .eq 7, 3) := by decide +kernel
theorem dX4_isMade_33 : decode cX4_isMade 33 = .ok (.iconst 1, 1) := by decide +kernel
theorem dX4_isMade_34 : decode cX4_isMade 34 = .ok (.goto 4, 3) := by decide +kernel
theorem dX4_isMade_37 : decode cX4_isMade 37 = .ok (.iconst 0, 1) := by decide +kernel
theorem dX4_isMade_38 : decode cX4_isMade 38 = .ok (.ireturn, 1) := by decide +kernel
theorem dX4_makes_0 : decode cX4_makes 0 = .ok (.aload_n 0, 1) := by decide +kernel
theorem dX4_makes_1 : decode cX4_makes 1 = .ok (.aload_n 2, 1) := by decide +kernel
theorem dX4_makes_2 : decode cX4_makes 2 = .ok (.invokevirtual 67, 3) := by decide +kernel
theorem dX4_makes_5 : decode cX4_makes 5 = .ok (.ifCond .eq 24, 3) := by decide +kernel
theorem dX4_makes_8 : decode cX4_makes 8 = .ok (.aload_n 1, 1) := by decide +kernel
theorem dX4_makes_9 : decode cX4_makes 9 = .ok (.aload_n 2, 1) := by decide +kernel
theorem dX4_makes_10 : decode cX4_makes 10 = .ok (.aload_n 2, 1) := by decide +kernel
theorem dX4_makes_11 : decode cX4_makes 11 = .ok (.getfield 58, 3) := by decide +kernel
theorem dX4_makes_14 : decode cX4_makes 14 = .ok (.aload_n 0, 1) := by decide +kernel
theorem dX4_makes_15 : decode cX4_makes 15 = .ok (.getfield 51, 3) := by decide +kernel
theorem dX4_makes_18 : decode cX4_makes 18 = .ok (.isub, 1) := by decide +kernel
theorem dX4_makes_19 : decode cX4_makes 19 = .ok (.invokevirtual 71, 3) := by decide +kernel
theorem dX4_makes_22 : decode cX4_makes 22 = .ok (.ifCond .eq 7, 3) := by decide +kernel
theorem dX4_makes_25 : decode cX4_makes 25 = .ok (.iconst 1, 1) := by decide +kernel
theorem dX4_makes_26 : decode cX4_makes 26 = .ok (.goto 4, 3) := by decide +kernel
theorem dX4_makes_29 : decode cX4_makes 29 = .ok (.iconst 0, 1) := by decide +kernel
theorem dX4_makes_30 : decode cX4_makes 30 = .ok (.ireturn, 1) := by decide +kernel
theorem dX5_init_0 : decode cX5_init 0 = .ok (.aload_n 0, 1) := by decide +kernel
theorem dX5_init_1 : decode cX5_init 1 = .ok (.invokespecial 3, 3) := by decide +kernel
theorem dX5_init_4 : decode cX5_init 4 = .ok (.aload_n 0, 1) := by decide +kernel
theorem dX5_init_5 : decode cX5_init 5 = .ok (.iconst 0, 1) := by decide +kernel
theorem dX5_init_6 : decode cX5_init 6 = .ok (.newarray .byte, 2) := by decide +kernel
theorem dX5_init_8 : decode cX5_init 8 = .ok (.putfield 9, 3) := by decide +kernel
theorem dX5_init_11 : decode cX5_init 11 = .ok (.aload_n 0, 1) := by decide +kernel
theorem dX5_init_12 : decode cX5_init 12 = .ok (.iconst 0, 1) := by decide +kernel
theorem dX5_init_13 : decode cX5_init 13 = .ok (.putfield 15, 3) := by decide +kernel
theorem dX5_init_16 : decode cX5_init 16 = .ok (.aload_n 0, 1) := by decide +kernel
theorem dX5_init_17 : decode cX5_init 17 = .ok (.iconst 0, 1) := by decide +kernel
theorem dX5_init_18 : decode cX5_init 18 = .ok (.putfield 19, 3) := by decide +kernel
theorem dX5_init_21 : decode cX5_init 21 = .ok (.aload_n 0, 1) := by decide +kernel
theorem dX5_init_22 : decode cX5_init 22 = .ok (.iconst 0, 1) := by decide +kernel
theorem dX5_init_23 : decode cX5_init 23 = .ok (.putfield 22, 3) := by decide +kernel
theorem dX5_init_26 : decode cX5_init 26 = .ok (.aload_n 0, 1) := by decide +kernel
theorem dX5_init_27 : decode cX5_init 27 = .ok (.iconst (-1), 1) := by decide +kernel
theorem dX5_init_28 : decode cX5_init 28 = .ok (.putfield 25, 3) := by decide +kernel
theorem dX5_init_31 : decode cX5_init 31 = .ok (.return_, 1) := by decide +kernel
theorem dX5_readInto_0 : decode cX5_readInto 0 = .ok (.aload_n 0, 1) := by decide +kernel
theorem dX5_readInto_1 : decode cX5_readInto 1 = .ok (.aload_n 2, 1) := by decide +kernel
theorem dX5_readInto_2 : decode cX5_readInto 2 = .ok (.putfield 9, 3) := by decide +kernel
theorem dX5_readInto_5 : decode cX5_readInto 5 = .ok (.aload_n 0, 1) := by decide +kernel
theorem dX5_readInto_6 : decode cX5_readInto 6 = .ok (.iload_n 3, 1) := by decide +kernel
theorem dX5_readInto_7 : decode cX5_readInto 7 = .ok (.aload_n 2, 1) := by decide +kernel
theorem dX5_readInto_8 : decode cX5_readInto 8 = .ok (.arraylength, 1) := by decide +kernel
theorem dX5_readInto_9 : decode cX5_readInto 9 = .ok (.invokestatic 28, 3) := by decide +kernel
theorem dX5_readInto_12 : decode cX5_readInto 12 = .ok (.putfield 15, 3) := by decide +kernel
theorem dX5_readInto_15 : decode cX5_readInto 15 = .ok (.aload_n 0, 1) := by decide +kernel
theorem dX5_readInto_16 : decode cX5_readInto 16 = .ok (.iconst 0, 1) := by decide +kernel
theorem dX5_readInto_17 : decode cX5_readInto 17 = .ok (.putfield 19, 3) := by decide +kernel
theorem dX5_readInto_20 : decode cX5_readInto 20 = .ok (.aload_n 0, 1) := by decide +kernel
theorem dX5_readInto_21 : decode cX5_readInto 21 = .ok (.iconst 0, 1) := by decide +kernel
theorem dX5_readInto_22 : decode cX5_readInto 22 = .ok (.putfield 22, 3) := by decide +kernel
theorem dX5_readInto_25 : decode cX5_readInto 25 = .ok (.aload_n 0, 1) := by decide +kernel
theorem dX5_readInto_26 : decode cX5_readInto 26 = .ok (.iconst (-1), 1) := by decide +kernel
theorem dX5_readInto_27 : decode cX5_readInto 27 = .ok (.putfield 25, 3) := by decide +kernel
theorem dX5_readInto_30 : decode cX5_readInto 30 = .ok (.aload_n 0, 1) := by decide +kernel
theorem dX5_readInto_31 : decode cX5_readInto 31 = .ok (.aload_n 1, 1) := by decide +kernel
theorem dX5_readInto_32 : decode cX5_readInto 32 = .ok (.invokevirtual 34, 3) := by decide +kernel
theorem dX5_readInto_35 : decode cX5_readInto 35 = .ok (.ifCond .ne 5, 3) := by decide +kernel
theorem dX5_readInto_38 : decode cX5_readInto 38 = .ok (.iconst 0, 1) := by decide +kernel
theorem dX5_readInto_39 : decode cX5_readInto 39 = .ok (.ireturn, 1) := by decide +kernel
theorem dX5_readInto_40 : decode cX5_readInto 40 = .ok (.aload_n 1, 1) := by decide +kernel
theorem dX5_readInto_41 : decode cX5_readInto 41 = .ok (.aload_n 0, 1) := by decide +kernel
theorem dX5_readInto_42 : decode cX5_readInto 42 = .ok (.aload_n 1, 1) := by decide +kernel
theorem dX5_readInto_43 : decode cX5_readInto 43 = .ok (.getfield 38, 3) := by decide +kernel
theorem dX5_readInto_46 : decode cX5_readInto 46 = .ok (.invokevirtual 44, 3) := by decide +kernel
theorem dX5_readInto_49 : decode cX5_readInto 49 = .ok (.putfield 48, 3) := by decide +kernel
theorem dX5_readInto_52 : decode cX5_readInto 52 = .ok (.aload_n 1, 1) := by decide +kernel
theorem dX5_readInto_53 : decode cX5_readInto 53 = .ok (.getfield 48, 3) := by decide +kernel
theorem dX5_readInto_56 : decode cX5_readInto 56 = .ok (.iconst (-1), 1) := by decide +kernel
theorem dX5_readInto_57 : decode cX5_readInto 57 = .ok (.if_icmp .ne 5, 3) := by decide +kernel
theorem dX5_readInto_60 : decode cX5_readInto 60 = .ok (.iconst 0, 1) := by decide +kernel
theorem dX5_readInto_61 : decode cX5_readInto 61 = .ok (.ireturn, 1) := by decide +kernel
theorem dX5_readInto_62 : decode cX5_readInto 62 = .ok (.aload_n 1, 1) := by decide +kernel
theorem dX5_readInto_63 : decode cX5_readInto 63 = .ok (.aload_n 0, 1) := by decide +kernel
theorem dX5_readInto_64 : decode cX5_readInto 64 = .ok (.aload_n 1, 1) := by decide +kernel
theorem dX5_readInto_65 : decode cX5_readInto 65 = .ok (.getfield 51, 3) := by decide +kernel
theorem dX5_readInto_68 : decode cX5_readInto 68 = .ok (.invokevirtual 44, 3) := by decide +kernel
theorem dX5_readInto_71 : decode cX5_readInto 71 = .ok (.putfield 54, 3) := by decide +kernel
theorem dX5_readInto_74 : decode cX5_readInto 74 = .ok (.aload_n 1, 1) := by decide +kernel
theorem dX5_readInto_75 : decode cX5_readInto 75 = .ok (.getfield 54, 3) := by decide +kernel
theorem dX5_readInto_78 : decode cX5_readInto 78 = .ok (.iconst (-1), 1) := by decide +kernel
theorem dX5_readInto_79 : decode cX5_readInto 79 = .ok (.if_icmp .ne 5, 3) := by decide +kernel
theorem dX5_readInto_82 : decode cX5_readInto 82 = .ok (.iconst 0, 1) := by decide +kernel
theorem dX5_readInto_83 : decode cX5_readInto 83 = .ok (.ireturn, 1) := by decide +kernel
theorem dX5_readInto_84 : decode cX5_readInto 84 = .ok (.aload_n 0, 1) := by decide +kernel
theorem dX5_readInto_85 : decode cX5_readInto 85 = .ok (.aload_n 1, 1) := by decide +kernel
theorem dX5_readInto_86 : decode cX5_readInto 86 = .ok (.invokevirtual 57, 3) := by decide +kernel
theorem dX5_readInto_89 : decode cX5_readInto 89 = .ok (.ifCond .eq 12, 3) := by decide +kernel
theorem dX5_readInto_92 : decode cX5_readInto 92 = .ok (.aload_n 0, 1) := by decide +kernel
theorem dX5_readInto_93 : decode cX5_readInto 93 = .ok (.bipush 46, 2) := by decide +kernel
theorem dX5_readInto_95 : decode cX5_readInto 95 = .ok (.invokevirtual 60, 3) := by decide +kernel
theorem dX5_readInto_98 : decode cX5_readInto 98 = .ok (.ifCond .ne 5, 3) := by decide +kernel
theorem dX5_readInto_101 : decode cX5_readInto 101 = .ok (.iconst 0, 1) := by decide +kernel
theorem dX5_readInto_102 : decode cX5_readInto 102 = .ok (.ireturn, 1) := by decide +kernel
theorem dX5_readInto_103 : decode cX5_readInto 103 = .ok (.aload_n 0, 1) := by decide +kernel
theorem dX5_readInto_104 : decode cX5_readInto 104 = .ok (.getfield 19, 3) := by decide +kernel
theorem dX5_readInto_107 : decode cX5_readInto 107 = .ok (.aload_n 0, 1) := by decide +kernel
theorem dX5_readInto_108 : decode cX5_readInto 108 = .ok (.getfield 15, 3) := by decide +kernel
theorem dX5_readInto_111 : decode cX5_readInto 111 = .ok (.if_icmp .ge 9, 3) := by decide +kernel
theorem dX5_readInto_114 : decode cX5_readInto 114 = .ok (.aload_n 0, 1) := by decide +kernel
theorem dX5_readInto_115 : decode cX5_readInto 115 = .ok (.iconst 1, 1) := by decide +kernel
theorem dX5_readInto_116 : decode cX5_readInto 116 = .ok (.invokevirtual 64, 3) := by decide +kernel
theorem dX5_readInto_119 : decode cX5_readInto 119 = .ok (.ireturn, 1) := by decide +kernel
theorem dX5_readInto_120 : decode cX5_readInto 120 = .ok (.aload_n 1, 1) := by decide +kernel
theorem dX5_readInto_121 : decode cX5_readInto 121 = .ok (.invokevirtual 68, 3) := by decide +kernel
theorem dX5_readInto_124 : decode cX5_readInto 124 = .ok (.iconst 1, 1) := by decide +kernel
theorem dX5_readInto_125 : decode cX5_readInto 125 = .ok (.ireturn, 1) := by decide +kernel
theorem dX5_here_0 : decode cX5_here 0 = .ok (.aload_n 0, 1) := by decide +kernel
theorem dX5_here_1 : decode cX5_here 1 = .ok (.getfield 19, 3) := by decide +kernel
theorem dX5_here_4 : decode cX5_here 4 = .ok (.ifCond .lt 30, 3) := by decide +kernel
theorem dX5_here_7 : decode cX5_here 7 = .ok (.aload_n 0, 1) := by decide +kernel
theorem dX5_here_8 : decode cX5_here 8 = .ok (.getfield 19, 3) := by decide +kernel
theorem dX5_here_11 : decode cX5_here 11 = .ok (.aload_n 0, 1) := by decide +kernel
theorem dX5_here_12 : decode cX5_here 12 = .ok (.getfield 15, 3) := by decide +kernel
theorem dX5_here_15 : decode cX5_here 15 = .ok (.if_icmp .ge 19, 3) := by decide +kernel
theorem dX5_here_18 : decode cX5_here 18 = .ok (.aload_n 0, 1) := by decide +kernel
theorem dX5_here_19 : decode cX5_here 19 = .ok (.getfield 9, 3) := by decide +kernel
theorem dX5_here_22 : decode cX5_here 22 = .ok (.aload_n 0, 1) := by decide +kernel
theorem dX5_here_23 : decode cX5_here 23 = .ok (.getfield 19, 3) := by decide +kernel
theorem dX5_here_26 : decode cX5_here 26 = .ok (.baload, 1) := by decide +kernel
theorem dX5_here_27 : decode cX5_here 27 = .ok (.sipush 255, 3) := by decide +kernel
theorem dX5_here_30 : decode cX5_here 30 = .ok (.iand, 1) := by decide +kernel
theorem dX5_here_31 : decode cX5_here 31 = .ok (.goto 4, 3) := by decide +kernel
theorem dX5_here_34 : decode cX5_here 34 = .ok (.iconst (-1), 1) := by decide +kernel
theorem dX5_here_35 : decode cX5_here 35 = .ok (.ireturn, 1) := by decide +kernel
theorem dX5_kindHere_0 : decode cX5_kindHere 0 = .ok (.aload_n 0, 1) := by decide +kernel
theorem dX5_kindHere_1 : decode cX5_kindHere 1 = .ok (.invokevirtual 71, 3) := by decide +kernel
theorem dX5_kindHere_4 : decode cX5_kindHere 4 = .ok (.istore_n 1, 1) := by decide +kernel
theorem dX5_kindHere_5 : decode cX5_kindHere 5 = .ok (.iload_n 1, 1) := by decide +kernel
theorem dX5_kindHere_6 : decode cX5_kindHere 6 = .ok (.iconst (-1), 1) := by decide +kernel
theorem dX5_kindHere_7 : decode cX5_kindHere 7 = .ok (.if_icmp .ne 7, 3) := by decide +kernel
theorem dX5_kindHere_10 : decode cX5_kindHere 10 = .ok (.iconst (-1), 1) := by decide +kernel
theorem dX5_kindHere_11 : decode cX5_kindHere 11 = .ok (.goto 10, 3) := by decide +kernel
theorem dX5_kindHere_14 : decode cX5_kindHere 14 = .ok (.ldc 75, 2) := by decide +kernel
theorem dX5_kindHere_16 : decode cX5_kindHere 16 = .ok (.iload_n 1, 1) := by decide +kernel
theorem dX5_kindHere_17 : decode cX5_kindHere 17 = .ok (.i2c, 1) := by decide +kernel
theorem dX5_kindHere_18 : decode cX5_kindHere 18 = .ok (.invokevirtual 77, 3) := by decide +kernel
theorem dX5_kindHere_21 : decode cX5_kindHere 21 = .ok (.ireturn, 1) := by decide +kernel
theorem dX5_stopWith_0 : decode cX5_stopWith 0 = .ok (.aload_n 0, 1) := by decide +kernel
theorem dX5_stopWith_1 : decode cX5_stopWith 1 = .ok (.iload_n 1, 1) := by decide +kernel
theorem dX5_stopWith_2 : decode cX5_stopWith 2 = .ok (.putfield 22, 3) := by decide +kernel
theorem dX5_stopWith_5 : decode cX5_stopWith 5 = .ok (.aload_n 0, 1) := by decide +kernel
theorem dX5_stopWith_6 : decode cX5_stopWith 6 = .ok (.aload_n 0, 1) := by decide +kernel
theorem dX5_stopWith_7 : decode cX5_stopWith 7 = .ok (.getfield 19, 3) := by decide +kernel
theorem dX5_stopWith_10 : decode cX5_stopWith 10 = .ok (.putfield 25, 3) := by decide +kernel
theorem dX5_stopWith_13 : decode cX5_stopWith 13 = .ok (.iconst 0, 1) := by decide +kernel
theorem dX5_stopWith_14 : decode cX5_stopWith 14 = .ok (.ireturn, 1) := by decide +kernel
theorem dX5_pass_0 : decode cX5_pass 0 = .ok (.aload_n 0, 1) := by decide +kernel
theorem dX5_pass_1 : decode cX5_pass 1 = .ok (.invokevirtual 71, 3) := by decide +kernel
theorem dX5_pass_4 : decode cX5_pass 4 = .ok (.iload_n 1, 1) := by decide +kernel
theorem dX5_pass_5 : decode cX5_pass 5 = .ok (.if_icmp .eq 9, 3) := by decide +kernel
theorem dX5_pass_8 : decode cX5_pass 8 = .ok (.aload_n 0, 1) := by decide +kernel
theorem dX5_pass_9 : decode cX5_pass 9 = .ok (.iconst 1, 1) := by decide +kernel
theorem dX5_pass_10 : decode cX5_pass 10 = .ok (.invokevirtual 64, 3) := by decide +kernel
theorem dX5_pass_13 : decode cX5_pass 13 = .ok (.ireturn, 1) := by decide +kernel
theorem dX5_pass_14 : decode cX5_pass 14 = .ok (.aload_n 0, 1) := by decide +kernel
theorem dX5_pass_15 : decode cX5_pass 15 = .ok (.dup, 1) := by decide +kernel
theorem dX5_pass_16 : decode cX5_pass 16 = .ok (.getfield 19, 3) := by decide +kernel
theorem dX5_pass_19 : decode cX5_pass 19 = .ok (.iconst 1, 1) := by decide +kernel
theorem dX5_pass_20 : decode cX5_pass 20 = .ok (.iadd, 1) := by decide +kernel
theorem dX5_pass_21 : decode cX5_pass 21 = .ok (.putfield 19, 3) := by decide +kernel
theorem dX5_pass_24 : decode cX5_pass 24 = .ok (.iconst 1, 1) := by decide +kernel
theorem dX5_pass_25 : decode cX5_pass 25 = .ok (.ireturn, 1) := by decide +kernel
theorem dX5_readSlots_0 : decode cX5_readSlots 0 = .ok (.aload_n 1, 1) := by decide +kernel
theorem dX5_readSlots_1 : decode cX5_readSlots 1 = .ok (.iconst 0, 1) := by decide +kernel
theorem dX5_readSlots_2 : decode cX5_readSlots 2 = .ok (.putfield 83, 3) := by decide +kernel
theorem dX5_readSlots_5 : decode cX5_readSlots 5 = .ok (.iconst 0, 1) := by decide +kernel
theorem dX5_readSlots_6 : decode cX5_readSlots 6 = .ok (.istore_n 2, 1) := by decide +kernel
theorem dX5_readSlots_7 : decode cX5_readSlots 7 = .ok (.iload_n 2, 1) := by decide +kernel
theorem dX5_readSlots_8 : decode cX5_readSlots 8 = .ok (.bipush 8, 2) := by decide +kernel
theorem dX5_readSlots_10 : decode cX5_readSlots 10 = .ok (.if_icmp .gt 158, 3) := by decide +kernel
theorem dX5_readSlots_13 : decode cX5_readSlots 13 = .ok (.aload_n 0, 1) := by decide +kernel
theorem dX5_readSlots_14 : decode cX5_readSlots 14 = .ok (.invokevirtual 86, 3) := by decide +kernel
theorem dX5_readSlots_17 : decode cX5_readSlots 17 = .ok (.istore_n 3, 1) := by decide +kernel
theorem dX5_readSlots_18 : decode cX5_readSlots 18 = .ok (.iload_n 3, 1) := by decide +kernel
theorem dX5_readSlots_19 : decode cX5_readSlots 19 = .ok (.iconst (-1), 1) := by decide +kernel
theorem dX5_readSlots_20 : decode cX5_readSlots 20 = .ok (.if_icmp .ne 22, 3) := by decide +kernel
theorem dX5_readSlots_23 : decode cX5_readSlots 23 = .ok (.iload_n 2, 1) := by decide +kernel
theorem dX5_readSlots_24 : decode cX5_readSlots 24 = .ok (.ifCond .le 12, 3) := by decide +kernel
theorem dX5_readSlots_27 : decode cX5_readSlots 27 = .ok (.aload_n 0, 1) := by decide +kernel
theorem dX5_readSlots_28 : decode cX5_readSlots 28 = .ok (.bipush 59, 2) := by decide +kernel
theorem dX5_readSlots_30 : decode cX5_readSlots 30 = .ok (.invokevirtual 60, 3) := by decide +kernel
theorem dX5_readSlots_33 : decode cX5_readSlots 33 = .ok (.goto 8, 3) := by decide +kernel
theorem dX5_readSlots_36 : decode cX5_readSlots 36 = .ok (.aload_n 0, 1) := by decide +kernel
theorem dX5_readSlots_37 : decode cX5_readSlots 37 = .ok (.iconst 1, 1) := by decide +kernel
theorem dX5_readSlots_38 : decode cX5_readSlots 38 = .ok (.invokevirtual 64, 3) := by decide +kernel
theorem dX5_readSlots_41 : decode cX5_readSlots 41 = .ok (.ireturn, 1) := by decide +kernel
theorem dX5_readSlots_42 : decode cX5_readSlots 42 = .ok (.iload_n 2, 1) := by decide +kernel
theorem dX5_readSlots_43 : decode cX5_readSlots 43 = .ok (.bipush 8, 2) := by decide +kernel
theorem dX5_readSlots_45 : decode cX5_readSlots 45 = .ok (.if_icmp .ne 6, 3) := by decide +kernel
theorem dX5_readSlots_48 : decode cX5_readSlots 48 = .ok (.goto 120, 3) := by decide +kernel
theorem dX5_readSlots_51 : decode cX5_readSlots 51 = .ok (.aload_n 0, 1) := by decide +kernel
theorem dX5_readSlots_52 : decode cX5_readSlots 52 = .ok (.dup, 1) := by decide +kernel
theorem dX5_readSlots_53 : decode cX5_readSlots 53 = .ok (.getfield 19, 3) := by decide +kernel
theorem dX5_readSlots_56 : decode cX5_readSlots 56 = .ok (.iconst 1, 1) := by decide +kernel
theorem dX5_readSlots_57 : decode cX5_readSlots 57 = .ok (.iadd, 1) := by decide +kernel
theorem dX5_readSlots_58 : decode cX5_readSlots 58 = .ok (.putfield 19, 3) := by decide +kernel
theorem dX5_readSlots_61 : decode cX5_readSlots 61 = .ok (.aload_n 0, 1) := by decide +kernel
theorem dX5_readSlots_62 : decode cX5_readSlots 62 = .ok (.invokevirtual 71, 3) := by decide +kernel
theorem dX5_readSlots_65 : decode cX5_readSlots 65 = .ok (.istore 4, 2) := by decide +kernel
theorem dX5_readSlots_67 : decode cX5_readSlots 67 = .ok (.aload_n 1, 1) := by decide +kernel
theorem dX5_readSlots_68 : decode cX5_readSlots 68 = .ok (.getfield 89, 3) := by decide +kernel
theorem dX5_readSlots_71 : decode cX5_readSlots 71 = .ok (.iload_n 2, 1) := by decide +kernel
theorem dX5_readSlots_72 : decode cX5_readSlots 72 = .ok (.iload_n 3, 1) := by decide +kernel
theorem dX5_readSlots_73 : decode cX5_readSlots 73 = .ok (.iastore, 1) := by decide +kernel
theorem dX5_readSlots_74 : decode cX5_readSlots 74 = .ok (.aload_n 1, 1) := by decide +kernel
theorem dX5_readSlots_75 : decode cX5_readSlots 75 = .ok (.getfield 92, 3) := by decide +kernel
theorem dX5_readSlots_78 : decode cX5_readSlots 78 = .ok (.iload_n 2, 1) := by decide +kernel
theorem dX5_readSlots_79 : decode cX5_readSlots 79 = .ok (.iload 4, 2) := by decide +kernel
theorem dX5_readSlots_81 : decode cX5_readSlots 81 = .ok (.bipush 63, 2) := by decide +kernel
theorem dX5_readSlots_83 : decode cX5_readSlots 83 = .ok (.if_icmp .eq 10, 3) := by decide +kernel
theorem dX5_readSlots_86 : decode cX5_readSlots 86 = .ok (.iload 4, 2) := by decide +kernel
theorem dX5_readSlots_88 : decode cX5_readSlots 88 = .ok (.bipush 42, 2) := by decide +kernel
theorem dX5_readSlots_90 : decode cX5_readSlots 90 = .ok (.if_icmp .ne 7, 3) := by decide +kernel
theorem dX5_readSlots_93 : decode cX5_readSlots 93 = .ok (.iconst 1, 1) := by decide +kernel
theorem dX5_readSlots_94 : decode cX5_readSlots 94 = .ok (.goto 4, 3) := by decide +kernel
theorem dX5_readSlots_97 : decode cX5_readSlots 97 = .ok (.iconst 0, 1) := by decide +kernel
theorem dX5_readSlots_98 : decode cX5_readSlots 98 = .ok (.bastore, 1) := by decide +kernel
theorem dX5_readSlots_99 : decode cX5_readSlots 99 = .ok (.aload_n 1, 1) := by decide +kernel
theorem dX5_readSlots_100 : decode cX5_readSlots 100 = .ok (.getfield 96, 3) := by decide +kernel
theorem dX5_readSlots_103 : decode cX5_readSlots 103 = .ok (.iload_n 2, 1) := by decide +kernel
theorem dX5_readSlots_104 : decode cX5_readSlots 104 = .ok (.iload 4, 2) := by decide +kernel
theorem dX5_readSlots_106 : decode cX5_readSlots 106 = .ok (.bipush 42, 2) := by decide +kernel
theorem dX5_readSlots_108 : decode cX5_readSlots 108 = .ok (.if_icmp .eq 10, 3) := by decide +kernel
theorem dX5_readSlots_111 : decode cX5_readSlots 111 = .ok (.iload 4, 2) := by decide +kernel
theorem dX5_readSlots_113 : decode cX5_readSlots 113 = .ok (.bipush 43, 2) := by decide +kernel
theorem dX5_readSlots_115 : decode cX5_readSlots 115 = .ok (.if_icmp .ne 7, 3) := by decide +kernel
theorem dX5_readSlots_118 : decode cX5_readSlots 118 = .ok (.iconst 1, 1) := by decide +kernel
theorem dX5_readSlots_119 : decode cX5_readSlots 119 = .ok (.goto 4, 3) := by decide +kernel
theorem dX5_readSlots_122 : decode cX5_readSlots 122 = .ok (.iconst 0, 1) := by decide +kernel
theorem dX5_readSlots_123 : decode cX5_readSlots 123 = .ok (.bastore, 1) := by decide +kernel
theorem dX5_readSlots_124 : decode cX5_readSlots 124 = .ok (.aload_n 1, 1) := by decide +kernel
theorem dX5_readSlots_125 : decode cX5_readSlots 125 = .ok (.dup, 1) := by decide +kernel
theorem dX5_readSlots_126 : decode cX5_readSlots 126 = .ok (.getfield 83, 3) := by decide +kernel
theorem dX5_readSlots_129 : decode cX5_readSlots 129 = .ok (.iconst 1, 1) := by decide +kernel
theorem dX5_readSlots_130 : decode cX5_readSlots 130 = .ok (.iadd, 1) := by decide +kernel
theorem dX5_readSlots_131 : decode cX5_readSlots 131 = .ok (.putfield 83, 3) := by decide +kernel
theorem dX5_readSlots_134 : decode cX5_readSlots 134 = .ok (.aload_n 1, 1) := by decide +kernel
theorem dX5_readSlots_135 : decode cX5_readSlots 135 = .ok (.getfield 92, 3) := by decide +kernel
theorem dX5_readSlots_138 : decode cX5_readSlots 138 = .ok (.iload_n 2, 1) := by decide +kernel
theorem dX5_readSlots_139 : decode cX5_readSlots 139 = .ok (.baload, 1) := by decide +kernel
theorem dX5_readSlots_140 : decode cX5_readSlots 140 = .ok (.ifCond .ne 12, 3) := by decide +kernel
theorem dX5_readSlots_143 : decode cX5_readSlots 143 = .ok (.aload_n 1, 1) := by decide +kernel
theorem dX5_readSlots_144 : decode cX5_readSlots 144 = .ok (.getfield 96, 3) := by decide +kernel
theorem dX5_readSlots_147 : decode cX5_readSlots 147 = .ok (.iload_n 2, 1) := by decide +kernel
theorem dX5_readSlots_148 : decode cX5_readSlots 148 = .ok (.baload, 1) := by decide +kernel
theorem dX5_readSlots_149 : decode cX5_readSlots 149 = .ok (.ifCond .eq 13, 3) := by decide +kernel
theorem dX5_readSlots_152 : decode cX5_readSlots 152 = .ok (.aload_n 0, 1) := by decide +kernel
theorem dX5_readSlots_153 : decode cX5_readSlots 153 = .ok (.dup, 1) := by decide +kernel
theorem dX5_readSlots_154 : decode cX5_readSlots 154 = .ok (.getfield 19, 3) := by decide +kernel
theorem dX5_readSlots_157 : decode cX5_readSlots 157 = .ok (.iconst 1, 1) := by decide +kernel
theorem dX5_readSlots_158 : decode cX5_readSlots 158 = .ok (.iadd, 1) := by decide +kernel
theorem dX5_readSlots_159 : decode cX5_readSlots 159 = .ok (.putfield 19, 3) := by decide +kernel
theorem dX5_readSlots_162 : decode cX5_readSlots 162 = .ok (.iinc 2 1, 3) := by decide +kernel
theorem dX5_readSlots_165 : decode cX5_readSlots 165 = .ok (.goto (-158), 3) := by decide +kernel
theorem dX5_readSlots_168 : decode cX5_readSlots 168 = .ok (.aload_n 0, 1) := by decide +kernel
theorem dX5_readSlots_169 : decode cX5_readSlots 169 = .ok (.iconst 2, 1) := by decide +kernel
theorem dX5_readSlots_170 : decode cX5_readSlots 170 = .ok (.invokevirtual 64, 3) := by decide +kernel
theorem dX5_readSlots_173 : decode cX5_readSlots 173 = .ok (.ireturn, 1) := by decide +kernel
theorem dX5_readLetters_0 : decode cX5_readLetters 0 = .ok (.iconst 0, 1) := by decide +kernel
theorem dX5_readLetters_1 : decode cX5_readLetters 1 = .ok (.istore_n 2, 1) := by decide +kernel
theorem dX5_readLetters_2 : decode cX5_readLetters 2 = .ok (.iconst 0, 1) := by decide +kernel
theorem dX5_readLetters_3 : decode cX5_readLetters 3 = .ok (.istore_n 3, 1) := by decide +kernel
theorem dX5_readLetters_4 : decode cX5_readLetters 4 = .ok (.iload_n 3, 1) := by decide +kernel
theorem dX5_readLetters_5 : decode cX5_readLetters 5 = .ok (.aload_n 1, 1) := by decide +kernel
theorem dX5_readLetters_6 : decode cX5_readLetters 6 = .ok (.arraylength, 1) := by decide +kernel
theorem dX5_readLetters_7 : decode cX5_readLetters 7 = .ok (.iconst 1, 1) := by decide +kernel
theorem dX5_readLetters_8 : decode cX5_readLetters 8 = .ok (.iadd, 1) := by decide +kernel
theorem dX5_readLetters_9 : decode cX5_readLetters 9 = .ok (.if_icmp .ge 92, 3) := by decide +kernel
theorem dX5_readLetters_12 : decode cX5_readLetters 12 = .ok (.aload_n 0, 1) := by decide +kernel
theorem dX5_readLetters_13 : decode cX5_readLetters 13 = .ok (.invokevirtual 86, 3) := by decide +kernel
theorem dX5_readLetters_16 : decode cX5_readLetters 16 = .ok (.istore 4, 2) := by decide +kernel
theorem dX5_readLetters_18 : decode cX5_readLetters 18 = .ok (.iload 4, 2) := by decide +kernel
theorem dX5_readLetters_20 : decode cX5_readLetters 20 = .ok (.iconst (-1), 1) := by decide +kernel
theorem dX5_readLetters_21 : decode cX5_readLetters 21 = .ok (.if_icmp .ne 34, 3) := by decide +kernel
theorem dX5_readLetters_24 : decode cX5_readLetters 24 = .ok (.iload_n 3, 1) := by decide +kernel
theorem dX5_readLetters_25 : decode cX5_readLetters 25 = .ok (.ifCond .le 12, 3) := by decide +kernel
theorem dX5_readLetters_28 : decode cX5_readLetters 28 = .ok (.aload_n 0, 1) := by decide +kernel
theorem dX5_readLetters_29 : decode cX5_readLetters 29 = .ok (.bipush 59, 2) := by decide +kernel
theorem dX5_readLetters_31 : decode cX5_readLetters 31 = .ok (.invokevirtual 60, 3) := by decide +kernel
theorem dX5_readLetters_34 : decode cX5_readLetters 34 = .ok (.goto 8, 3) := by decide +kernel
theorem dX5_readLetters_37 : decode cX5_readLetters 37 = .ok (.aload_n 0, 1) := by decide +kernel
theorem dX5_readLetters_38 : decode cX5_readLetters 38 = .ok (.iconst 1, 1) := by decide +kernel
theorem dX5_readLetters_39 : decode cX5_readLetters 39 = .ok (.invokevirtual 64, 3) := by decide +kernel
theorem dX5_readLetters_42 : decode cX5_readLetters 42 = .ok (.istore 5, 2) := by decide +kernel
theorem dX5_readLetters_44 : decode cX5_readLetters 44 = .ok (.iload 5, 2) := by decide +kernel
theorem dX5_readLetters_46 : decode cX5_readLetters 46 = .ok (.ifCond .eq 7, 3) := by decide +kernel
theorem dX5_readLetters_49 : decode cX5_readLetters 49 = .ok (.iload_n 3, 1) := by decide +kernel
theorem dX5_readLetters_50 : decode cX5_readLetters 50 = .ok (.goto 4, 3) := by decide +kernel
theorem dX5_readLetters_53 : decode cX5_readLetters 53 = .ok (.iconst (-1), 1) := by decide +kernel
theorem dX5_readLetters_54 : decode cX5_readLetters 54 = .ok (.ireturn, 1) := by decide +kernel
theorem dX5_readLetters_55 : decode cX5_readLetters 55 = .ok (.iload_n 2, 1) := by decide +kernel
theorem dX5_readLetters_56 : decode cX5_readLetters 56 = .ok (.iload 4, 2) := by decide +kernel
theorem dX5_readLetters_58 : decode cX5_readLetters 58 = .ok (.ishr, 1) := by decide +kernel
theorem dX5_readLetters_59 : decode cX5_readLetters 59 = .ok (.iconst 1, 1) := by decide +kernel
theorem dX5_readLetters_60 : decode cX5_readLetters 60 = .ok (.iand, 1) := by decide +kernel
theorem dX5_readLetters_61 : decode cX5_readLetters 61 = .ok (.ifCond .ne 40, 3) := by decide +kernel
theorem dX5_readLetters_64 : decode cX5_readLetters 64 = .ok (.iload_n 3, 1) := by decide +kernel
theorem dX5_readLetters_65 : decode cX5_readLetters 65 = .ok (.aload_n 1, 1) := by decide +kernel
theorem dX5_readLetters_66 : decode cX5_readLetters 66 = .ok (.arraylength, 1) := by decide +kernel
theorem dX5_readLetters_67 : decode cX5_readLetters 67 = .ok (.if_icmp .lt 6, 3) := by decide +kernel
theorem dX5_readLetters_70 : decode cX5_readLetters 70 = .ok (.goto 31, 3) := by decide +kernel
theorem dX5_readLetters_73 : decode cX5_readLetters 73 = .ok (.iload_n 2, 1) := by decide +kernel
theorem dX5_readLetters_74 : decode cX5_readLetters 74 = .ok (.iconst 1, 1) := by decide +kernel
theorem dX5_readLetters_75 : decode cX5_readLetters 75 = .ok (.iload 4, 2) := by decide +kernel
theorem dX5_readLetters_77 : decode cX5_readLetters 77 = .ok (.ishl, 1) := by decide +kernel
theorem dX5_readLetters_78 : decode cX5_readLetters 78 = .ok (.ior, 1) := by decide +kernel
theorem dX5_readLetters_79 : decode cX5_readLetters 79 = .ok (.istore_n 2, 1) := by decide +kernel
theorem dX5_readLetters_80 : decode cX5_readLetters 80 = .ok (.aload_n 1, 1) := by decide +kernel
theorem dX5_readLetters_81 : decode cX5_readLetters 81 = .ok (.iload_n 3, 1) := by decide +kernel
theorem dX5_readLetters_82 : decode cX5_readLetters 82 = .ok (.iload 4, 2) := by decide +kernel
theorem dX5_readLetters_84 : decode cX5_readLetters 84 = .ok (.iastore, 1) := by decide +kernel
theorem dX5_readLetters_85 : decode cX5_readLetters 85 = .ok (.aload_n 0, 1) := by decide +kernel
theorem dX5_readLetters_86 : decode cX5_readLetters 86 = .ok (.dup, 1) := by decide +kernel
theorem dX5_readLetters_87 : decode cX5_readLetters 87 = .ok (.getfield 19, 3) := by decide +kernel
theorem dX5_readLetters_90 : decode cX5_readLetters 90 = .ok (.iconst 1, 1) := by decide +kernel
theorem dX5_readLetters_91 : decode cX5_readLetters 91 = .ok (.iadd, 1) := by decide +kernel
theorem dX5_readLetters_92 : decode cX5_readLetters 92 = .ok (.putfield 19, 3) := by decide +kernel
theorem dX5_readLetters_95 : decode cX5_readLetters 95 = .ok (.iinc 3 1, 3) := by decide +kernel
theorem dX5_readLetters_98 : decode cX5_readLetters 98 = .ok (.goto (-94), 3) := by decide +kernel
theorem dX5_readLetters_101 : decode cX5_readLetters 101 = .ok (.aload_n 0, 1) := by decide +kernel
theorem dX5_readLetters_102 : decode cX5_readLetters 102 = .ok (.iconst 3, 1) := by decide +kernel
theorem dX5_readLetters_103 : decode cX5_readLetters 103 = .ok (.invokevirtual 64, 3) := by decide +kernel
theorem dX5_readLetters_106 : decode cX5_readLetters 106 = .ok (.pop, 1) := by decide +kernel
theorem dX5_readLetters_107 : decode cX5_readLetters 107 = .ok (.iconst (-1), 1) := by decide +kernel
theorem dX5_readLetters_108 : decode cX5_readLetters 108 = .ok (.ireturn, 1) := by decide +kernel
theorem dX5_readEnding_0 : decode cX5_readEnding 0 = .ok (.aload_n 1, 1) := by decide +kernel
theorem dX5_readEnding_1 : decode cX5_readEnding 1 = .ok (.iconst 0, 1) := by decide +kernel
theorem dX5_readEnding_2 : decode cX5_readEnding 2 = .ok (.putfield 99, 3) := by decide +kernel
theorem dX5_readEnding_5 : decode cX5_readEnding 5 = .ok (.aload_n 0, 1) := by decide +kernel
theorem dX5_readEnding_6 : decode cX5_readEnding 6 = .ok (.invokevirtual 71, 3) := by decide +kernel
theorem dX5_readEnding_9 : decode cX5_readEnding 9 = .ok (.bipush 45, 2) := by decide +kernel
theorem dX5_readEnding_11 : decode cX5_readEnding 11 = .ok (.if_icmp .ne 15, 3) := by decide +kernel
theorem dX5_readEnding_14 : decode cX5_readEnding 14 = .ok (.aload_n 0, 1) := by decide +kernel
theorem dX5_readEnding_15 : decode cX5_readEnding 15 = .ok (.dup, 1) := by decide +kernel
theorem dX5_readEnding_16 : decode cX5_readEnding 16 = .ok (.getfield 19, 3) := by decide +kernel
theorem dX5_readEnding_19 : decode cX5_readEnding 19 = .ok (.iconst 1, 1) := by decide +kernel
theorem dX5_readEnding_20 : decode cX5_readEnding 20 = .ok (.iadd, 1) := by decide +kernel
theorem dX5_readEnding_21 : decode cX5_readEnding 21 = .ok (.putfield 19, 3) := by decide +kernel
theorem dX5_readEnding_24 : decode cX5_readEnding 24 = .ok (.iconst 1, 1) := by decide +kernel
theorem dX5_readEnding_25 : decode cX5_readEnding 25 = .ok (.ireturn, 1) := by decide +kernel
theorem dX5_readEnding_26 : decode cX5_readEnding 26 = .ok (.iconst 0, 1) := by decide +kernel
theorem dX5_readEnding_27 : decode cX5_readEnding 27 = .ok (.istore_n 2, 1) := by decide +kernel
theorem dX5_readEnding_28 : decode cX5_readEnding 28 = .ok (.iload_n 2, 1) := by decide +kernel
theorem dX5_readEnding_29 : decode cX5_readEnding 29 = .ok (.bipush 6, 2) := by decide +kernel
theorem dX5_readEnding_31 : decode cX5_readEnding 31 = .ok (.if_icmp .ge 68, 3) := by decide +kernel
theorem dX5_readEnding_34 : decode cX5_readEnding 34 = .ok (.aload_n 0, 1) := by decide +kernel
theorem dX5_readEnding_35 : decode cX5_readEnding 35 = .ok (.invokevirtual 71, 3) := by decide +kernel
theorem dX5_readEnding_38 : decode cX5_readEnding 38 = .ok (.invokestatic 102, 3) := by decide +kernel
theorem dX5_readEnding_41 : decode cX5_readEnding 41 = .ok (.ifCond .ne 21, 3) := by decide +kernel
theorem dX5_readEnding_44 : decode cX5_readEnding 44 = .ok (.iload_n 2, 1) := by decide +kernel
theorem dX5_readEnding_45 : decode cX5_readEnding 45 = .ok (.ifCond .gt 11, 3) := by decide +kernel
theorem dX5_readEnding_48 : decode cX5_readEnding 48 = .ok (.aload_n 0, 1) := by decide +kernel
theorem dX5_readEnding_49 : decode cX5_readEnding 49 = .ok (.iconst 1, 1) := by decide +kernel
theorem dX5_readEnding_50 : decode cX5_readEnding 50 = .ok (.invokevirtual 64, 3) := by decide +kernel
theorem dX5_readEnding_53 : decode cX5_readEnding 53 = .ok (.ifCond .eq 7, 3) := by decide +kernel
theorem dX5_readEnding_56 : decode cX5_readEnding 56 = .ok (.iconst 1, 1) := by decide +kernel
theorem dX5_readEnding_57 : decode cX5_readEnding 57 = .ok (.goto 4, 3) := by decide +kernel
theorem dX5_readEnding_60 : decode cX5_readEnding 60 = .ok (.iconst 0, 1) := by decide +kernel
theorem dX5_readEnding_61 : decode cX5_readEnding 61 = .ok (.ireturn, 1) := by decide +kernel
theorem dX5_readEnding_62 : decode cX5_readEnding 62 = .ok (.aload_n 1, 1) := by decide +kernel
theorem dX5_readEnding_63 : decode cX5_readEnding 63 = .ok (.getfield 105, 3) := by decide +kernel
theorem dX5_readEnding_66 : decode cX5_readEnding 66 = .ok (.iload_n 2, 1) := by decide +kernel
theorem dX5_readEnding_67 : decode cX5_readEnding 67 = .ok (.aload_n 0, 1) := by decide +kernel
theorem dX5_readEnding_68 : decode cX5_readEnding 68 = .ok (.invokevirtual 71, 3) := by decide +kernel
theorem dX5_readEnding_71 : decode cX5_readEnding 71 = .ok (.i2b, 1) := by decide +kernel
theorem dX5_readEnding_72 : decode cX5_readEnding 72 = .ok (.bastore, 1) := by decide +kernel
theorem dX5_readEnding_73 : decode cX5_readEnding 73 = .ok (.aload_n 1, 1) := by decide +kernel
theorem dX5_readEnding_74 : decode cX5_readEnding 74 = .ok (.dup, 1) := by decide +kernel
theorem dX5_readEnding_75 : decode cX5_readEnding 75 = .ok (.getfield 99, 3) := by decide +kernel
theorem dX5_readEnding_78 : decode cX5_readEnding 78 = .ok (.iconst 1, 1) := by decide +kernel
theorem dX5_readEnding_79 : decode cX5_readEnding 79 = .ok (.iadd, 1) := by decide +kernel
theorem dX5_readEnding_80 : decode cX5_readEnding 80 = .ok (.putfield 99, 3) := by decide +kernel
theorem dX5_readEnding_83 : decode cX5_readEnding 83 = .ok (.aload_n 0, 1) := by decide +kernel
theorem dX5_readEnding_84 : decode cX5_readEnding 84 = .ok (.dup, 1) := by decide +kernel
theorem dX5_readEnding_85 : decode cX5_readEnding 85 = .ok (.getfield 19, 3) := by decide +kernel
theorem dX5_readEnding_88 : decode cX5_readEnding 88 = .ok (.iconst 1, 1) := by decide +kernel
theorem dX5_readEnding_89 : decode cX5_readEnding 89 = .ok (.iadd, 1) := by decide +kernel
theorem dX5_readEnding_90 : decode cX5_readEnding 90 = .ok (.putfield 19, 3) := by decide +kernel
theorem dX5_readEnding_93 : decode cX5_readEnding 93 = .ok (.iinc 2 1, 3) := by decide +kernel
theorem dX5_readEnding_96 : decode cX5_readEnding 96 = .ok (.goto (-68), 3) := by decide +kernel
theorem dX5_readEnding_99 : decode cX5_readEnding 99 = .ok (.aload_n 0, 1) := by decide +kernel
theorem dX5_readEnding_100 : decode cX5_readEnding 100 = .ok (.invokevirtual 71, 3) := by decide +kernel
theorem dX5_readEnding_103 : decode cX5_readEnding 103 = .ok (.invokestatic 102, 3) := by decide +kernel
theorem dX5_readEnding_106 : decode cX5_readEnding 106 = .ok (.ifCond .eq 11, 3) := by decide +kernel
theorem dX5_readEnding_109 : decode cX5_readEnding 109 = .ok (.aload_n 0, 1) := by decide +kernel
theorem dX5_readEnding_110 : decode cX5_readEnding 110 = .ok (.iconst 2, 1) := by decide +kernel
theorem dX5_readEnding_111 : decode cX5_readEnding 111 = .ok (.invokevirtual 64, 3) := by decide +kernel
theorem dX5_readEnding_114 : decode cX5_readEnding 114 = .ok (.ifCond .eq 7, 3) := by decide +kernel
theorem dX5_readEnding_117 : decode cX5_readEnding 117 = .ok (.iconst 1, 1) := by decide +kernel
theorem dX5_readEnding_118 : decode cX5_readEnding 118 = .ok (.goto 4, 3) := by decide +kernel
theorem dX5_readEnding_121 : decode cX5_readEnding 121 = .ok (.iconst 0, 1) := by decide +kernel
theorem dX5_readEnding_122 : decode cX5_readEnding 122 = .ok (.ireturn, 1) := by decide +kernel
theorem dX6_init_0 : decode cX6_init 0 = .ok (.aload_n 0, 1) := by decide +kernel
theorem dX6_init_1 : decode cX6_init 1 = .ok (.invokespecial 3, 3) := by decide +kernel
theorem dX6_init_4 : decode cX6_init 4 = .ok (.aload_n 0, 1) := by decide +kernel
theorem dX6_init_5 : decode cX6_init 5 = .ok (.bipush 78, 2) := by decide +kernel
theorem dX6_init_7 : decode cX6_init 7 = .ok (.newarray .byte, 2) := by decide +kernel
theorem dX6_init_9 : decode cX6_init 9 = .ok (.putfield 9, 3) := by decide +kernel
theorem dX6_init_12 : decode cX6_init 12 = .ok (.aload_n 0, 1) := by decide +kernel
theorem dX6_init_13 : decode cX6_init 13 = .ok (.bipush 26, 2) := by decide +kernel
theorem dX6_init_15 : decode cX6_init 15 = .ok (.newarray .int, 2) := by decide +kernel
theorem dX6_init_17 : decode cX6_init 17 = .ok (.putfield 15, 3) := by decide +kernel
theorem dX6_init_20 : decode cX6_init 20 = .ok (.iconst 0, 1) := by decide +kernel
theorem dX6_init_21 : decode cX6_init 21 = .ok (.istore_n 1, 1) := by decide +kernel
theorem dX6_init_22 : decode cX6_init 22 = .ok (.iload_n 1, 1) := by decide +kernel
theorem dX6_init_23 : decode cX6_init 23 = .ok (.bipush 26, 2) := by decide +kernel
theorem dX6_init_25 : decode cX6_init 25 = .ok (.if_icmp .ge 29, 3) := by decide +kernel
theorem dX6_init_28 : decode cX6_init 28 = .ok (.aload_n 0, 1) := by decide +kernel
theorem dX6_init_29 : decode cX6_init 29 = .ok (.getfield 9, 3) := by decide +kernel
theorem dX6_init_32 : decode cX6_init 32 = .ok (.iload_n 1, 1) := by decide +kernel
theorem dX6_init_33 : decode cX6_init 33 = .ok (.iconst 3, 1) := by decide +kernel
theorem dX6_init_34 : decode cX6_init 34 = .ok (.imul, 1) := by decide +kernel
theorem dX6_init_35 : decode cX6_init 35 = .ok (.bipush 97, 2) := by decide +kernel
theorem dX6_init_37 : decode cX6_init 37 = .ok (.iload_n 1, 1) := by decide +kernel
theorem dX6_init_38 : decode cX6_init 38 = .ok (.iadd, 1) := by decide +kernel
theorem dX6_init_39 : decode cX6_init 39 = .ok (.i2b, 1) := by decide +kernel
theorem dX6_init_40 : decode cX6_init 40 = .ok (.bastore, 1) := by decide +kernel
theorem dX6_init_41 : decode cX6_init 41 = .ok (.aload_n 0, 1) := by decide +kernel
theorem dX6_init_42 : decode cX6_init 42 = .ok (.getfield 15, 3) := by decide +kernel
theorem dX6_init_45 : decode cX6_init 45 = .ok (.iload_n 1, 1) := by decide +kernel
theorem dX6_init_46 : decode cX6_init 46 = .ok (.iconst 1, 1) := by decide +kernel
theorem dX6_init_47 : decode cX6_init 47 = .ok (.iastore, 1) := by decide +kernel
theorem dX6_init_48 : decode cX6_init 48 = .ok (.iinc 1 1, 3) := by decide +kernel
theorem dX6_init_51 : decode cX6_init 51 = .ok (.goto (-29), 3) := by decide +kernel
theorem dX6_init_54 : decode cX6_init 54 = .ok (.return_, 1) := by decide +kernel
theorem dX6_change_0 : decode cX6_change 0 = .ok (.iload_n 1, 1) := by decide +kernel
theorem dX6_change_1 : decode cX6_change 1 = .ok (.ifCond .lt 24, 3) := by decide +kernel
theorem dX6_change_4 : decode cX6_change 4 = .ok (.iload_n 1, 1) := by decide +kernel
theorem dX6_change_5 : decode cX6_change 5 = .ok (.bipush 26, 2) := by decide +kernel
theorem dX6_change_7 : decode cX6_change 7 = .ok (.if_icmp .ge 18, 3) := by decide +kernel
theorem dX6_change_10 : decode cX6_change 10 = .ok (.iload_n 3, 1) := by decide +kernel
theorem dX6_change_11 : decode cX6_change 11 = .ok (.ifCond .lt 14, 3) := by decide +kernel
theorem dX6_change_14 : decode cX6_change 14 = .ok (.iload_n 3, 1) := by decide +kernel
theorem dX6_change_15 : decode cX6_change 15 = .ok (.iconst 3, 1) := by decide +kernel
theorem dX6_change_16 : decode cX6_change 16 = .ok (.if_icmp .gt 9, 3) := by decide +kernel
theorem dX6_change_19 : decode cX6_change 19 = .ok (.iload_n 3, 1) := by decide +kernel
theorem dX6_change_20 : decode cX6_change 20 = .ok (.aload_n 2, 1) := by decide +kernel
theorem dX6_change_21 : decode cX6_change 21 = .ok (.arraylength, 1) := by decide +kernel
theorem dX6_change_22 : decode cX6_change 22 = .ok (.if_icmp .le 5, 3) := by decide +kernel
theorem dX6_change_25 : decode cX6_change 25 = .ok (.iconst 0, 1) := by decide +kernel
theorem dX6_change_26 : decode cX6_change 26 = .ok (.ireturn, 1) := by decide +kernel
theorem dX6_change_27 : decode cX6_change 27 = .ok (.iconst 0, 1) := by decide +kernel
theorem dX6_change_28 : decode cX6_change 28 = .ok (.istore 4, 2) := by decide +kernel
theorem dX6_change_30 : decode cX6_change 30 = .ok (.iload 4, 2) := by decide +kernel
theorem dX6_change_32 : decode cX6_change 32 = .ok (.iload_n 3, 1) := by decide +kernel
theorem dX6_change_33 : decode cX6_change 33 = .ok (.if_icmp .ge 21, 3) := by decide +kernel
theorem dX6_change_36 : decode cX6_change 36 = .ok (.aload_n 2, 1) := by decide +kernel
theorem dX6_change_37 : decode cX6_change 37 = .ok (.iload 4, 2) := by decide +kernel
theorem dX6_change_39 : decode cX6_change 39 = .ok (.baload, 1) := by decide +kernel
theorem dX6_change_40 : decode cX6_change 40 = .ok (.invokestatic 19, 3) := by decide +kernel
theorem dX6_change_43 : decode cX6_change 43 = .ok (.ifCond .ne 5, 3) := by decide +kernel
theorem dX6_change_46 : decode cX6_change 46 = .ok (.iconst 0, 1) := by decide +kernel
theorem dX6_change_47 : decode cX6_change 47 = .ok (.ireturn, 1) := by decide +kernel
theorem dX6_change_48 : decode cX6_change 48 = .ok (.iinc 4 1, 3) := by decide +kernel
theorem dX6_change_51 : decode cX6_change 51 = .ok (.goto (-21), 3) := by decide +kernel
theorem dX6_change_54 : decode cX6_change 54 = .ok (.iconst 0, 1) := by decide +kernel
theorem dX6_change_55 : decode cX6_change 55 = .ok (.istore 4, 2) := by decide +kernel
theorem dX6_change_57 : decode cX6_change 57 = .ok (.iload 4, 2) := by decide +kernel
theorem dX6_change_59 : decode cX6_change 59 = .ok (.iload_n 3, 1) := by decide +kernel
theorem dX6_change_60 : decode cX6_change 60 = .ok (.if_icmp .ge 24, 3) := by decide +kernel
theorem dX6_change_63 : decode cX6_change 63 = .ok (.aload_n 0, 1) := by decide +kernel
theorem dX6_change_64 : decode cX6_change 64 = .ok (.getfield 9, 3) := by decide +kernel
theorem dX6_change_67 : decode cX6_change 67 = .ok (.iload_n 1, 1) := by decide +kernel
theorem dX6_change_68 : decode cX6_change 68 = .ok (.iconst 3, 1) := by decide +kernel
theorem dX6_change_69 : decode cX6_change 69 = .ok (.imul, 1) := by decide +kernel
theorem dX6_change_70 : decode cX6_change 70 = .ok (.iload 4, 2) := by decide +kernel
theorem dX6_change_72 : decode cX6_change 72 = .ok (.iadd, 1) := by decide +kernel
theorem dX6_change_73 : decode cX6_change 73 = .ok (.aload_n 2, 1) := by decide +kernel
theorem dX6_change_74 : decode cX6_change 74 = .ok (.iload 4, 2) := by decide +kernel
theorem dX6_change_76 : decode cX6_change 76 = .ok (.baload, 1) := by decide +kernel
theorem dX6_change_77 : decode cX6_change 77 = .ok (.bastore, 1) := by decide +kernel
theorem dX6_change_78 : decode cX6_change 78 = .ok (.iinc 4 1, 3) := by decide +kernel
theorem dX6_change_81 : decode cX6_change 81 = .ok (.goto (-24), 3) := by decide +kernel
theorem dX6_change_84 : decode cX6_change 84 = .ok (.aload_n 0, 1) := by decide +kernel
theorem dX6_change_85 : decode cX6_change 85 = .ok (.getfield 15, 3) := by decide +kernel
theorem dX6_change_88 : decode cX6_change 88 = .ok (.iload_n 1, 1) := by decide +kernel
theorem dX6_change_89 : decode cX6_change 89 = .ok (.iload_n 3, 1) := by decide +kernel
theorem dX6_change_90 : decode cX6_change 90 = .ok (.iastore, 1) := by decide +kernel
theorem dX6_change_91 : decode cX6_change 91 = .ok (.iconst 1, 1) := by decide +kernel
theorem dX6_change_92 : decode cX6_change 92 = .ok (.ireturn, 1) := by decide +kernel
theorem dX6_putOver_0 : decode cX6_putOver 0 = .ok (.iload_n 2, 1) := by decide +kernel
theorem dX6_putOver_1 : decode cX6_putOver 1 = .ok (.ifCond .le 9, 3) := by decide +kernel
theorem dX6_putOver_4 : decode cX6_putOver 4 = .ok (.aload_n 3, 1) := by decide +kernel
theorem dX6_putOver_5 : decode cX6_putOver 5 = .ok (.bipush 32, 2) := by decide +kernel
theorem dX6_putOver_7 : decode cX6_putOver 7 = .ok (.invokevirtual 23, 3) := by decide +kernel
theorem dX6_putOver_10 : decode cX6_putOver 10 = .ok (.iconst 0, 1) := by decide +kernel
theorem dX6_putOver_11 : decode cX6_putOver 11 = .ok (.istore 4, 2) := by decide +kernel
theorem dX6_putOver_13 : decode cX6_putOver 13 = .ok (.iload 4, 2) := by decide +kernel
theorem dX6_putOver_15 : decode cX6_putOver 15 = .ok (.aload_n 1, 1) := by decide +kernel
theorem dX6_putOver_16 : decode cX6_putOver 16 = .ok (.getfield 29, 3) := by decide +kernel
theorem dX6_putOver_19 : decode cX6_putOver 19 = .ok (.if_icmp .ge 70, 3) := by decide +kernel
theorem dX6_putOver_22 : decode cX6_putOver 22 = .ok (.aload_n 1, 1) := by decide +kernel
theorem dX6_putOver_23 : decode cX6_putOver 23 = .ok (.getfield 35, 3) := by decide +kernel
theorem dX6_putOver_26 : decode cX6_putOver 26 = .ok (.iload 4, 2) := by decide +kernel
theorem dX6_putOver_28 : decode cX6_putOver 28 = .ok (.baload, 1) := by decide +kernel
theorem dX6_putOver_29 : decode cX6_putOver 29 = .ok (.bipush 97, 2) := by decide +kernel
theorem dX6_putOver_31 : decode cX6_putOver 31 = .ok (.isub, 1) := by decide +kernel
theorem dX6_putOver_32 : decode cX6_putOver 32 = .ok (.istore 5, 2) := by decide +kernel
theorem dX6_putOver_34 : decode cX6_putOver 34 = .ok (.iload 5, 2) := by decide +kernel
theorem dX6_putOver_36 : decode cX6_putOver 36 = .ok (.ifCond .lt 47, 3) := by decide +kernel
theorem dX6_putOver_39 : decode cX6_putOver 39 = .ok (.iload 5, 2) := by decide +kernel
theorem dX6_putOver_41 : decode cX6_putOver 41 = .ok (.bipush 26, 2) := by decide +kernel
theorem dX6_putOver_43 : decode cX6_putOver 43 = .ok (.if_icmp .ge 40, 3) := by decide +kernel
theorem dX6_putOver_46 : decode cX6_putOver 46 = .ok (.iconst 0, 1) := by decide +kernel
theorem dX6_putOver_47 : decode cX6_putOver 47 = .ok (.istore 6, 2) := by decide +kernel
theorem dX6_putOver_49 : decode cX6_putOver 49 = .ok (.iload 6, 2) := by decide +kernel
theorem dX6_putOver_51 : decode cX6_putOver 51 = .ok (.aload_n 0, 1) := by decide +kernel
theorem dX6_putOver_52 : decode cX6_putOver 52 = .ok (.getfield 15, 3) := by decide +kernel
theorem dX6_putOver_55 : decode cX6_putOver 55 = .ok (.iload 5, 2) := by decide +kernel
theorem dX6_putOver_57 : decode cX6_putOver 57 = .ok (.iaload, 1) := by decide +kernel
theorem dX6_putOver_58 : decode cX6_putOver 58 = .ok (.if_icmp .ge 25, 3) := by decide +kernel
theorem dX6_putOver_61 : decode cX6_putOver 61 = .ok (.aload_n 3, 1) := by decide +kernel
theorem dX6_putOver_62 : decode cX6_putOver 62 = .ok (.aload_n 0, 1) := by decide +kernel
theorem dX6_putOver_63 : decode cX6_putOver 63 = .ok (.getfield 9, 3) := by decide +kernel
theorem dX6_putOver_66 : decode cX6_putOver 66 = .ok (.iload 5, 2) := by decide +kernel
theorem dX6_putOver_68 : decode cX6_putOver 68 = .ok (.iconst 3, 1) := by decide +kernel
theorem dX6_putOver_69 : decode cX6_putOver 69 = .ok (.imul, 1) := by decide +kernel
theorem dX6_putOver_70 : decode cX6_putOver 70 = .ok (.iload 6, 2) := by decide +kernel
theorem dX6_putOver_72 : decode cX6_putOver 72 = .ok (.iadd, 1) := by decide +kernel
theorem dX6_putOver_73 : decode cX6_putOver 73 = .ok (.baload, 1) := by decide +kernel
theorem dX6_putOver_74 : decode cX6_putOver 74 = .ok (.invokevirtual 23, 3) := by decide +kernel
theorem dX6_putOver_77 : decode cX6_putOver 77 = .ok (.iinc 6 1, 3) := by decide +kernel
theorem dX6_putOver_80 : decode cX6_putOver 80 = .ok (.goto (-31), 3) := by decide +kernel
theorem dX6_putOver_83 : decode cX6_putOver 83 = .ok (.iinc 4 1, 3) := by decide +kernel
theorem dX6_putOver_86 : decode cX6_putOver 86 = .ok (.goto (-73), 3) := by decide +kernel
theorem dX6_putOver_89 : decode cX6_putOver 89 = .ok (.return_, 1) := by decide +kernel
theorem dX7_init_0 : decode cX7_init 0 = .ok (.aload_n 0, 1) := by decide +kernel
theorem dX7_init_1 : decode cX7_init 1 = .ok (.invokespecial 3, 3) := by decide +kernel
theorem dX7_init_4 : decode cX7_init 4 = .ok (.aload_n 0, 1) := by decide +kernel
theorem dX7_init_5 : decode cX7_init 5 = .ok (.sipush 400, 3) := by decide +kernel
theorem dX7_init_8 : decode cX7_init 8 = .ok (.newarray .byte, 2) := by decide +kernel
theorem dX7_init_10 : decode cX7_init 10 = .ok (.putfield 9, 3) := by decide +kernel
theorem dX7_init_13 : decode cX7_init 13 = .ok (.aload_n 0, 1) := by decide +kernel
theorem dX7_init_14 : decode cX7_init 14 = .ok (.iconst 0, 1) := by decide +kernel
theorem dX7_init_15 : decode cX7_init 15 = .ok (.putfield 15, 3) := by decide +kernel
theorem dX7_init_18 : decode cX7_init 18 = .ok (.return_, 1) := by decide +kernel
theorem dX7_holds_0 : decode cX7_holds 0 = .ok (.iload_n 1, 1) := by decide +kernel
theorem dX7_holds_1 : decode cX7_holds 1 = .ok (.ifCond .lt 15, 3) := by decide +kernel
theorem dX7_holds_4 : decode cX7_holds 4 = .ok (.iload_n 1, 1) := by decide +kernel
theorem dX7_holds_5 : decode cX7_holds 5 = .ok (.aload_n 0, 1) := by decide +kernel
theorem dX7_holds_6 : decode cX7_holds 6 = .ok (.getfield 15, 3) := by decide +kernel
theorem dX7_holds_9 : decode cX7_holds 9 = .ok (.if_icmp .gt 7, 3) := by decide +kernel
theorem dX7_holds_12 : decode cX7_holds 12 = .ok (.iconst 1, 1) := by decide +kernel
theorem dX7_holds_13 : decode cX7_holds 13 = .ok (.goto 4, 3) := by decide +kernel
theorem dX7_holds_16 : decode cX7_holds 16 = .ok (.iconst 0, 1) := by decide +kernel
theorem dX7_holds_17 : decode cX7_holds 17 = .ok (.ireturn, 1) := by decide +kernel
theorem dX7_add_0 : decode cX7_add 0 = .ok (.bipush 24, 2) := by decide +kernel
theorem dX7_add_2 : decode cX7_add 2 = .ok (.istore_n 2, 1) := by decide +kernel
theorem dX7_add_3 : decode cX7_add 3 = .ok (.iload_n 2, 1) := by decide +kernel
theorem dX7_add_4 : decode cX7_add 4 = .ok (.ifCond .lt 42, 3) := by decide +kernel
theorem dX7_add_7 : decode cX7_add 7 = .ok (.aload_n 0, 1) := by decide +kernel
theorem dX7_add_8 : decode cX7_add 8 = .ok (.getfield 15, 3) := by decide +kernel
theorem dX7_add_11 : decode cX7_add 11 = .ok (.sipush 400, 3) := by decide +kernel
theorem dX7_add_14 : decode cX7_add 14 = .ok (.if_icmp .ge 32, 3) := by decide +kernel
theorem dX7_add_17 : decode cX7_add 17 = .ok (.aload_n 0, 1) := by decide +kernel
theorem dX7_add_18 : decode cX7_add 18 = .ok (.getfield 9, 3) := by decide +kernel
theorem dX7_add_21 : decode cX7_add 21 = .ok (.aload_n 0, 1) := by decide +kernel
theorem dX7_add_22 : decode cX7_add 22 = .ok (.getfield 15, 3) := by decide +kernel
theorem dX7_add_25 : decode cX7_add 25 = .ok (.iload_n 1, 1) := by decide +kernel
theorem dX7_add_26 : decode cX7_add 26 = .ok (.iload_n 2, 1) := by decide +kernel
theorem dX7_add_27 : decode cX7_add 27 = .ok (.ishr, 1) := by decide +kernel
theorem dX7_add_28 : decode cX7_add 28 = .ok (.i2b, 1) := by decide +kernel
theorem dX7_add_29 : decode cX7_add 29 = .ok (.bastore, 1) := by decide +kernel
theorem dX7_add_30 : decode cX7_add 30 = .ok (.aload_n 0, 1) := by decide +kernel
theorem dX7_add_31 : decode cX7_add 31 = .ok (.dup, 1) := by decide +kernel
theorem dX7_add_32 : decode cX7_add 32 = .ok (.getfield 15, 3) := by decide +kernel
theorem dX7_add_35 : decode cX7_add 35 = .ok (.iconst 1, 1) := by decide +kernel
theorem dX7_add_36 : decode cX7_add 36 = .ok (.iadd, 1) := by decide +kernel
theorem dX7_add_37 : decode cX7_add 37 = .ok (.putfield 15, 3) := by decide +kernel
theorem dX7_add_40 : decode cX7_add 40 = .ok (.iinc 2 (-8), 3) := by decide +kernel
theorem dX7_add_43 : decode cX7_add 43 = .ok (.goto (-40), 3) := by decide +kernel
theorem dX7_add_46 : decode cX7_add 46 = .ok (.return_, 1) := by decide +kernel
theorem dX8_init_0 : decode cX8_init 0 = .ok (.aload_n 0, 1) := by decide +kernel
theorem dX8_init_1 : decode cX8_init 1 = .ok (.invokespecial 3, 3) := by decide +kernel
theorem dX8_init_4 : decode cX8_init 4 = .ok (.aload_n 0, 1) := by decide +kernel
theorem dX8_init_5 : decode cX8_init 5 = .ok (.bipush 21, 2) := by decide +kernel
theorem dX8_init_7 : decode cX8_init 7 = .ok (.newarray .byte, 2) := by decide +kernel
theorem dX8_init_9 : decode cX8_init 9 = .ok (.putfield 9, 3) := by decide +kernel
theorem dX8_init_12 : decode cX8_init 12 = .ok (.aload_n 0, 1) := by decide +kernel
theorem dX8_init_13 : decode cX8_init 13 = .ok (.iconst 0, 1) := by decide +kernel
theorem dX8_init_14 : decode cX8_init 14 = .ok (.putfield 15, 3) := by decide +kernel
theorem dX8_init_17 : decode cX8_init 17 = .ok (.aload_n 0, 1) := by decide +kernel
theorem dX8_init_18 : decode cX8_init 18 = .ok (.bipush 20, 2) := by decide +kernel
theorem dX8_init_20 : decode cX8_init 20 = .ok (.newarray .byte, 2) := by decide +kernel
theorem dX8_init_22 : decode cX8_init 22 = .ok (.putfield 19, 3) := by decide +kernel
theorem dX8_init_25 : decode cX8_init 25 = .ok (.aload_n 0, 1) := by decide +kernel
theorem dX8_init_26 : decode cX8_init 26 = .ok (.iconst 0, 1) := by decide +kernel
theorem dX8_init_27 : decode cX8_init 27 = .ok (.putfield 22, 3) := by decide +kernel
theorem dX8_init_30 : decode cX8_init 30 = .ok (.return_, 1) := by decide +kernel
theorem dX8_take_0 : decode cX8_take 0 = .ok (.aload_n 0, 1) := by decide +kernel
theorem dX8_take_1 : decode cX8_take 1 = .ok (.iconst 0, 1) := by decide +kernel
theorem dX8_take_2 : decode cX8_take 2 = .ok (.putfield 15, 3) := by decide +kernel
theorem dX8_take_5 : decode cX8_take 5 = .ok (.aload_n 0, 1) := by decide +kernel
theorem dX8_take_6 : decode cX8_take 6 = .ok (.iconst 0, 1) := by decide +kernel
theorem dX8_take_7 : decode cX8_take 7 = .ok (.putfield 22, 3) := by decide +kernel
theorem dX8_take_10 : decode cX8_take 10 = .ok (.iload_n 2, 1) := by decide +kernel
theorem dX8_take_11 : decode cX8_take 11 = .ok (.ifCond .lt 22, 3) := by decide +kernel
theorem dX8_take_14 : decode cX8_take 14 = .ok (.iload_n 3, 1) := by decide +kernel
theorem dX8_take_15 : decode cX8_take 15 = .ok (.iload_n 2, 1) := by decide +kernel
theorem dX8_take_16 : decode cX8_take 16 = .ok (.if_icmp .le 17, 3) := by decide +kernel
theorem dX8_take_19 : decode cX8_take 19 = .ok (.iload_n 3, 1) := by decide +kernel
theorem dX8_take_20 : decode cX8_take 20 = .ok (.aload_n 1, 1) := by decide +kernel
theorem dX8_take_21 : decode cX8_take 21 = .ok (.arraylength, 1) := by decide +kernel
theorem dX8_take_22 : decode cX8_take 22 = .ok (.if_icmp .gt 11, 3) := by decide +kernel
theorem dX8_take_25 : decode cX8_take 25 = .ok (.iload_n 3, 1) := by decide +kernel
theorem dX8_take_26 : decode cX8_take 26 = .ok (.iload_n 2, 1) := by decide +kernel
theorem dX8_take_27 : decode cX8_take 27 = .ok (.isub, 1) := by decide +kernel
theorem dX8_take_28 : decode cX8_take 28 = .ok (.bipush 21, 2) := by decide +kernel
theorem dX8_take_30 : decode cX8_take 30 = .ok (.if_icmp .le 5, 3) := by decide +kernel
theorem dX8_take_33 : decode cX8_take 33 = .ok (.iconst 0, 1) := by decide +kernel
theorem dX8_take_34 : decode cX8_take 34 = .ok (.ireturn, 1) := by decide +kernel
theorem dX8_take_35 : decode cX8_take 35 = .ok (.aload_n 1, 1) := by decide +kernel
theorem dX8_take_36 : decode cX8_take 36 = .ok (.iload_n 3, 1) := by decide +kernel
theorem dX8_take_37 : decode cX8_take 37 = .ok (.iconst 1, 1) := by decide +kernel
theorem dX8_take_38 : decode cX8_take 38 = .ok (.isub, 1) := by decide +kernel
theorem dX8_take_39 : decode cX8_take 39 = .ok (.baload, 1) := by decide +kernel
theorem dX8_take_40 : decode cX8_take 40 = .ok (.bipush 46, 2) := by decide +kernel
theorem dX8_take_42 : decode cX8_take 42 = .ok (.if_icmp .ne 9, 3) := by decide +kernel
theorem dX8_take_45 : decode cX8_take 45 = .ok (.iload_n 3, 1) := by decide +kernel
theorem dX8_take_46 : decode cX8_take 46 = .ok (.iconst 1, 1) := by decide +kernel
theorem dX8_take_47 : decode cX8_take 47 = .ok (.isub, 1) := by decide +kernel
theorem dX8_take_48 : decode cX8_take 48 = .ok (.goto 4, 3) := by decide +kernel
theorem dX8_take_51 : decode cX8_take 51 = .ok (.iload_n 3, 1) := by decide +kernel
theorem dX8_take_52 : decode cX8_take 52 = .ok (.istore 4, 2) := by decide +kernel
theorem dX8_take_54 : decode cX8_take 54 = .ok (.iload 4, 2) := by decide +kernel
theorem dX8_take_56 : decode cX8_take 56 = .ok (.iload_n 2, 1) := by decide +kernel
theorem dX8_take_57 : decode cX8_take 57 = .ok (.isub, 1) := by decide +kernel
theorem dX8_take_58 : decode cX8_take 58 = .ok (.bipush 20, 2) := by decide +kernel
theorem dX8_take_60 : decode cX8_take 60 = .ok (.if_icmp .le 5, 3) := by decide +kernel
theorem dX8_take_63 : decode cX8_take 63 = .ok (.iconst 0, 1) := by decide +kernel
theorem dX8_take_64 : decode cX8_take 64 = .ok (.ireturn, 1) := by decide +kernel
theorem dX8_take_65 : decode cX8_take 65 = .ok (.iload_n 2, 1) := by decide +kernel
theorem dX8_take_66 : decode cX8_take 66 = .ok (.istore 5, 2) := by decide +kernel
theorem dX8_take_68 : decode cX8_take 68 = .ok (.iload 5, 2) := by decide +kernel
theorem dX8_take_70 : decode cX8_take 70 = .ok (.iload 4, 2) := by decide +kernel
theorem dX8_take_72 : decode cX8_take 72 = .ok (.if_icmp .ge 22, 3) := by decide +kernel
theorem dX8_take_75 : decode cX8_take 75 = .ok (.aload_n 0, 1) := by decide +kernel
theorem dX8_take_76 : decode cX8_take 76 = .ok (.aload_n 1, 1) := by decide +kernel
theorem dX8_take_77 : decode cX8_take 77 = .ok (.iload 5, 2) := by decide +kernel
theorem dX8_take_79 : decode cX8_take 79 = .ok (.baload, 1) := by decide +kernel
theorem dX8_take_80 : decode cX8_take 80 = .ok (.invokevirtual 25, 3) := by decide +kernel
theorem dX8_take_83 : decode cX8_take 83 = .ok (.ifCond .ne 5, 3) := by decide +kernel
theorem dX8_take_86 : decode cX8_take 86 = .ok (.iconst 0, 1) := by decide +kernel
theorem dX8_take_87 : decode cX8_take 87 = .ok (.ireturn, 1) := by decide +kernel
theorem dX8_take_88 : decode cX8_take 88 = .ok (.iinc 5 1, 3) := by decide +kernel
theorem dX8_take_91 : decode cX8_take 91 = .ok (.goto (-23), 3) := by decide +kernel
theorem dX8_take_94 : decode cX8_take 94 = .ok (.iload 4, 2) := by decide +kernel
theorem dX8_take_96 : decode cX8_take 96 = .ok (.iload_n 3, 1) := by decide +kernel
theorem dX8_take_97 : decode cX8_take 97 = .ok (.if_icmp .ge 33, 3) := by decide +kernel
theorem dX8_take_100 : decode cX8_take 100 = .ok (.aload_n 0, 1) := by decide +kernel
theorem dX8_take_101 : decode cX8_take 101 = .ok (.getfield 15, 3) := by decide +kernel
theorem dX8_take_104 : decode cX8_take 104 = .ok (.bipush 20, 2) := by decide +kernel
theorem dX8_take_106 : decode cX8_take 106 = .ok (.if_icmp .gt 24, 3) := by decide +kernel
theorem dX8_take_109 : decode cX8_take 109 = .ok (.aload_n 0, 1) := by decide +kernel
theorem dX8_take_110 : decode cX8_take 110 = .ok (.getfield 9, 3) := by decide +kernel
theorem dX8_take_113 : decode cX8_take 113 = .ok (.aload_n 0, 1) := by decide +kernel
theorem dX8_take_114 : decode cX8_take 114 = .ok (.getfield 15, 3) := by decide +kernel
theorem dX8_take_117 : decode cX8_take 117 = .ok (.bipush 46, 2) := by decide +kernel
theorem dX8_take_119 : decode cX8_take 119 = .ok (.bastore, 1) := by decide +kernel
theorem dX8_take_120 : decode cX8_take 120 = .ok (.aload_n 0, 1) := by decide +kernel
theorem dX8_take_121 : decode cX8_take 121 = .ok (.dup, 1) := by decide +kernel
theorem dX8_take_122 : decode cX8_take 122 = .ok (.getfield 15, 3) := by decide +kernel
theorem dX8_take_125 : decode cX8_take 125 = .ok (.iconst 1, 1) := by decide +kernel
theorem dX8_take_126 : decode cX8_take 126 = .ok (.iadd, 1) := by decide +kernel
theorem dX8_take_127 : decode cX8_take 127 = .ok (.putfield 15, 3) := by decide +kernel
theorem dX8_take_130 : decode cX8_take 130 = .ok (.aload_n 0, 1) := by decide +kernel
theorem dX8_take_131 : decode cX8_take 131 = .ok (.getfield 22, 3) := by decide +kernel
theorem dX8_take_134 : decode cX8_take 134 = .ok (.ifCond .le 7, 3) := by decide +kernel
theorem dX8_take_137 : decode cX8_take 137 = .ok (.iconst 1, 1) := by decide +kernel
theorem dX8_take_138 : decode cX8_take 138 = .ok (.goto 4, 3) := by decide +kernel
theorem dX8_take_141 : decode cX8_take 141 = .ok (.iconst 0, 1) := by decide +kernel
theorem dX8_take_142 : decode cX8_take 142 = .ok (.ireturn, 1) := by decide +kernel
theorem dX8_takeSign_0 : decode cX8_takeSign 0 = .ok (.aload_n 0, 1) := by decide +kernel
theorem dX8_takeSign_1 : decode cX8_takeSign 1 = .ok (.getfield 15, 3) := by decide +kernel
theorem dX8_takeSign_4 : decode cX8_takeSign 4 = .ok (.bipush 20, 2) := by decide +kernel
theorem dX8_takeSign_6 : decode cX8_takeSign 6 = .ok (.if_icmp .ge 12, 3) := by decide +kernel
theorem dX8_takeSign_9 : decode cX8_takeSign 9 = .ok (.aload_n 0, 1) := by decide +kernel
theorem dX8_takeSign_10 : decode cX8_takeSign 10 = .ok (.getfield 22, 3) := by decide +kernel
theorem dX8_takeSign_13 : decode cX8_takeSign 13 = .ok (.bipush 20, 2) := by decide +kernel
theorem dX8_takeSign_15 : decode cX8_takeSign 15 = .ok (.if_icmp .lt 5, 3) := by decide +kernel
theorem dX8_takeSign_18 : decode cX8_takeSign 18 = .ok (.iconst 0, 1) := by decide +kernel
theorem dX8_takeSign_19 : decode cX8_takeSign 19 = .ok (.ireturn, 1) := by decide +kernel
theorem dX8_takeSign_20 : decode cX8_takeSign 20 = .ok (.iload_n 1, 1) := by decide +kernel
theorem dX8_takeSign_21 : decode cX8_takeSign 21 = .ok (.invokestatic 29, 3) := by decide +kernel
theorem dX8_takeSign_24 : decode cX8_takeSign 24 = .ok (.ifCond .eq 26, 3) := by decide +kernel
theorem dX8_takeSign_27 : decode cX8_takeSign 27 = .ok (.aload_n 0, 1) := by decide +kernel
theorem dX8_takeSign_28 : decode cX8_takeSign 28 = .ok (.getfield 19, 3) := by decide +kernel
theorem dX8_takeSign_31 : decode cX8_takeSign 31 = .ok (.aload_n 0, 1) := by decide +kernel
theorem dX8_takeSign_32 : decode cX8_takeSign 32 = .ok (.getfield 22, 3) := by decide +kernel
theorem dX8_takeSign_35 : decode cX8_takeSign 35 = .ok (.iload_n 1, 1) := by decide +kernel
theorem dX8_takeSign_36 : decode cX8_takeSign 36 = .ok (.bastore, 1) := by decide +kernel
theorem dX8_takeSign_37 : decode cX8_takeSign 37 = .ok (.aload_n 0, 1) := by decide +kernel
theorem dX8_takeSign_38 : decode cX8_takeSign 38 = .ok (.dup, 1) := by decide +kernel
theorem dX8_takeSign_39 : decode cX8_takeSign 39 = .ok (.getfield 22, 3) := by decide +kernel
theorem dX8_takeSign_42 : decode cX8_takeSign 42 = .ok (.iconst 1, 1) := by decide +kernel
theorem dX8_takeSign_43 : decode cX8_takeSign 43 = .ok (.iadd, 1) := by decide +kernel
theorem dX8_takeSign_44 : decode cX8_takeSign 44 = .ok (.putfield 22, 3) := by decide +kernel
theorem dX8_takeSign_47 : decode cX8_takeSign 47 = .ok (.goto 61, 3) := by decide +kernel
theorem dX8_takeSign_50 : decode cX8_takeSign 50 = .ok (.iload_n 1, 1) := by decide +kernel
theorem dX8_takeSign_51 : decode cX8_takeSign 51 = .ok (.invokestatic 33, 3) := by decide +kernel
theorem dX8_takeSign_54 : decode cX8_takeSign 54 = .ok (.ifCond .eq 33, 3) := by decide +kernel
theorem dX8_takeSign_57 : decode cX8_takeSign 57 = .ok (.aload_n 0, 1) := by decide +kernel
theorem dX8_takeSign_58 : decode cX8_takeSign 58 = .ok (.getfield 19, 3) := by decide +kernel
theorem dX8_takeSign_61 : decode cX8_takeSign 61 = .ok (.aload_n 0, 1) := by decide +kernel
theorem dX8_takeSign_62 : decode cX8_takeSign 62 = .ok (.getfield 22, 3) := by decide +kernel
theorem dX8_takeSign_65 : decode cX8_takeSign 65 = .ok (.iload_n 1, 1) := by decide +kernel
theorem dX8_takeSign_66 : decode cX8_takeSign 66 = .ok (.bipush 65, 2) := by decide +kernel
theorem dX8_takeSign_68 : decode cX8_takeSign 68 = .ok (.isub, 1) := by decide +kernel
theorem dX8_takeSign_69 : decode cX8_takeSign 69 = .ok (.bipush 97, 2) := by decide +kernel
theorem dX8_takeSign_71 : decode cX8_takeSign 71 = .ok (.iadd, 1) := by decide +kernel
theorem dX8_takeSign_72 : decode cX8_takeSign 72 = .ok (.i2b, 1) := by decide +kernel
theorem dX8_takeSign_73 : decode cX8_takeSign 73 = .ok (.bastore, 1) := by decide +kernel
theorem dX8_takeSign_74 : decode cX8_takeSign 74 = .ok (.aload_n 0, 1) := by decide +kernel
theorem dX8_takeSign_75 : decode cX8_takeSign 75 = .ok (.dup, 1) := by decide +kernel
theorem dX8_takeSign_76 : decode cX8_takeSign 76 = .ok (.getfield 22, 3) := by decide +kernel
theorem dX8_takeSign_79 : decode cX8_takeSign 79 = .ok (.iconst 1, 1) := by decide +kernel
theorem dX8_takeSign_80 : decode cX8_takeSign 80 = .ok (.iadd, 1) := by decide +kernel
theorem dX8_takeSign_81 : decode cX8_takeSign 81 = .ok (.putfield 22, 3) := by decide +kernel
theorem dX8_takeSign_84 : decode cX8_takeSign 84 = .ok (.goto 24, 3) := by decide +kernel
theorem dX8_takeSign_87 : decode cX8_takeSign 87 = .ok (.aload_n 0, 1) := by decide +kernel
theorem dX8_takeSign_88 : decode cX8_takeSign 88 = .ok (.getfield 22, 3) := by decide +kernel
theorem dX8_takeSign_91 : decode cX8_takeSign 91 = .ok (.ifCond .eq 15, 3) := by decide +kernel
theorem dX8_takeSign_94 : decode cX8_takeSign 94 = .ok (.iload_n 1, 1) := by decide +kernel
theorem dX8_takeSign_95 : decode cX8_takeSign 95 = .ok (.bipush 39, 2) := by decide +kernel
theorem dX8_takeSign_97 : decode cX8_takeSign 97 = .ok (.if_icmp .eq 11, 3) := by decide +kernel
theorem dX8_takeSign_100 : decode cX8_takeSign 100 = .ok (.iload_n 1, 1) := by decide +kernel
theorem dX8_takeSign_101 : decode cX8_takeSign 101 = .ok (.bipush 45, 2) := by decide +kernel
theorem dX8_takeSign_103 : decode cX8_takeSign 103 = .ok (.if_icmp .eq 5, 3) := by decide +kernel
theorem dX8_takeSign_106 : decode cX8_takeSign 106 = .ok (.iconst 0, 1) := by decide +kernel
theorem dX8_takeSign_107 : decode cX8_takeSign 107 = .ok (.ireturn, 1) := by decide +kernel
theorem dX8_takeSign_108 : decode cX8_takeSign 108 = .ok (.aload_n 0, 1) := by decide +kernel
theorem dX8_takeSign_109 : decode cX8_takeSign 109 = .ok (.getfield 9, 3) := by decide +kernel
theorem dX8_takeSign_112 : decode cX8_takeSign 112 = .ok (.aload_n 0, 1) := by decide +kernel
theorem dX8_takeSign_113 : decode cX8_takeSign 113 = .ok (.getfield 15, 3) := by decide +kernel
theorem dX8_takeSign_116 : decode cX8_takeSign 116 = .ok (.iload_n 1, 1) := by decide +kernel
theorem dX8_takeSign_117 : decode cX8_takeSign 117 = .ok (.bastore, 1) := by decide +kernel
theorem dX8_takeSign_118 : decode cX8_takeSign 118 = .ok (.aload_n 0, 1) := by decide +kernel
theorem dX8_takeSign_119 : decode cX8_takeSign 119 = .ok (.dup, 1) := by decide +kernel
theorem dX8_takeSign_120 : decode cX8_takeSign 120 = .ok (.getfield 15, 3) := by decide +kernel
theorem dX8_takeSign_123 : decode cX8_takeSign 123 = .ok (.iconst 1, 1) := by decide +kernel
theorem dX8_takeSign_124 : decode cX8_takeSign 124 = .ok (.iadd, 1) := by decide +kernel
theorem dX8_takeSign_125 : decode cX8_takeSign 125 = .ok (.putfield 15, 3) := by decide +kernel
theorem dX8_takeSign_128 : decode cX8_takeSign 128 = .ok (.iconst 1, 1) := by decide +kernel
theorem dX8_takeSign_129 : decode cX8_takeSign 129 = .ok (.ireturn, 1) := by decide +kernel
theorem dX8_copyLetters_0 : decode cX8_copyLetters 0 = .ok (.iconst 0, 1) := by decide +kernel
theorem dX8_copyLetters_1 : decode cX8_copyLetters 1 = .ok (.istore_n 2, 1) := by decide +kernel
theorem dX8_copyLetters_2 : decode cX8_copyLetters 2 = .ok (.iload_n 2, 1) := by decide +kernel
theorem dX8_copyLetters_3 : decode cX8_copyLetters 3 = .ok (.bipush 20, 2) := by decide +kernel
theorem dX8_copyLetters_5 : decode cX8_copyLetters 5 = .ok (.if_icmp .ge 21, 3) := by decide +kernel
theorem dX8_copyLetters_8 : decode cX8_copyLetters 8 = .ok (.aload_n 0, 1) := by decide +kernel
theorem dX8_copyLetters_9 : decode cX8_copyLetters 9 = .ok (.getfield 19, 3) := by decide +kernel
theorem dX8_copyLetters_12 : decode cX8_copyLetters 12 = .ok (.iload_n 2, 1) := by decide +kernel
theorem dX8_copyLetters_13 : decode cX8_copyLetters 13 = .ok (.aload_n 1, 1) := by decide +kernel
theorem dX8_copyLetters_14 : decode cX8_copyLetters 14 = .ok (.getfield 19, 3) := by decide +kernel
theorem dX8_copyLetters_17 : decode cX8_copyLetters 17 = .ok (.iload_n 2, 1) := by decide +kernel
theorem dX8_copyLetters_18 : decode cX8_copyLetters 18 = .ok (.baload, 1) := by decide +kernel
theorem dX8_copyLetters_19 : decode cX8_copyLetters 19 = .ok (.bastore, 1) := by decide +kernel
theorem dX8_copyLetters_20 : decode cX8_copyLetters 20 = .ok (.iinc 2 1, 3) := by decide +kernel
theorem dX8_copyLetters_23 : decode cX8_copyLetters 23 = .ok (.goto (-21), 3) := by decide +kernel
theorem dX8_copyLetters_26 : decode cX8_copyLetters 26 = .ok (.aload_n 0, 1) := by decide +kernel
theorem dX8_copyLetters_27 : decode cX8_copyLetters 27 = .ok (.aload_n 1, 1) := by decide +kernel
theorem dX8_copyLetters_28 : decode cX8_copyLetters 28 = .ok (.getfield 22, 3) := by decide +kernel
theorem dX8_copyLetters_31 : decode cX8_copyLetters 31 = .ok (.putfield 22, 3) := by decide +kernel
theorem dX8_copyLetters_34 : decode cX8_copyLetters 34 = .ok (.return_, 1) := by decide +kernel
theorem dX8_isBeginning_0 : decode cX8_isBeginning 0 = .ok (.aload_n 0, 1) := by decide +kernel
theorem dX8_isBeginning_1 : decode cX8_isBeginning 1 = .ok (.getfield 22, 3) := by decide +kernel
theorem dX8_isBeginning_4 : decode cX8_isBeginning 4 = .ok (.iload_n 2, 1) := by decide +kernel
theorem dX8_isBeginning_5 : decode cX8_isBeginning 5 = .ok (.if_icmp .ne 11, 3) := by decide +kernel
theorem dX8_isBeginning_8 : decode cX8_isBeginning 8 = .ok (.aload_n 1, 1) := by decide +kernel
theorem dX8_isBeginning_9 : decode cX8_isBeginning 9 = .ok (.getfield 22, 3) := by decide +kernel
theorem dX8_isBeginning_12 : decode cX8_isBeginning 12 = .ok (.iload_n 2, 1) := by decide +kernel
theorem dX8_isBeginning_13 : decode cX8_isBeginning 13 = .ok (.if_icmp .ge 5, 3) := by decide +kernel
theorem dX8_isBeginning_16 : decode cX8_isBeginning 16 = .ok (.iconst 0, 1) := by decide +kernel
theorem dX8_isBeginning_17 : decode cX8_isBeginning 17 = .ok (.ireturn, 1) := by decide +kernel
theorem dX8_isBeginning_18 : decode cX8_isBeginning 18 = .ok (.iconst 0, 1) := by decide +kernel
theorem dX8_isBeginning_19 : decode cX8_isBeginning 19 = .ok (.istore_n 3, 1) := by decide +kernel
theorem dX8_isBeginning_20 : decode cX8_isBeginning 20 = .ok (.iload_n 3, 1) := by decide +kernel
theorem dX8_isBeginning_21 : decode cX8_isBeginning 21 = .ok (.aload_n 0, 1) := by decide +kernel
theorem dX8_isBeginning_22 : decode cX8_isBeginning 22 = .ok (.getfield 22, 3) := by decide +kernel
theorem dX8_isBeginning_25 : decode cX8_isBeginning 25 = .ok (.if_icmp .ge 26, 3) := by decide +kernel
theorem dX8_isBeginning_28 : decode cX8_isBeginning 28 = .ok (.aload_n 0, 1) := by decide +kernel
theorem dX8_isBeginning_29 : decode cX8_isBeginning 29 = .ok (.getfield 19, 3) := by decide +kernel
theorem dX8_isBeginning_32 : decode cX8_isBeginning 32 = .ok (.iload_n 3, 1) := by decide +kernel
theorem dX8_isBeginning_33 : decode cX8_isBeginning 33 = .ok (.baload, 1) := by decide +kernel
theorem dX8_isBeginning_34 : decode cX8_isBeginning 34 = .ok (.aload_n 1, 1) := by decide +kernel
theorem dX8_isBeginning_35 : decode cX8_isBeginning 35 = .ok (.getfield 19, 3) := by decide +kernel
theorem dX8_isBeginning_38 : decode cX8_isBeginning 38 = .ok (.iload_n 3, 1) := by decide +kernel
theorem dX8_isBeginning_39 : decode cX8_isBeginning 39 = .ok (.baload, 1) := by decide +kernel
theorem dX8_isBeginning_40 : decode cX8_isBeginning 40 = .ok (.if_icmp .eq 5, 3) := by decide +kernel
theorem dX8_isBeginning_43 : decode cX8_isBeginning 43 = .ok (.iconst 0, 1) := by decide +kernel
theorem dX8_isBeginning_44 : decode cX8_isBeginning 44 = .ok (.ireturn, 1) := by decide +kernel
theorem dX8_isBeginning_45 : decode cX8_isBeginning 45 = .ok (.iinc 3 1, 3) := by decide +kernel
theorem dX8_isBeginning_48 : decode cX8_isBeginning 48 = .ok (.goto (-28), 3) := by decide +kernel
theorem dX8_isBeginning_51 : decode cX8_isBeginning 51 = .ok (.iconst 1, 1) := by decide +kernel
theorem dX8_isBeginning_52 : decode cX8_isBeginning 52 = .ok (.ireturn, 1) := by decide +kernel
theorem dX8_alike_0 : decode cX8_alike 0 = .ok (.aload_n 0, 1) := by decide +kernel
theorem dX8_alike_1 : decode cX8_alike 1 = .ok (.aload_n 1, 1) := by decide +kernel
theorem dX8_alike_2 : decode cX8_alike 2 = .ok (.aload_n 1, 1) := by decide +kernel
theorem dX8_alike_3 : decode cX8_alike 3 = .ok (.getfield 22, 3) := by decide +kernel
theorem dX8_alike_6 : decode cX8_alike 6 = .ok (.invokevirtual 36, 3) := by decide +kernel
theorem dX8_alike_9 : decode cX8_alike 9 = .ok (.ireturn, 1) := by decide +kernel
theorem dX8_fits_0 : decode cX8_fits 0 = .ok (.aload_n 0, 1) := by decide +kernel
theorem dX8_fits_1 : decode cX8_fits 1 = .ok (.aload_n 1, 1) := by decide +kernel
theorem dX8_fits_2 : decode cX8_fits 2 = .ok (.invokevirtual 40, 3) := by decide +kernel
theorem dX8_fits_5 : decode cX8_fits 5 = .ok (.ifCond .ne 21, 3) := by decide +kernel
theorem dX8_fits_8 : decode cX8_fits 8 = .ok (.aload_n 0, 1) := by decide +kernel
theorem dX8_fits_9 : decode cX8_fits 9 = .ok (.aload_n 1, 1) := by decide +kernel
theorem dX8_fits_10 : decode cX8_fits 10 = .ok (.iconst 1, 1) := by decide +kernel
theorem dX8_fits_11 : decode cX8_fits 11 = .ok (.invokevirtual 36, 3) := by decide +kernel
theorem dX8_fits_14 : decode cX8_fits 14 = .ok (.ifCond .ne 12, 3) := by decide +kernel
theorem dX8_fits_17 : decode cX8_fits 17 = .ok (.aload_n 1, 1) := by decide +kernel
theorem dX8_fits_18 : decode cX8_fits 18 = .ok (.aload_n 0, 1) := by decide +kernel
theorem dX8_fits_19 : decode cX8_fits 19 = .ok (.iconst 1, 1) := by decide +kernel
theorem dX8_fits_20 : decode cX8_fits 20 = .ok (.invokevirtual 36, 3) := by decide +kernel
theorem dX8_fits_23 : decode cX8_fits 23 = .ok (.ifCond .eq 7, 3) := by decide +kernel
theorem dX8_fits_26 : decode cX8_fits 26 = .ok (.iconst 1, 1) := by decide +kernel
theorem dX8_fits_27 : decode cX8_fits 27 = .ok (.goto 4, 3) := by decide +kernel
theorem dX8_fits_30 : decode cX8_fits 30 = .ok (.iconst 0, 1) := by decide +kernel
theorem dX8_fits_31 : decode cX8_fits 31 = .ok (.ireturn, 1) := by decide +kernel
theorem dX8_endsWith_0 : decode cX8_endsWith 0 = .ok (.iload_n 2, 1) := by decide +kernel
theorem dX8_endsWith_1 : decode cX8_endsWith 1 = .ok (.aload_n 1, 1) := by decide +kernel
theorem dX8_endsWith_2 : decode cX8_endsWith 2 = .ok (.arraylength, 1) := by decide +kernel
theorem dX8_endsWith_3 : decode cX8_endsWith 3 = .ok (.if_icmp .gt 11, 3) := by decide +kernel
theorem dX8_endsWith_6 : decode cX8_endsWith 6 = .ok (.iload_n 2, 1) := by decide +kernel
theorem dX8_endsWith_7 : decode cX8_endsWith 7 = .ok (.aload_n 0, 1) := by decide +kernel
theorem dX8_endsWith_8 : decode cX8_endsWith 8 = .ok (.getfield 22, 3) := by decide +kernel
theorem dX8_endsWith_11 : decode cX8_endsWith 11 = .ok (.if_icmp .le 5, 3) := by decide +kernel
theorem dX8_endsWith_14 : decode cX8_endsWith 14 = .ok (.iconst 0, 1) := by decide +kernel
theorem dX8_endsWith_15 : decode cX8_endsWith 15 = .ok (.ireturn, 1) := by decide +kernel
theorem dX8_endsWith_16 : decode cX8_endsWith 16 = .ok (.iconst 0, 1) := by decide +kernel
theorem dX8_endsWith_17 : decode cX8_endsWith 17 = .ok (.istore_n 3, 1) := by decide +kernel
theorem dX8_endsWith_18 : decode cX8_endsWith 18 = .ok (.iload_n 3, 1) := by decide +kernel
theorem dX8_endsWith_19 : decode cX8_endsWith 19 = .ok (.iload_n 2, 1) := by decide +kernel
theorem dX8_endsWith_20 : decode cX8_endsWith 20 = .ok (.if_icmp .ge 30, 3) := by decide +kernel
theorem dX8_endsWith_23 : decode cX8_endsWith 23 = .ok (.aload_n 0, 1) := by decide +kernel
theorem dX8_endsWith_24 : decode cX8_endsWith 24 = .ok (.getfield 19, 3) := by decide +kernel
theorem dX8_endsWith_27 : decode cX8_endsWith 27 = .ok (.aload_n 0, 1) := by decide +kernel
theorem dX8_endsWith_28 : decode cX8_endsWith 28 = .ok (.getfield 22, 3) := by decide +kernel
theorem dX8_endsWith_31 : decode cX8_endsWith 31 = .ok (.iload_n 2, 1) := by decide +kernel
theorem dX8_endsWith_32 : decode cX8_endsWith 32 = .ok (.isub, 1) := by decide +kernel
theorem dX8_endsWith_33 : decode cX8_endsWith 33 = .ok (.iload_n 3, 1) := by decide +kernel
theorem dX8_endsWith_34 : decode cX8_endsWith 34 = .ok (.iadd, 1) := by decide +kernel
theorem dX8_endsWith_35 : decode cX8_endsWith 35 = .ok (.baload, 1) := by decide +kernel
theorem dX8_endsWith_36 : decode cX8_endsWith 36 = .ok (.aload_n 1, 1) := by decide +kernel
theorem dX8_endsWith_37 : decode cX8_endsWith 37 = .ok (.iload_n 3, 1) := by decide +kernel
theorem dX8_endsWith_38 : decode cX8_endsWith 38 = .ok (.baload, 1) := by decide +kernel
theorem dX8_endsWith_39 : decode cX8_endsWith 39 = .ok (.if_icmp .eq 5, 3) := by decide +kernel
theorem dX8_endsWith_42 : decode cX8_endsWith 42 = .ok (.iconst 0, 1) := by decide +kernel
theorem dX8_endsWith_43 : decode cX8_endsWith 43 = .ok (.ireturn, 1) := by decide +kernel
theorem dX8_endsWith_44 : decode cX8_endsWith 44 = .ok (.iinc 3 1, 3) := by decide +kernel
theorem dX8_endsWith_47 : decode cX8_endsWith 47 = .ok (.goto (-29), 3) := by decide +kernel
theorem dX8_endsWith_50 : decode cX8_endsWith 50 = .ok (.iconst 1, 1) := by decide +kernel
theorem dX8_endsWith_51 : decode cX8_endsWith 51 = .ok (.ireturn, 1) := by decide +kernel
theorem dX8_compareLetters_0 : decode cX8_compareLetters 0 = .ok (.iconst 0, 1) := by decide +kernel
theorem dX8_compareLetters_1 : decode cX8_compareLetters 1 = .ok (.istore_n 2, 1) := by decide +kernel
theorem dX8_compareLetters_2 : decode cX8_compareLetters 2 = .ok (.iload_n 2, 1) := by decide +kernel
theorem dX8_compareLetters_3 : decode cX8_compareLetters 3 = .ok (.aload_n 0, 1) := by decide +kernel
theorem dX8_compareLetters_4 : decode cX8_compareLetters 4 = .ok (.getfield 22, 3) := by decide +kernel
theorem dX8_compareLetters_7 : decode cX8_compareLetters 7 = .ok (.if_icmp .ge 46, 3) := by decide +kernel
theorem dX8_compareLetters_10 : decode cX8_compareLetters 10 = .ok (.iload_n 2, 1) := by decide +kernel
theorem dX8_compareLetters_11 : decode cX8_compareLetters 11 = .ok (.aload_n 1, 1) := by decide +kernel
theorem dX8_compareLetters_12 : decode cX8_compareLetters 12 = .ok (.getfield 22, 3) := by decide +kernel
theorem dX8_compareLetters_15 : decode cX8_compareLetters 15 = .ok (.if_icmp .ge 38, 3) := by decide +kernel
theorem dX8_compareLetters_18 : decode cX8_compareLetters 18 = .ok (.aload_n 0, 1) := by decide +kernel
theorem dX8_compareLetters_19 : decode cX8_compareLetters 19 = .ok (.getfield 19, 3) := by decide +kernel
theorem dX8_compareLetters_22 : decode cX8_compareLetters 22 = .ok (.iload_n 2, 1) := by decide +kernel
theorem dX8_compareLetters_23 : decode cX8_compareLetters 23 = .ok (.baload, 1) := by decide +kernel
theorem dX8_compareLetters_24 : decode cX8_compareLetters 24 = .ok (.aload_n 1, 1) := by decide +kernel
theorem dX8_compareLetters_25 : decode cX8_compareLetters 25 = .ok (.getfield 19, 3) := by decide +kernel
theorem dX8_compareLetters_28 : decode cX8_compareLetters 28 = .ok (.iload_n 2, 1) := by decide +kernel
theorem dX8_compareLetters_29 : decode cX8_compareLetters 29 = .ok (.baload, 1) := by decide +kernel
theorem dX8_compareLetters_30 : decode cX8_compareLetters 30 = .ok (.if_icmp .eq 17, 3) := by decide +kernel
theorem dX8_compareLetters_33 : decode cX8_compareLetters 33 = .ok (.aload_n 0, 1) := by decide +kernel
theorem dX8_compareLetters_34 : decode cX8_compareLetters 34 = .ok (.getfield 19, 3) := by decide +kernel
theorem dX8_compareLetters_37 : decode cX8_compareLetters 37 = .ok (.iload_n 2, 1) := by decide +kernel
theorem dX8_compareLetters_38 : decode cX8_compareLetters 38 = .ok (.baload, 1) := by decide +kernel
theorem dX8_compareLetters_39 : decode cX8_compareLetters 39 = .ok (.aload_n 1, 1) := by decide +kernel
theorem dX8_compareLetters_40 : decode cX8_compareLetters 40 = .ok (.getfield 19, 3) := by decide +kernel
theorem dX8_compareLetters_43 : decode cX8_compareLetters 43 = .ok (.iload_n 2, 1) := by decide +kernel
theorem dX8_compareLetters_44 : decode cX8_compareLetters 44 = .ok (.baload, 1) := by decide +kernel
theorem dX8_compareLetters_45 : decode cX8_compareLetters 45 = .ok (.isub, 1) := by decide +kernel
theorem dX8_compareLetters_46 : decode cX8_compareLetters 46 = .ok (.ireturn, 1) := by decide +kernel
theorem dX8_compareLetters_47 : decode cX8_compareLetters 47 = .ok (.iinc 2 1, 3) := by decide +kernel
theorem dX8_compareLetters_50 : decode cX8_compareLetters 50 = .ok (.goto (-48), 3) := by decide +kernel
theorem dX8_compareLetters_53 : decode cX8_compareLetters 53 = .ok (.aload_n 0, 1) := by decide +kernel
theorem dX8_compareLetters_54 : decode cX8_compareLetters 54 = .ok (.getfield 22, 3) := by decide +kernel
theorem dX8_compareLetters_57 : decode cX8_compareLetters 57 = .ok (.aload_n 1, 1) := by decide +kernel
theorem dX8_compareLetters_58 : decode cX8_compareLetters 58 = .ok (.getfield 22, 3) := by decide +kernel
theorem dX8_compareLetters_61 : decode cX8_compareLetters 61 = .ok (.isub, 1) := by decide +kernel
theorem dX8_compareLetters_62 : decode cX8_compareLetters 62 = .ok (.ireturn, 1) := by decide +kernel
theorem dX9_init_0 : decode cX9_init 0 = .ok (.aload_n 0, 1) := by decide +kernel
theorem dX9_init_1 : decode cX9_init 1 = .ok (.invokespecial 3, 3) := by decide +kernel
theorem dX9_init_4 : decode cX9_init 4 = .ok (.aload_n 0, 1) := by decide +kernel
theorem dX9_init_5 : decode cX9_init 5 = .ok (.new 9, 3) := by decide +kernel
theorem dX9_init_8 : decode cX9_init 8 = .ok (.dup, 1) := by decide +kernel
theorem dX9_init_9 : decode cX9_init 9 = .ok (.invokespecial 11, 3) := by decide +kernel
theorem dX9_init_12 : decode cX9_init 12 = .ok (.putfield 12, 3) := by decide +kernel
theorem dX9_init_15 : decode cX9_init 15 = .ok (.aload_n 0, 1) := by decide +kernel
theorem dX9_init_16 : decode cX9_init 16 = .ok (.bipush 6, 2) := by decide +kernel
theorem dX9_init_18 : decode cX9_init 18 = .ok (.anewarray 16, 3) := by decide +kernel
theorem dX9_init_21 : decode cX9_init 21 = .ok (.putfield 18, 3) := by decide +kernel
theorem dX9_init_24 : decode cX9_init 24 = .ok (.aload_n 0, 1) := by decide +kernel
theorem dX9_init_25 : decode cX9_init 25 = .ok (.new 22, 3) := by decide +kernel
theorem dX9_init_28 : decode cX9_init 28 = .ok (.dup, 1) := by decide +kernel
theorem dX9_init_29 : decode cX9_init 29 = .ok (.invokespecial 24, 3) := by decide +kernel
theorem dX9_init_32 : decode cX9_init 32 = .ok (.putfield 25, 3) := by decide +kernel
theorem dX9_init_35 : decode cX9_init 35 = .ok (.aload_n 0, 1) := by decide +kernel
theorem dX9_init_36 : decode cX9_init 36 = .ok (.new 16, 3) := by decide +kernel
theorem dX9_init_39 : decode cX9_init 39 = .ok (.dup, 1) := by decide +kernel
theorem dX9_init_40 : decode cX9_init 40 = .ok (.invokespecial 29, 3) := by decide +kernel
theorem dX9_init_43 : decode cX9_init 43 = .ok (.putfield 30, 3) := by decide +kernel
theorem dX9_init_46 : decode cX9_init 46 = .ok (.aload_n 0, 1) := by decide +kernel
theorem dX9_init_47 : decode cX9_init 47 = .ok (.new 34, 3) := by decide +kernel
theorem dX9_init_50 : decode cX9_init 50 = .ok (.dup, 1) := by decide +kernel
theorem dX9_init_51 : decode cX9_init 51 = .ok (.invokespecial 36, 3) := by decide +kernel
theorem dX9_init_54 : decode cX9_init 54 = .ok (.putfield 37, 3) := by decide +kernel
theorem dX9_init_57 : decode cX9_init 57 = .ok (.aload_n 0, 1) := by decide +kernel
theorem dX9_init_58 : decode cX9_init 58 = .ok (.new 41, 3) := by decide +kernel
theorem dX9_init_61 : decode cX9_init 61 = .ok (.dup, 1) := by decide +kernel
theorem dX9_init_62 : decode cX9_init 62 = .ok (.invokespecial 43, 3) := by decide +kernel
theorem dX9_init_65 : decode cX9_init 65 = .ok (.putfield 44, 3) := by decide +kernel
theorem dX9_init_68 : decode cX9_init 68 = .ok (.aload_n 0, 1) := by decide +kernel
theorem dX9_init_69 : decode cX9_init 69 = .ok (.bipush 30, 2) := by decide +kernel
theorem dX9_init_71 : decode cX9_init 71 = .ok (.anewarray 48, 3) := by decide +kernel
theorem dX9_init_74 : decode cX9_init 74 = .ok (.putfield 50, 3) := by decide +kernel
theorem dX9_init_77 : decode cX9_init 77 = .ok (.aload_n 0, 1) := by decide +kernel
theorem dX9_init_78 : decode cX9_init 78 = .ok (.iconst 0, 1) := by decide +kernel
theorem dX9_init_79 : decode cX9_init 79 = .ok (.putfield 54, 3) := by decide +kernel
theorem dX9_init_82 : decode cX9_init 82 = .ok (.aload_n 0, 1) := by decide +kernel
theorem dX9_init_83 : decode cX9_init 83 = .ok (.new 58, 3) := by decide +kernel
theorem dX9_init_86 : decode cX9_init 86 = .ok (.dup, 1) := by decide +kernel
theorem dX9_init_87 : decode cX9_init 87 = .ok (.invokespecial 60, 3) := by decide +kernel
theorem dX9_init_90 : decode cX9_init 90 = .ok (.putfield 61, 3) := by decide +kernel
theorem dX9_init_93 : decode cX9_init 93 = .ok (.aload_n 0, 1) := by decide +kernel
theorem dX9_init_94 : decode cX9_init 94 = .ok (.iconst (-1), 1) := by decide +kernel
theorem dX9_init_95 : decode cX9_init 95 = .ok (.putfield 65, 3) := by decide +kernel
theorem dX9_init_98 : decode cX9_init 98 = .ok (.aload_n 0, 1) := by decide +kernel
theorem dX9_init_99 : decode cX9_init 99 = .ok (.bipush 30, 2) := by decide +kernel
theorem dX9_init_101 : decode cX9_init 101 = .ok (.newarray .int, 2) := by decide +kernel
theorem dX9_init_103 : decode cX9_init 103 = .ok (.putfield 68, 3) := by decide +kernel
theorem dX9_init_106 : decode cX9_init 106 = .ok (.aload_n 0, 1) := by decide +kernel
theorem dX9_init_107 : decode cX9_init 107 = .ok (.iconst 0, 1) := by decide +kernel
theorem dX9_init_108 : decode cX9_init 108 = .ok (.putfield 72, 3) := by decide +kernel
theorem dX9_init_111 : decode cX9_init 111 = .ok (.aload_n 0, 1) := by decide +kernel
theorem dX9_init_112 : decode cX9_init 112 = .ok (.new 76, 3) := by decide +kernel
theorem dX9_init_115 : decode cX9_init 115 = .ok (.dup, 1) := by decide +kernel
theorem dX9_init_116 : decode cX9_init 116 = .ok (.invokespecial 78, 3) := by decide +kernel
theorem dX9_init_119 : decode cX9_init 119 = .ok (.putfield 79, 3) := by decide +kernel
theorem dX9_init_122 : decode cX9_init 122 = .ok (.aload_n 0, 1) := by decide +kernel
theorem dX9_init_123 : decode cX9_init 123 = .ok (.new 83, 3) := by decide +kernel
theorem dX9_init_126 : decode cX9_init 126 = .ok (.dup, 1) := by decide +kernel
theorem dX9_init_127 : decode cX9_init 127 = .ok (.invokespecial 85, 3) := by decide +kernel
theorem dX9_init_130 : decode cX9_init 130 = .ok (.putfield 86, 3) := by decide +kernel
theorem dX9_init_133 : decode cX9_init 133 = .ok (.aload_n 0, 1) := by decide +kernel
theorem dX9_init_134 : decode cX9_init 134 = .ok (.bipush 8, 2) := by decide +kernel
theorem dX9_init_136 : decode cX9_init 136 = .ok (.newarray .int, 2) := by decide +kernel
theorem dX9_init_138 : decode cX9_init 138 = .ok (.putfield 90, 3) := by decide +kernel
theorem dX9_init_141 : decode cX9_init 141 = .ok (.iconst 0, 1) := by decide +kernel
theorem dX9_init_142 : decode cX9_init 142 = .ok (.istore_n 1, 1) := by decide +kernel
theorem dX9_init_143 : decode cX9_init 143 = .ok (.iload_n 1, 1) := by decide +kernel
theorem dX9_init_144 : decode cX9_init 144 = .ok (.bipush 6, 2) := by decide +kernel
theorem dX9_init_146 : decode cX9_init 146 = .ok (.if_icmp .ge 22, 3) := by decide +kernel
theorem dX9_init_149 : decode cX9_init 149 = .ok (.aload_n 0, 1) := by decide +kernel
theorem dX9_init_150 : decode cX9_init 150 = .ok (.getfield 18, 3) := by decide +kernel
theorem dX9_init_153 : decode cX9_init 153 = .ok (.iload_n 1, 1) := by decide +kernel
theorem dX9_init_154 : decode cX9_init 154 = .ok (.new 16, 3) := by decide +kernel
theorem dX9_init_157 : decode cX9_init 157 = .ok (.dup, 1) := by decide +kernel
theorem dX9_init_158 : decode cX9_init 158 = .ok (.invokespecial 29, 3) := by decide +kernel
theorem dX9_init_161 : decode cX9_init 161 = .ok (.aastore, 1) := by decide +kernel
theorem dX9_init_162 : decode cX9_init 162 = .ok (.iinc 1 1, 3) := by decide +kernel
theorem dX9_init_165 : decode cX9_init 165 = .ok (.goto (-22), 3) := by decide +kernel
theorem dX9_init_168 : decode cX9_init 168 = .ok (.iconst 0, 1) := by decide +kernel
theorem dX9_init_169 : decode cX9_init 169 = .ok (.istore_n 1, 1) := by decide +kernel
theorem dX9_init_170 : decode cX9_init 170 = .ok (.iload_n 1, 1) := by decide +kernel
theorem dX9_init_171 : decode cX9_init 171 = .ok (.bipush 30, 2) := by decide +kernel
theorem dX9_init_173 : decode cX9_init 173 = .ok (.if_icmp .ge 22, 3) := by decide +kernel
theorem dX9_init_176 : decode cX9_init 176 = .ok (.aload_n 0, 1) := by decide +kernel
theorem dX9_init_177 : decode cX9_init 177 = .ok (.getfield 50, 3) := by decide +kernel
theorem dX9_init_180 : decode cX9_init 180 = .ok (.iload_n 1, 1) := by decide +kernel
theorem dX9_init_181 : decode cX9_init 181 = .ok (.new 48, 3) := by decide +kernel
theorem dX9_init_184 : decode cX9_init 184 = .ok (.dup, 1) := by decide +kernel
theorem dX9_init_185 : decode cX9_init 185 = .ok (.invokespecial 93, 3) := by decide +kernel
theorem dX9_init_188 : decode cX9_init 188 = .ok (.aastore, 1) := by decide +kernel
theorem dX9_init_189 : decode cX9_init 189 = .ok (.iinc 1 1, 3) := by decide +kernel
theorem dX9_init_192 : decode cX9_init 192 = .ok (.goto (-22), 3) := by decide +kernel
theorem dX9_init_195 : decode cX9_init 195 = .ok (.return_, 1) := by decide +kernel
theorem dX9_feed_0 : decode cX9_feed 0 = .ok (.aload_n 0, 1) := by decide +kernel
theorem dX9_feed_1 : decode cX9_feed 1 = .ok (.getfield 12, 3) := by decide +kernel
theorem dX9_feed_4 : decode cX9_feed 4 = .ok (.getfield 94, 3) := by decide +kernel
theorem dX9_feed_7 : decode cX9_feed 7 = .ok (.bipush 20, 2) := by decide +kernel
theorem dX9_feed_9 : decode cX9_feed 9 = .ok (.iadd, 1) := by decide +kernel
theorem dX9_feed_10 : decode cX9_feed 10 = .ok (.sipush 400, 3) := by decide +kernel
theorem dX9_feed_13 : decode cX9_feed 13 = .ok (.if_icmp .le 5, 3) := by decide +kernel
theorem dX9_feed_16 : decode cX9_feed 16 = .ok (.iconst (-1), 1) := by decide +kernel
theorem dX9_feed_17 : decode cX9_feed 17 = .ok (.ireturn, 1) := by decide +kernel
theorem dX9_feed_18 : decode cX9_feed 18 = .ok (.aload_n 0, 1) := by decide +kernel
theorem dX9_feed_19 : decode cX9_feed 19 = .ok (.getfield 12, 3) := by decide +kernel
theorem dX9_feed_22 : decode cX9_feed 22 = .ok (.iload_n 1, 1) := by decide +kernel
theorem dX9_feed_23 : decode cX9_feed 23 = .ok (.invokevirtual 97, 3) := by decide +kernel
theorem dX9_feed_26 : decode cX9_feed 26 = .ok (.aload_n 0, 1) := by decide +kernel
theorem dX9_feed_27 : decode cX9_feed 27 = .ok (.getfield 12, 3) := by decide +kernel
theorem dX9_feed_30 : decode cX9_feed 30 = .ok (.iload_n 2, 1) := by decide +kernel
theorem dX9_feed_31 : decode cX9_feed 31 = .ok (.invokevirtual 97, 3) := by decide +kernel
theorem dX9_feed_34 : decode cX9_feed 34 = .ok (.aload_n 0, 1) := by decide +kernel
theorem dX9_feed_35 : decode cX9_feed 35 = .ok (.getfield 12, 3) := by decide +kernel
theorem dX9_feed_38 : decode cX9_feed 38 = .ok (.iload_n 3, 1) := by decide +kernel
theorem dX9_feed_39 : decode cX9_feed 39 = .ok (.invokevirtual 97, 3) := by decide +kernel
theorem dX9_feed_42 : decode cX9_feed 42 = .ok (.aload_n 0, 1) := by decide +kernel
theorem dX9_feed_43 : decode cX9_feed 43 = .ok (.getfield 12, 3) := by decide +kernel
theorem dX9_feed_46 : decode cX9_feed 46 = .ok (.iload 4, 2) := by decide +kernel
theorem dX9_feed_48 : decode cX9_feed 48 = .ok (.invokevirtual 97, 3) := by decide +kernel
theorem dX9_feed_51 : decode cX9_feed 51 = .ok (.aload_n 0, 1) := by decide +kernel
theorem dX9_feed_52 : decode cX9_feed 52 = .ok (.getfield 12, 3) := by decide +kernel
theorem dX9_feed_55 : decode cX9_feed 55 = .ok (.iload 5, 2) := by decide +kernel
theorem dX9_feed_57 : decode cX9_feed 57 = .ok (.invokevirtual 97, 3) := by decide +kernel
theorem dX9_feed_60 : decode cX9_feed 60 = .ok (.aload_n 0, 1) := by decide +kernel
theorem dX9_feed_61 : decode cX9_feed 61 = .ok (.getfield 12, 3) := by decide +kernel
theorem dX9_feed_64 : decode cX9_feed 64 = .ok (.getfield 94, 3) := by decide +kernel
theorem dX9_feed_67 : decode cX9_feed 67 = .ok (.ireturn, 1) := by decide +kernel
theorem dX9_shape_0 : decode cX9_shape 0 = .ok (.iload_n 1, 1) := by decide +kernel
theorem dX9_shape_1 : decode cX9_shape 1 = .ok (.invokestatic 101, 3) := by decide +kernel
theorem dX9_shape_4 : decode cX9_shape 4 = .ok (.ifCond .eq 14, 3) := by decide +kernel
theorem dX9_shape_7 : decode cX9_shape 7 = .ok (.aload_n 0, 1) := by decide +kernel
theorem dX9_shape_8 : decode cX9_shape 8 = .ok (.getfield 12, 3) := by decide +kernel
theorem dX9_shape_11 : decode cX9_shape 11 = .ok (.iload_n 2, 1) := by decide +kernel
theorem dX9_shape_12 : decode cX9_shape 12 = .ok (.invokevirtual 105, 3) := by decide +kernel
theorem dX9_shape_15 : decode cX9_shape 15 = .ok (.ifCond .ne 6, 3) := by decide +kernel
theorem dX9_shape_18 : decode cX9_shape 18 = .ok (.bipush (-2), 2) := by decide +kernel
theorem dX9_shape_20 : decode cX9_shape 20 = .ok (.ireturn, 1) := by decide +kernel
theorem dX9_shape_21 : decode cX9_shape 21 = .ok (.aload_n 0, 1) := by decide +kernel
theorem dX9_shape_22 : decode cX9_shape 22 = .ok (.getfield 25, 3) := by decide +kernel
theorem dX9_shape_25 : decode cX9_shape 25 = .ok (.aload_n 0, 1) := by decide +kernel
theorem dX9_shape_26 : decode cX9_shape 26 = .ok (.getfield 30, 3) := by decide +kernel
theorem dX9_shape_29 : decode cX9_shape 29 = .ok (.aload_n 0, 1) := by decide +kernel
theorem dX9_shape_30 : decode cX9_shape 30 = .ok (.getfield 12, 3) := by decide +kernel
theorem dX9_shape_33 : decode cX9_shape 33 = .ok (.getfield 108, 3) := by decide +kernel
theorem dX9_shape_36 : decode cX9_shape 36 = .ok (.iload_n 2, 1) := by decide +kernel
theorem dX9_shape_37 : decode cX9_shape 37 = .ok (.invokevirtual 112, 3) := by decide +kernel
theorem dX9_shape_40 : decode cX9_shape 40 = .ok (.istore_n 3, 1) := by decide +kernel
theorem dX9_shape_41 : decode cX9_shape 41 = .ok (.aload_n 0, 1) := by decide +kernel
theorem dX9_shape_42 : decode cX9_shape 42 = .ok (.getfield 12, 3) := by decide +kernel
theorem dX9_shape_45 : decode cX9_shape 45 = .ok (.iconst 0, 1) := by decide +kernel
theorem dX9_shape_46 : decode cX9_shape 46 = .ok (.putfield 94, 3) := by decide +kernel
theorem dX9_shape_49 : decode cX9_shape 49 = .ok (.iload_n 3, 1) := by decide +kernel
theorem dX9_shape_50 : decode cX9_shape 50 = .ok (.ifCond .ne 5, 3) := by decide +kernel
theorem dX9_shape_53 : decode cX9_shape 53 = .ok (.iconst (-1), 1) := by decide +kernel
theorem dX9_shape_54 : decode cX9_shape 54 = .ok (.ireturn, 1) := by decide +kernel
theorem dX9_shape_55 : decode cX9_shape 55 = .ok (.aload_n 0, 1) := by decide +kernel
theorem dX9_shape_56 : decode cX9_shape 56 = .ok (.getfield 18, 3) := by decide +kernel
theorem dX9_shape_59 : decode cX9_shape 59 = .ok (.iload_n 1, 1) := by decide +kernel
theorem dX9_shape_60 : decode cX9_shape 60 = .ok (.aaload, 1) := by decide +kernel
theorem dX9_shape_61 : decode cX9_shape 61 = .ok (.astore 4, 2) := by decide +kernel
theorem dX9_shape_63 : decode cX9_shape 63 = .ok (.aload_n 0, 1) := by decide +kernel
theorem dX9_shape_64 : decode cX9_shape 64 = .ok (.getfield 18, 3) := by decide +kernel
theorem dX9_shape_67 : decode cX9_shape 67 = .ok (.iload_n 1, 1) := by decide +kernel
theorem dX9_shape_68 : decode cX9_shape 68 = .ok (.aload_n 0, 1) := by decide +kernel
theorem dX9_shape_69 : decode cX9_shape 69 = .ok (.getfield 30, 3) := by decide +kernel
theorem dX9_shape_72 : decode cX9_shape 72 = .ok (.aastore, 1) := by decide +kernel
theorem dX9_shape_73 : decode cX9_shape 73 = .ok (.aload_n 0, 1) := by decide +kernel
theorem dX9_shape_74 : decode cX9_shape 74 = .ok (.aload 4, 2) := by decide +kernel
theorem dX9_shape_76 : decode cX9_shape 76 = .ok (.putfield 30, 3) := by decide +kernel
theorem dX9_shape_79 : decode cX9_shape 79 = .ok (.aload_n 0, 1) := by decide +kernel
theorem dX9_shape_80 : decode cX9_shape 80 = .ok (.iload_n 1, 1) := by decide +kernel
theorem dX9_shape_81 : decode cX9_shape 81 = .ok (.invokevirtual 116, 3) := by decide +kernel
theorem dX9_shape_84 : decode cX9_shape 84 = .ok (.aload_n 0, 1) := by decide +kernel
theorem dX9_shape_85 : decode cX9_shape 85 = .ok (.getfield 18, 3) := by decide +kernel
theorem dX9_shape_88 : decode cX9_shape 88 = .ok (.iload_n 1, 1) := by decide +kernel
theorem dX9_shape_89 : decode cX9_shape 89 = .ok (.aaload, 1) := by decide +kernel
theorem dX9_shape_90 : decode cX9_shape 90 = .ok (.getfield 119, 3) := by decide +kernel
theorem dX9_shape_93 : decode cX9_shape 93 = .ok (.ireturn, 1) := by decide +kernel
theorem dX9_fault_0 : decode cX9_fault 0 = .ok (.iload_n 1, 1) := by decide +kernel
theorem dX9_fault_1 : decode cX9_fault 1 = .ok (.ifCond .ne 11, 3) := by decide +kernel
theorem dX9_fault_4 : decode cX9_fault 4 = .ok (.aload_n 0, 1) := by decide +kernel
theorem dX9_fault_5 : decode cX9_fault 5 = .ok (.getfield 25, 3) := by decide +kernel
theorem dX9_fault_8 : decode cX9_fault 8 = .ok (.getfield 122, 3) := by decide +kernel
theorem dX9_fault_11 : decode cX9_fault 11 = .ok (.ireturn, 1) := by decide +kernel
theorem dX9_fault_12 : decode cX9_fault 12 = .ok (.iload_n 1, 1) := by decide +kernel
theorem dX9_fault_13 : decode cX9_fault 13 = .ok (.iconst 1, 1) := by decide +kernel
theorem dX9_fault_14 : decode cX9_fault 14 = .ok (.if_icmp .ne 13, 3) := by decide +kernel
theorem dX9_fault_17 : decode cX9_fault 17 = .ok (.aload_n 0, 1) := by decide +kernel
theorem dX9_fault_18 : decode cX9_fault 18 = .ok (.getfield 25, 3) := by decide +kernel
theorem dX9_fault_21 : decode cX9_fault 21 = .ok (.getfield 125, 3) := by decide +kernel
theorem dX9_fault_24 : decode cX9_fault 24 = .ok (.goto 4, 3) := by decide +kernel
theorem dX9_fault_27 : decode cX9_fault 27 = .ok (.iconst (-1), 1) := by decide +kernel
theorem dX9_fault_28 : decode cX9_fault 28 = .ok (.ireturn, 1) := by decide +kernel
theorem dX9_know_0 : decode cX9_know 0 = .ok (.aload_n 0, 1) := by decide +kernel
theorem dX9_know_1 : decode cX9_know 1 = .ok (.iload_n 1, 1) := by decide +kernel
theorem dX9_know_2 : decode cX9_know 2 = .ok (.iload_n 2, 1) := by decide +kernel
theorem dX9_know_3 : decode cX9_know 3 = .ok (.iload_n 3, 1) := by decide +kernel
theorem dX9_know_4 : decode cX9_know 4 = .ok (.invokevirtual 128, 3) := by decide +kernel
theorem dX9_know_7 : decode cX9_know 7 = .ok (.ifCond .eq 32, 3) := by decide +kernel
theorem dX9_know_10 : decode cX9_know 10 = .ok (.aload_n 0, 1) := by decide +kernel
theorem dX9_know_11 : decode cX9_know 11 = .ok (.getfield 37, 3) := by decide +kernel
theorem dX9_know_14 : decode cX9_know 14 = .ok (.getfield 132, 3) := by decide +kernel
theorem dX9_know_17 : decode cX9_know 17 = .ok (.bipush 80, 2) := by decide +kernel
theorem dX9_know_19 : decode cX9_know 19 = .ok (.if_icmp .ge 20, 3) := by decide +kernel
theorem dX9_know_22 : decode cX9_know 22 = .ok (.aload_n 0, 1) := by decide +kernel
theorem dX9_know_23 : decode cX9_know 23 = .ok (.getfield 37, 3) := by decide +kernel
theorem dX9_know_26 : decode cX9_know 26 = .ok (.iload_n 1, 1) := by decide +kernel
theorem dX9_know_27 : decode cX9_know 27 = .ok (.iload_n 2, 1) := by decide +kernel
theorem dX9_know_28 : decode cX9_know 28 = .ok (.aload_n 0, 1) := by decide +kernel
theorem dX9_know_29 : decode cX9_know 29 = .ok (.getfield 44, 3) := by decide +kernel
theorem dX9_know_32 : decode cX9_know 32 = .ok (.invokevirtual 133, 3) := by decide +kernel
theorem dX9_know_35 : decode cX9_know 35 = .ok (.iconst (-1), 1) := by decide +kernel
theorem dX9_know_36 : decode cX9_know 36 = .ok (.if_icmp .eq 5, 3) := by decide +kernel
theorem dX9_know_39 : decode cX9_know 39 = .ok (.iconst (-1), 1) := by decide +kernel
theorem dX9_know_40 : decode cX9_know 40 = .ok (.ireturn, 1) := by decide +kernel
theorem dX9_know_41 : decode cX9_know 41 = .ok (.aload_n 0, 1) := by decide +kernel
theorem dX9_know_42 : decode cX9_know 42 = .ok (.getfield 37, 3) := by decide +kernel
theorem dX9_know_45 : decode cX9_know 45 = .ok (.iload_n 1, 1) := by decide +kernel
theorem dX9_know_46 : decode cX9_know 46 = .ok (.iload_n 2, 1) := by decide +kernel
theorem dX9_know_47 : decode cX9_know 47 = .ok (.aload_n 0, 1) := by decide +kernel
theorem dX9_know_48 : decode cX9_know 48 = .ok (.getfield 44, 3) := by decide +kernel
theorem dX9_know_51 : decode cX9_know 51 = .ok (.invokevirtual 137, 3) := by decide +kernel
theorem dX9_know_54 : decode cX9_know 54 = .ok (.aload_n 0, 1) := by decide +kernel
theorem dX9_know_55 : decode cX9_know 55 = .ok (.getfield 12, 3) := by decide +kernel
theorem dX9_know_58 : decode cX9_know 58 = .ok (.iconst 0, 1) := by decide +kernel
theorem dX9_know_59 : decode cX9_know 59 = .ok (.putfield 94, 3) := by decide +kernel
theorem dX9_know_62 : decode cX9_know 62 = .ok (.aload_n 0, 1) := by decide +kernel
theorem dX9_know_63 : decode cX9_know 63 = .ok (.iload_n 1, 1) := by decide +kernel
theorem dX9_know_64 : decode cX9_know 64 = .ok (.invokevirtual 116, 3) := by decide +kernel
theorem dX9_know_67 : decode cX9_know 67 = .ok (.aload_n 0, 1) := by decide +kernel
theorem dX9_know_68 : decode cX9_know 68 = .ok (.getfield 37, 3) := by decide +kernel
theorem dX9_know_71 : decode cX9_know 71 = .ok (.getfield 132, 3) := by decide +kernel
theorem dX9_know_74 : decode cX9_know 74 = .ok (.ireturn, 1) := by decide +kernel
theorem dX9_forget_0 : decode cX9_forget 0 = .ok (.aload_n 0, 1) := by decide +kernel
theorem dX9_forget_1 : decode cX9_forget 1 = .ok (.iload_n 1, 1) := by decide +kernel
theorem dX9_forget_2 : decode cX9_forget 2 = .ok (.iload_n 2, 1) := by decide +kernel
theorem dX9_forget_3 : decode cX9_forget 3 = .ok (.iload_n 3, 1) := by decide +kernel
theorem dX9_forget_4 : decode cX9_forget 4 = .ok (.invokevirtual 128, 3) := by decide +kernel
theorem dX9_forget_7 : decode cX9_forget 7 = .ok (.ifCond .ne 5, 3) := by decide +kernel
theorem dX9_forget_10 : decode cX9_forget 10 = .ok (.iconst 0, 1) := by decide +kernel
theorem dX9_forget_11 : decode cX9_forget 11 = .ok (.ireturn, 1) := by decide +kernel
theorem dX9_forget_12 : decode cX9_forget 12 = .ok (.aload_n 0, 1) := by decide +kernel
theorem dX9_forget_13 : decode cX9_forget 13 = .ok (.getfield 37, 3) := by decide +kernel
theorem dX9_forget_16 : decode cX9_forget 16 = .ok (.iload_n 1, 1) := by decide +kernel
theorem dX9_forget_17 : decode cX9_forget 17 = .ok (.iload_n 2, 1) := by decide +kernel
theorem dX9_forget_18 : decode cX9_forget 18 = .ok (.aload_n 0, 1) := by decide +kernel
theorem dX9_forget_19 : decode cX9_forget 19 = .ok (.getfield 44, 3) := by decide +kernel
theorem dX9_forget_22 : decode cX9_forget 22 = .ok (.invokevirtual 133, 3) := by decide +kernel
theorem dX9_forget_25 : decode cX9_forget 25 = .ok (.istore 4, 2) := by decide +kernel
theorem dX9_forget_27 : decode cX9_forget 27 = .ok (.iload 4, 2) := by decide +kernel
theorem dX9_forget_29 : decode cX9_forget 29 = .ok (.iconst (-1), 1) := by decide +kernel
theorem dX9_forget_30 : decode cX9_forget 30 = .ok (.if_icmp .ne 5, 3) := by decide +kernel
theorem dX9_forget_33 : decode cX9_forget 33 = .ok (.iconst 0, 1) := by decide +kernel
theorem dX9_forget_34 : decode cX9_forget 34 = .ok (.ireturn, 1) := by decide +kernel
theorem dX9_forget_35 : decode cX9_forget 35 = .ok (.aload_n 0, 1) := by decide +kernel
theorem dX9_forget_36 : decode cX9_forget 36 = .ok (.getfield 37, 3) := by decide +kernel
theorem dX9_forget_39 : decode cX9_forget 39 = .ok (.iload 4, 2) := by decide +kernel
theorem dX9_forget_41 : decode cX9_forget 41 = .ok (.invokevirtual 140, 3) := by decide +kernel
theorem dX9_forget_44 : decode cX9_forget 44 = .ok (.aload_n 0, 1) := by decide +kernel
theorem dX9_forget_45 : decode cX9_forget 45 = .ok (.getfield 12, 3) := by decide +kernel
theorem dX9_forget_48 : decode cX9_forget 48 = .ok (.iconst 0, 1) := by decide +kernel
theorem dX9_forget_49 : decode cX9_forget 49 = .ok (.putfield 94, 3) := by decide +kernel
theorem dX9_forget_52 : decode cX9_forget 52 = .ok (.aload_n 0, 1) := by decide +kernel
theorem dX9_forget_53 : decode cX9_forget 53 = .ok (.iload_n 1, 1) := by decide +kernel
theorem dX9_forget_54 : decode cX9_forget 54 = .ok (.invokevirtual 116, 3) := by decide +kernel
theorem dX9_forget_57 : decode cX9_forget 57 = .ok (.iconst 1, 1) := by decide +kernel
theorem dX9_forget_58 : decode cX9_forget 58 = .ok (.ireturn, 1) := by decide +kernel
theorem dX9_name_0 : decode cX9_name 0 = .ok (.iload_n 1, 1) := by decide +kernel
theorem dX9_name_1 : decode cX9_name 1 = .ok (.invokestatic 101, 3) := by decide +kernel
theorem dX9_name_4 : decode cX9_name 4 = .ok (.ifCond .eq 23, 3) := by decide +kernel
theorem dX9_name_7 : decode cX9_name 7 = .ok (.aload_n 0, 1) := by decide +kernel
theorem dX9_name_8 : decode cX9_name 8 = .ok (.getfield 12, 3) := by decide +kernel
theorem dX9_name_11 : decode cX9_name 11 = .ok (.iload_n 2, 1) := by decide +kernel
theorem dX9_name_12 : decode cX9_name 12 = .ok (.invokevirtual 105, 3) := by decide +kernel
theorem dX9_name_15 : decode cX9_name 15 = .ok (.ifCond .eq 12, 3) := by decide +kernel
theorem dX9_name_18 : decode cX9_name 18 = .ok (.aload_n 0, 1) := by decide +kernel
theorem dX9_name_19 : decode cX9_name 19 = .ok (.getfield 54, 3) := by decide +kernel
theorem dX9_name_22 : decode cX9_name 22 = .ok (.bipush 30, 2) := by decide +kernel
theorem dX9_name_24 : decode cX9_name 24 = .ok (.if_icmp .lt 5, 3) := by decide +kernel
theorem dX9_name_27 : decode cX9_name 27 = .ok (.iconst (-1), 1) := by decide +kernel
theorem dX9_name_28 : decode cX9_name 28 = .ok (.ireturn, 1) := by decide +kernel
theorem dX9_name_29 : decode cX9_name 29 = .ok (.aload_n 0, 1) := by decide +kernel
theorem dX9_name_30 : decode cX9_name 30 = .ok (.getfield 50, 3) := by decide +kernel
theorem dX9_name_33 : decode cX9_name 33 = .ok (.aload_n 0, 1) := by decide +kernel
theorem dX9_name_34 : decode cX9_name 34 = .ok (.getfield 54, 3) := by decide +kernel
theorem dX9_name_37 : decode cX9_name 37 = .ok (.aaload, 1) := by decide +kernel
theorem dX9_name_38 : decode cX9_name 38 = .ok (.astore_n 3, 1) := by decide +kernel
theorem dX9_name_39 : decode cX9_name 39 = .ok (.aload_n 3, 1) := by decide +kernel
theorem dX9_name_40 : decode cX9_name 40 = .ok (.aload_n 0, 1) := by decide +kernel
theorem dX9_name_41 : decode cX9_name 41 = .ok (.getfield 12, 3) := by decide +kernel
theorem dX9_name_44 : decode cX9_name 44 = .ok (.getfield 108, 3) := by decide +kernel
theorem dX9_name_47 : decode cX9_name 47 = .ok (.iload_n 2, 1) := by decide +kernel
theorem dX9_name_48 : decode cX9_name 48 = .ok (.invokevirtual 143, 3) := by decide +kernel
theorem dX9_name_51 : decode cX9_name 51 = .ok (.ifCond .ne 5, 3) := by decide +kernel
theorem dX9_name_54 : decode cX9_name 54 = .ok (.iconst (-1), 1) := by decide +kernel
theorem dX9_name_55 : decode cX9_name 55 = .ok (.ireturn, 1) := by decide +kernel
theorem dX9_name_56 : decode cX9_name 56 = .ok (.aload_n 3, 1) := by decide +kernel
theorem dX9_name_57 : decode cX9_name 57 = .ok (.iload_n 1, 1) := by decide +kernel
theorem dX9_name_58 : decode cX9_name 58 = .ok (.putfield 147, 3) := by decide +kernel
theorem dX9_name_61 : decode cX9_name 61 = .ok (.aload_n 3, 1) := by decide +kernel
theorem dX9_name_62 : decode cX9_name 62 = .ok (.iconst 0, 1) := by decide +kernel
theorem dX9_name_63 : decode cX9_name 63 = .ok (.putfield 150, 3) := by decide +kernel
theorem dX9_name_66 : decode cX9_name 66 = .ok (.aload_n 3, 1) := by decide +kernel
theorem dX9_name_67 : decode cX9_name 67 = .ok (.iconst 0, 1) := by decide +kernel
theorem dX9_name_68 : decode cX9_name 68 = .ok (.putfield 153, 3) := by decide +kernel
theorem dX9_name_71 : decode cX9_name 71 = .ok (.aload_n 0, 1) := by decide +kernel
theorem dX9_name_72 : decode cX9_name 72 = .ok (.getfield 12, 3) := by decide +kernel
theorem dX9_name_75 : decode cX9_name 75 = .ok (.iconst 0, 1) := by decide +kernel
theorem dX9_name_76 : decode cX9_name 76 = .ok (.putfield 94, 3) := by decide +kernel
theorem dX9_name_79 : decode cX9_name 79 = .ok (.aload_n 0, 1) := by decide +kernel
theorem dX9_name_80 : decode cX9_name 80 = .ok (.iconst 0, 1) := by decide +kernel
theorem dX9_name_81 : decode cX9_name 81 = .ok (.putfield 72, 3) := by decide +kernel
theorem dX9_name_84 : decode cX9_name 84 = .ok (.aload_n 0, 1) := by decide +kernel
theorem dX9_name_85 : decode cX9_name 85 = .ok (.dup, 1) := by decide +kernel
theorem dX9_name_86 : decode cX9_name 86 = .ok (.getfield 54, 3) := by decide +kernel
theorem dX9_name_89 : decode cX9_name 89 = .ok (.iconst 1, 1) := by decide +kernel
theorem dX9_name_90 : decode cX9_name 90 = .ok (.iadd, 1) := by decide +kernel
theorem dX9_name_91 : decode cX9_name 91 = .ok (.putfield 54, 3) := by decide +kernel
theorem dX9_name_94 : decode cX9_name 94 = .ok (.aload_n 0, 1) := by decide +kernel
theorem dX9_name_95 : decode cX9_name 95 = .ok (.getfield 54, 3) := by decide +kernel
theorem dX9_name_98 : decode cX9_name 98 = .ok (.iconst 1, 1) := by decide +kernel
theorem dX9_name_99 : decode cX9_name 99 = .ok (.isub, 1) := by decide +kernel
theorem dX9_name_100 : decode cX9_name 100 = .ok (.ireturn, 1) := by decide +kernel
theorem dX9_readings_0 : decode cX9_readings 0 = .ok (.aload_n 0, 1) := by decide +kernel
theorem dX9_readings_1 : decode cX9_readings 1 = .ok (.iload_n 1, 1) := by decide +kernel
theorem dX9_readings_2 : decode cX9_readings 2 = .ok (.invokevirtual 156, 3) := by decide +kernel
theorem dX9_readings_5 : decode cX9_readings 5 = .ok (.ifCond .eq 7, 3) := by decide +kernel
theorem dX9_readings_8 : decode cX9_readings 8 = .ok (.iload_n 2, 1) := by decide +kernel
theorem dX9_readings_9 : decode cX9_readings 9 = .ok (.ifCond .ge 5, 3) := by decide +kernel
theorem dX9_readings_12 : decode cX9_readings 12 = .ok (.iconst (-1), 1) := by decide +kernel
theorem dX9_readings_13 : decode cX9_readings 13 = .ok (.ireturn, 1) := by decide +kernel
theorem dX9_readings_14 : decode cX9_readings 14 = .ok (.aload_n 0, 1) := by decide +kernel
theorem dX9_readings_15 : decode cX9_readings 15 = .ok (.iload_n 1, 1) := by decide +kernel
theorem dX9_readings_16 : decode cX9_readings 16 = .ok (.invokevirtual 159, 3) := by decide +kernel
theorem dX9_readings_19 : decode cX9_readings 19 = .ok (.aload_n 0, 1) := by decide +kernel
theorem dX9_readings_20 : decode cX9_readings 20 = .ok (.getfield 61, 3) := by decide +kernel
theorem dX9_readings_23 : decode cX9_readings 23 = .ok (.iload_n 2, 1) := by decide +kernel
theorem dX9_readings_24 : decode cX9_readings 24 = .ok (.invokevirtual 162, 3) := by decide +kernel
theorem dX9_readings_27 : decode cX9_readings 27 = .ok (.ireturn, 1) := by decide +kernel
theorem dX9_cost_0 : decode cX9_cost 0 = .ok (.aload_n 0, 1) := by decide +kernel
theorem dX9_cost_1 : decode cX9_cost 1 = .ok (.iload_n 1, 1) := by decide +kernel
theorem dX9_cost_2 : decode cX9_cost 2 = .ok (.invokevirtual 156, 3) := by decide +kernel
theorem dX9_cost_5 : decode cX9_cost 5 = .ok (.ifCond .ne 5, 3) := by decide +kernel
end
section
theorem dX9_cost_8 : decode cX9_cost 8 = .ok (.iconst (-1), 1) := by decide +kernel
theorem dX9_cost_9 : decode cX9_cost 9 = .ok (.ireturn, 1) := by decide +kernel
theorem dX9_cost_10 : decode cX9_cost 10 = .ok (.aload_n 0, 1) := by decide +kernel
theorem dX9_cost_11 : decode cX9_cost 11 = .ok (.iload_n 1, 1) := by decide +kernel
theorem dX9_cost_12 : decode cX9_cost 12 = .ok (.invokevirtual 159, 3) := by decide +kernel
theorem dX9_cost_15 : decode cX9_cost 15 = .ok (.aload_n 0, 1) := by decide +kernel
theorem dX9_cost_16 : decode cX9_cost 16 = .ok (.getfield 61, 3) := by decide +kernel
theorem dX9_cost_19 : decode cX9_cost 19 = .ok (.iload_n 2, 1) := by decide +kernel
theorem dX9_cost_20 : decode cX9_cost 20 = .ok (.invokevirtual 166, 3) := by decide +kernel
theorem dX9_cost_23 : decode cX9_cost 23 = .ok (.ireturn, 1) := by decide +kernel
theorem dX9_kind_0 : decode cX9_kind 0 = .ok (.aload_n 0, 1) := by decide +kernel
theorem dX9_kind_1 : decode cX9_kind 1 = .ok (.iload_n 1, 1) := by decide +kernel
theorem dX9_kind_2 : decode cX9_kind 2 = .ok (.invokevirtual 156, 3) := by decide +kernel
theorem dX9_kind_5 : decode cX9_kind 5 = .ok (.ifCond .ne 5, 3) := by decide +kernel
theorem dX9_kind_8 : decode cX9_kind 8 = .ok (.iconst (-1), 1) := by decide +kernel
theorem dX9_kind_9 : decode cX9_kind 9 = .ok (.ireturn, 1) := by decide +kernel
theorem dX9_kind_10 : decode cX9_kind 10 = .ok (.aload_n 0, 1) := by decide +kernel
theorem dX9_kind_11 : decode cX9_kind 11 = .ok (.iload_n 1, 1) := by decide +kernel
theorem dX9_kind_12 : decode cX9_kind 12 = .ok (.invokevirtual 159, 3) := by decide +kernel
theorem dX9_kind_15 : decode cX9_kind 15 = .ok (.aload_n 0, 1) := by decide +kernel
theorem dX9_kind_16 : decode cX9_kind 16 = .ok (.getfield 61, 3) := by decide +kernel
theorem dX9_kind_19 : decode cX9_kind 19 = .ok (.iload_n 2, 1) := by decide +kernel
theorem dX9_kind_20 : decode cX9_kind 20 = .ok (.iload_n 3, 1) := by decide +kernel
theorem dX9_kind_21 : decode cX9_kind 21 = .ok (.invokevirtual 169, 3) := by decide +kernel
theorem dX9_kind_24 : decode cX9_kind 24 = .ok (.ireturn, 1) := by decide +kernel
theorem dX9_look_0 : decode cX9_look 0 = .ok (.aload_n 0, 1) := by decide +kernel
theorem dX9_look_1 : decode cX9_look 1 = .ok (.iload_n 1, 1) := by decide +kernel
theorem dX9_look_2 : decode cX9_look 2 = .ok (.invokevirtual 156, 3) := by decide +kernel
theorem dX9_look_5 : decode cX9_look 5 = .ok (.ifCond .ne 13, 3) := by decide +kernel
theorem dX9_look_8 : decode cX9_look 8 = .ok (.new 173, 3) := by decide +kernel
theorem dX9_look_11 : decode cX9_look 11 = .ok (.dup, 1) := by decide +kernel
theorem dX9_look_12 : decode cX9_look 12 = .ok (.ldc 175, 2) := by decide +kernel
theorem dX9_look_14 : decode cX9_look 14 = .ok (.invokespecial 177, 3) := by decide +kernel
theorem dX9_look_17 : decode cX9_look 17 = .ok (.athrow, 1) := by decide +kernel
theorem dX9_look_18 : decode cX9_look 18 = .ok (.iload_n 2, 1) := by decide +kernel
theorem dX9_look_19 : decode cX9_look 19 = .ok (.tableswitch 96 0 5 #[37, 47, 57, 67, 76, 86], 37) := by decide +kernel
theorem dX9_look_56 : decode cX9_look 56 = .ok (.aload_n 0, 1) := by decide +kernel
theorem dX9_look_57 : decode cX9_look 57 = .ok (.getfield 50, 3) := by decide +kernel
theorem dX9_look_60 : decode cX9_look 60 = .ok (.iload_n 1, 1) := by decide +kernel
theorem dX9_look_61 : decode cX9_look 61 = .ok (.aaload, 1) := by decide +kernel
theorem dX9_look_62 : decode cX9_look 62 = .ok (.getfield 147, 3) := by decide +kernel
theorem dX9_look_65 : decode cX9_look 65 = .ok (.ireturn, 1) := by decide +kernel
theorem dX9_look_66 : decode cX9_look 66 = .ok (.aload_n 0, 1) := by decide +kernel
theorem dX9_look_67 : decode cX9_look 67 = .ok (.getfield 50, 3) := by decide +kernel
theorem dX9_look_70 : decode cX9_look 70 = .ok (.iload_n 1, 1) := by decide +kernel
theorem dX9_look_71 : decode cX9_look 71 = .ok (.aaload, 1) := by decide +kernel
theorem dX9_look_72 : decode cX9_look 72 = .ok (.getfield 180, 3) := by decide +kernel
theorem dX9_look_75 : decode cX9_look 75 = .ok (.ireturn, 1) := by decide +kernel
theorem dX9_look_76 : decode cX9_look 76 = .ok (.aload_n 0, 1) := by decide +kernel
theorem dX9_look_77 : decode cX9_look 77 = .ok (.invokevirtual 181, 3) := by decide +kernel
theorem dX9_look_80 : decode cX9_look 80 = .ok (.aload_n 0, 1) := by decide +kernel
theorem dX9_look_81 : decode cX9_look 81 = .ok (.iload_n 1, 1) := by decide +kernel
theorem dX9_look_82 : decode cX9_look 82 = .ok (.invokevirtual 184, 3) := by decide +kernel
theorem dX9_look_85 : decode cX9_look 85 = .ok (.ireturn, 1) := by decide +kernel
theorem dX9_look_86 : decode cX9_look 86 = .ok (.aload_n 0, 1) := by decide +kernel
theorem dX9_look_87 : decode cX9_look 87 = .ok (.iload_n 1, 1) := by decide +kernel
theorem dX9_look_88 : decode cX9_look 88 = .ok (.invokevirtual 187, 3) := by decide +kernel
theorem dX9_look_91 : decode cX9_look 91 = .ok (.getfield 191, 3) := by decide +kernel
theorem dX9_look_94 : decode cX9_look 94 = .ok (.ireturn, 1) := by decide +kernel
theorem dX9_look_95 : decode cX9_look 95 = .ok (.aload_n 0, 1) := by decide +kernel
theorem dX9_look_96 : decode cX9_look 96 = .ok (.iload_n 1, 1) := by decide +kernel
theorem dX9_look_97 : decode cX9_look 97 = .ok (.iconst 0, 1) := by decide +kernel
theorem dX9_look_98 : decode cX9_look 98 = .ok (.invokevirtual 194, 3) := by decide +kernel
theorem dX9_look_101 : decode cX9_look 101 = .ok (.getfield 198, 3) := by decide +kernel
theorem dX9_look_104 : decode cX9_look 104 = .ok (.ireturn, 1) := by decide +kernel
theorem dX9_look_105 : decode cX9_look 105 = .ok (.aload_n 0, 1) := by decide +kernel
theorem dX9_look_106 : decode cX9_look 106 = .ok (.iload_n 1, 1) := by decide +kernel
theorem dX9_look_107 : decode cX9_look 107 = .ok (.iconst 1, 1) := by decide +kernel
theorem dX9_look_108 : decode cX9_look 108 = .ok (.invokevirtual 194, 3) := by decide +kernel
theorem dX9_look_111 : decode cX9_look 111 = .ok (.getfield 198, 3) := by decide +kernel
theorem dX9_look_114 : decode cX9_look 114 = .ok (.ireturn, 1) := by decide +kernel
theorem dX9_look_115 : decode cX9_look 115 = .ok (.new 199, 3) := by decide +kernel
theorem dX9_look_118 : decode cX9_look 118 = .ok (.dup, 1) := by decide +kernel
theorem dX9_look_119 : decode cX9_look 119 = .ok (.ldc 201, 2) := by decide +kernel
theorem dX9_look_121 : decode cX9_look 121 = .ok (.invokespecial 203, 3) := by decide +kernel
theorem dX9_look_124 : decode cX9_look 124 = .ok (.athrow, 1) := by decide +kernel
theorem dX9_order_0 : decode cX9_order 0 = .ok (.aload_n 0, 1) := by decide +kernel
theorem dX9_order_1 : decode cX9_order 1 = .ok (.iload_n 1, 1) := by decide +kernel
theorem dX9_order_2 : decode cX9_order 2 = .ok (.invokevirtual 156, 3) := by decide +kernel
theorem dX9_order_5 : decode cX9_order 5 = .ok (.ifCond .ne 5, 3) := by decide +kernel
theorem dX9_order_8 : decode cX9_order 8 = .ok (.iconst (-1), 1) := by decide +kernel
theorem dX9_order_9 : decode cX9_order 9 = .ok (.ireturn, 1) := by decide +kernel
theorem dX9_order_10 : decode cX9_order 10 = .ok (.aload_n 0, 1) := by decide +kernel
theorem dX9_order_11 : decode cX9_order 11 = .ok (.invokevirtual 181, 3) := by decide +kernel
theorem dX9_order_14 : decode cX9_order 14 = .ok (.aload_n 0, 1) := by decide +kernel
theorem dX9_order_15 : decode cX9_order 15 = .ok (.getfield 68, 3) := by decide +kernel
theorem dX9_order_18 : decode cX9_order 18 = .ok (.iload_n 1, 1) := by decide +kernel
theorem dX9_order_19 : decode cX9_order 19 = .ok (.iaload, 1) := by decide +kernel
theorem dX9_order_20 : decode cX9_order 20 = .ok (.ireturn, 1) := by decide +kernel
theorem dX9_sign_0 : decode cX9_sign 0 = .ok (.aload_n 0, 1) := by decide +kernel
theorem dX9_sign_1 : decode cX9_sign 1 = .ok (.iload_n 1, 1) := by decide +kernel
theorem dX9_sign_2 : decode cX9_sign 2 = .ok (.invokevirtual 156, 3) := by decide +kernel
theorem dX9_sign_5 : decode cX9_sign 5 = .ok (.ifCond .eq 12, 3) := by decide +kernel
theorem dX9_sign_8 : decode cX9_sign 8 = .ok (.iload_n 2, 1) := by decide +kernel
theorem dX9_sign_9 : decode cX9_sign 9 = .ok (.ifCond .lt 8, 3) := by decide +kernel
theorem dX9_sign_12 : decode cX9_sign 12 = .ok (.iload_n 2, 1) := by decide +kernel
theorem dX9_sign_13 : decode cX9_sign 13 = .ok (.iconst 2, 1) := by decide +kernel
theorem dX9_sign_14 : decode cX9_sign 14 = .ok (.if_icmp .le 5, 3) := by decide +kernel
theorem dX9_sign_17 : decode cX9_sign 17 = .ok (.iconst (-1), 1) := by decide +kernel
theorem dX9_sign_18 : decode cX9_sign 18 = .ok (.ireturn, 1) := by decide +kernel
theorem dX9_sign_19 : decode cX9_sign 19 = .ok (.aload_n 0, 1) := by decide +kernel
theorem dX9_sign_20 : decode cX9_sign 20 = .ok (.iload_n 1, 1) := by decide +kernel
theorem dX9_sign_21 : decode cX9_sign 21 = .ok (.iload_n 2, 1) := by decide +kernel
theorem dX9_sign_22 : decode cX9_sign 22 = .ok (.invokevirtual 194, 3) := by decide +kernel
theorem dX9_sign_25 : decode cX9_sign 25 = .ok (.iload_n 3, 1) := by decide +kernel
theorem dX9_sign_26 : decode cX9_sign 26 = .ok (.invokevirtual 204, 3) := by decide +kernel
theorem dX9_sign_29 : decode cX9_sign 29 = .ok (.ireturn, 1) := by decide +kernel
theorem dX9_agree_0 : decode cX9_agree 0 = .ok (.aload_n 0, 1) := by decide +kernel
theorem dX9_agree_1 : decode cX9_agree 1 = .ok (.iload_n 1, 1) := by decide +kernel
theorem dX9_agree_2 : decode cX9_agree 2 = .ok (.invokevirtual 156, 3) := by decide +kernel
theorem dX9_agree_5 : decode cX9_agree 5 = .ok (.ifCond .eq 11, 3) := by decide +kernel
theorem dX9_agree_8 : decode cX9_agree 8 = .ok (.aload_n 0, 1) := by decide +kernel
theorem dX9_agree_9 : decode cX9_agree 9 = .ok (.iload_n 2, 1) := by decide +kernel
theorem dX9_agree_10 : decode cX9_agree 10 = .ok (.invokevirtual 156, 3) := by decide +kernel
theorem dX9_agree_13 : decode cX9_agree 13 = .ok (.ifCond .ne 5, 3) := by decide +kernel
theorem dX9_agree_16 : decode cX9_agree 16 = .ok (.iconst (-1), 1) := by decide +kernel
theorem dX9_agree_17 : decode cX9_agree 17 = .ok (.ireturn, 1) := by decide +kernel
theorem dX9_agree_18 : decode cX9_agree 18 = .ok (.aload_n 0, 1) := by decide +kernel
theorem dX9_agree_19 : decode cX9_agree 19 = .ok (.iload_n 1, 1) := by decide +kernel
theorem dX9_agree_20 : decode cX9_agree 20 = .ok (.invokevirtual 187, 3) := by decide +kernel
theorem dX9_agree_23 : decode cX9_agree 23 = .ok (.astore_n 3, 1) := by decide +kernel
theorem dX9_agree_24 : decode cX9_agree 24 = .ok (.aload_n 0, 1) := by decide +kernel
theorem dX9_agree_25 : decode cX9_agree 25 = .ok (.iload_n 2, 1) := by decide +kernel
theorem dX9_agree_26 : decode cX9_agree 26 = .ok (.invokevirtual 187, 3) := by decide +kernel
theorem dX9_agree_29 : decode cX9_agree 29 = .ok (.astore 4, 2) := by decide +kernel
theorem dX9_agree_31 : decode cX9_agree 31 = .ok (.aload_n 3, 1) := by decide +kernel
theorem dX9_agree_32 : decode cX9_agree 32 = .ok (.getfield 207, 3) := by decide +kernel
theorem dX9_agree_35 : decode cX9_agree 35 = .ok (.ifCond .eq 11, 3) := by decide +kernel
theorem dX9_agree_38 : decode cX9_agree 38 = .ok (.aload 4, 2) := by decide +kernel
theorem dX9_agree_40 : decode cX9_agree 40 = .ok (.getfield 207, 3) := by decide +kernel
theorem dX9_agree_43 : decode cX9_agree 43 = .ok (.ifCond .ne 5, 3) := by decide +kernel
theorem dX9_agree_46 : decode cX9_agree 46 = .ok (.iconst (-1), 1) := by decide +kernel
theorem dX9_agree_47 : decode cX9_agree 47 = .ok (.ireturn, 1) := by decide +kernel
theorem dX9_agree_48 : decode cX9_agree 48 = .ok (.aload_n 3, 1) := by decide +kernel
theorem dX9_agree_49 : decode cX9_agree 49 = .ok (.getfield 147, 3) := by decide +kernel
theorem dX9_agree_52 : decode cX9_agree 52 = .ok (.aload 4, 2) := by decide +kernel
theorem dX9_agree_54 : decode cX9_agree 54 = .ok (.getfield 147, 3) := by decide +kernel
theorem dX9_agree_57 : decode cX9_agree 57 = .ok (.if_icmp .ne 25, 3) := by decide +kernel
theorem dX9_agree_60 : decode cX9_agree 60 = .ok (.aload_n 3, 1) := by decide +kernel
theorem dX9_agree_61 : decode cX9_agree 61 = .ok (.aload 4, 2) := by decide +kernel
theorem dX9_agree_63 : decode cX9_agree 63 = .ok (.invokestatic 210, 3) := by decide +kernel
theorem dX9_agree_66 : decode cX9_agree 66 = .ok (.ifCond .eq 16, 3) := by decide +kernel
theorem dX9_agree_69 : decode cX9_agree 69 = .ok (.aload_n 3, 1) := by decide +kernel
theorem dX9_agree_70 : decode cX9_agree 70 = .ok (.aload 4, 2) := by decide +kernel
theorem dX9_agree_72 : decode cX9_agree 72 = .ok (.invokestatic 214, 3) := by decide +kernel
theorem dX9_agree_75 : decode cX9_agree 75 = .ok (.ifCond .eq 7, 3) := by decide +kernel
theorem dX9_agree_78 : decode cX9_agree 78 = .ok (.iconst 1, 1) := by decide +kernel
theorem dX9_agree_79 : decode cX9_agree 79 = .ok (.goto 4, 3) := by decide +kernel
theorem dX9_agree_82 : decode cX9_agree 82 = .ok (.iconst 0, 1) := by decide +kernel
theorem dX9_agree_83 : decode cX9_agree 83 = .ok (.ireturn, 1) := by decide +kernel
theorem dX9_father_0 : decode cX9_father 0 = .ok (.aload_n 0, 1) := by decide +kernel
theorem dX9_father_1 : decode cX9_father 1 = .ok (.iload_n 1, 1) := by decide +kernel
theorem dX9_father_2 : decode cX9_father 2 = .ok (.invokevirtual 156, 3) := by decide +kernel
theorem dX9_father_5 : decode cX9_father 5 = .ok (.ifCond .eq 16, 3) := by decide +kernel
theorem dX9_father_8 : decode cX9_father 8 = .ok (.aload_n 0, 1) := by decide +kernel
theorem dX9_father_9 : decode cX9_father 9 = .ok (.iload_n 2, 1) := by decide +kernel
theorem dX9_father_10 : decode cX9_father 10 = .ok (.invokevirtual 156, 3) := by decide +kernel
theorem dX9_father_13 : decode cX9_father 13 = .ok (.ifCond .eq 8, 3) := by decide +kernel
theorem dX9_father_16 : decode cX9_father 16 = .ok (.iload_n 1, 1) := by decide +kernel
theorem dX9_father_17 : decode cX9_father 17 = .ok (.iload_n 2, 1) := by decide +kernel
theorem dX9_father_18 : decode cX9_father 18 = .ok (.if_icmp .ne 5, 3) := by decide +kernel
theorem dX9_father_21 : decode cX9_father 21 = .ok (.iconst (-1), 1) := by decide +kernel
theorem dX9_father_22 : decode cX9_father 22 = .ok (.ireturn, 1) := by decide +kernel
theorem dX9_father_23 : decode cX9_father 23 = .ok (.aload_n 0, 1) := by decide +kernel
theorem dX9_father_24 : decode cX9_father 24 = .ok (.iload_n 1, 1) := by decide +kernel
theorem dX9_father_25 : decode cX9_father 25 = .ok (.invokevirtual 187, 3) := by decide +kernel
theorem dX9_father_28 : decode cX9_father 28 = .ok (.astore_n 3, 1) := by decide +kernel
theorem dX9_father_29 : decode cX9_father 29 = .ok (.aload_n 0, 1) := by decide +kernel
theorem dX9_father_30 : decode cX9_father 30 = .ok (.iload_n 2, 1) := by decide +kernel
theorem dX9_father_31 : decode cX9_father 31 = .ok (.invokevirtual 187, 3) := by decide +kernel
theorem dX9_father_34 : decode cX9_father 34 = .ok (.astore 4, 2) := by decide +kernel
theorem dX9_father_36 : decode cX9_father 36 = .ok (.aload_n 3, 1) := by decide +kernel
theorem dX9_father_37 : decode cX9_father 37 = .ok (.getfield 147, 3) := by decide +kernel
theorem dX9_father_40 : decode cX9_father 40 = .ok (.aload 4, 2) := by decide +kernel
theorem dX9_father_42 : decode cX9_father 42 = .ok (.getfield 147, 3) := by decide +kernel
theorem dX9_father_45 : decode cX9_father 45 = .ok (.if_icmp .eq 5, 3) := by decide +kernel
theorem dX9_father_48 : decode cX9_father 48 = .ok (.iconst (-1), 1) := by decide +kernel
theorem dX9_father_49 : decode cX9_father 49 = .ok (.ireturn, 1) := by decide +kernel
theorem dX9_father_50 : decode cX9_father 50 = .ok (.aload_n 3, 1) := by decide +kernel
theorem dX9_father_51 : decode cX9_father 51 = .ok (.bipush 32, 2) := by decide +kernel
theorem dX9_father_53 : decode cX9_father 53 = .ok (.iconst 0, 1) := by decide +kernel
theorem dX9_father_54 : decode cX9_father 54 = .ok (.invokevirtual 217, 3) := by decide +kernel
theorem dX9_father_57 : decode cX9_father 57 = .ok (.istore 5, 2) := by decide +kernel
theorem dX9_father_59 : decode cX9_father 59 = .ok (.aload 4, 2) := by decide +kernel
theorem dX9_father_61 : decode cX9_father 61 = .ok (.iconst 2, 1) := by decide +kernel
theorem dX9_father_62 : decode cX9_father 62 = .ok (.iconst 0, 1) := by decide +kernel
theorem dX9_father_63 : decode cX9_father 63 = .ok (.invokevirtual 217, 3) := by decide +kernel
theorem dX9_father_66 : decode cX9_father 66 = .ok (.istore 6, 2) := by decide +kernel
theorem dX9_father_68 : decode cX9_father 68 = .ok (.iload 5, 2) := by decide +kernel
theorem dX9_father_70 : decode cX9_father 70 = .ok (.iconst (-1), 1) := by decide +kernel
theorem dX9_father_71 : decode cX9_father 71 = .ok (.if_icmp .eq 9, 3) := by decide +kernel
theorem dX9_father_74 : decode cX9_father 74 = .ok (.iload 6, 2) := by decide +kernel
theorem dX9_father_76 : decode cX9_father 76 = .ok (.iconst (-1), 1) := by decide +kernel
theorem dX9_father_77 : decode cX9_father 77 = .ok (.if_icmp .ne 5, 3) := by decide +kernel
theorem dX9_father_80 : decode cX9_father 80 = .ok (.iconst (-1), 1) := by decide +kernel
theorem dX9_father_81 : decode cX9_father 81 = .ok (.ireturn, 1) := by decide +kernel
theorem dX9_father_82 : decode cX9_father 82 = .ok (.aload_n 0, 1) := by decide +kernel
theorem dX9_father_83 : decode cX9_father 83 = .ok (.getfield 18, 3) := by decide +kernel
theorem dX9_father_86 : decode cX9_father 86 = .ok (.aload_n 3, 1) := by decide +kernel
theorem dX9_father_87 : decode cX9_father 87 = .ok (.getfield 147, 3) := by decide +kernel
theorem dX9_father_90 : decode cX9_father 90 = .ok (.aaload, 1) := by decide +kernel
theorem dX9_father_91 : decode cX9_father 91 = .ok (.aload 4, 2) := by decide +kernel
theorem dX9_father_93 : decode cX9_father 93 = .ok (.getfield 220, 3) := by decide +kernel
theorem dX9_father_96 : decode cX9_father 96 = .ok (.iload 6, 2) := by decide +kernel
theorem dX9_father_98 : decode cX9_father 98 = .ok (.aaload, 1) := by decide +kernel
theorem dX9_father_99 : decode cX9_father 99 = .ok (.aload_n 3, 1) := by decide +kernel
theorem dX9_father_100 : decode cX9_father 100 = .ok (.getfield 220, 3) := by decide +kernel
theorem dX9_father_103 : decode cX9_father 103 = .ok (.iload 5, 2) := by decide +kernel
theorem dX9_father_105 : decode cX9_father 105 = .ok (.aaload, 1) := by decide +kernel
theorem dX9_father_106 : decode cX9_father 106 = .ok (.invokevirtual 224, 3) := by decide +kernel
theorem dX9_father_109 : decode cX9_father 109 = .ok (.ifCond .eq 7, 3) := by decide +kernel
theorem dX9_father_112 : decode cX9_father 112 = .ok (.iconst 1, 1) := by decide +kernel
theorem dX9_father_113 : decode cX9_father 113 = .ok (.goto 4, 3) := by decide +kernel
theorem dX9_father_116 : decode cX9_father 116 = .ok (.iconst 0, 1) := by decide +kernel
theorem dX9_father_117 : decode cX9_father 117 = .ok (.ireturn, 1) := by decide +kernel
theorem dX9_table_0 : decode cX9_table 0 = .ok (.aload_n 0, 1) := by decide +kernel
theorem dX9_table_1 : decode cX9_table 1 = .ok (.getfield 12, 3) := by decide +kernel
theorem dX9_table_4 : decode cX9_table 4 = .ok (.iload_n 2, 1) := by decide +kernel
theorem dX9_table_5 : decode cX9_table 5 = .ok (.invokevirtual 105, 3) := by decide +kernel
theorem dX9_table_8 : decode cX9_table 8 = .ok (.ifCond .eq 22, 3) := by decide +kernel
theorem dX9_table_11 : decode cX9_table 11 = .ok (.aload_n 0, 1) := by decide +kernel
theorem dX9_table_12 : decode cX9_table 12 = .ok (.getfield 79, 3) := by decide +kernel
theorem dX9_table_15 : decode cX9_table 15 = .ok (.iload_n 1, 1) := by decide +kernel
theorem dX9_table_16 : decode cX9_table 16 = .ok (.aload_n 0, 1) := by decide +kernel
theorem dX9_table_17 : decode cX9_table 17 = .ok (.getfield 12, 3) := by decide +kernel
theorem dX9_table_20 : decode cX9_table 20 = .ok (.getfield 108, 3) := by decide +kernel
theorem dX9_table_23 : decode cX9_table 23 = .ok (.iload_n 2, 1) := by decide +kernel
theorem dX9_table_24 : decode cX9_table 24 = .ok (.invokevirtual 228, 3) := by decide +kernel
theorem dX9_table_27 : decode cX9_table 27 = .ok (.ifCond .ne 5, 3) := by decide +kernel
theorem dX9_table_30 : decode cX9_table 30 = .ok (.iconst 0, 1) := by decide +kernel
theorem dX9_table_31 : decode cX9_table 31 = .ok (.ireturn, 1) := by decide +kernel
theorem dX9_table_32 : decode cX9_table 32 = .ok (.aload_n 0, 1) := by decide +kernel
theorem dX9_table_33 : decode cX9_table 33 = .ok (.getfield 12, 3) := by decide +kernel
theorem dX9_table_36 : decode cX9_table 36 = .ok (.iconst 0, 1) := by decide +kernel
theorem dX9_table_37 : decode cX9_table 37 = .ok (.putfield 94, 3) := by decide +kernel
theorem dX9_table_40 : decode cX9_table 40 = .ok (.iconst 0, 1) := by decide +kernel
theorem dX9_table_41 : decode cX9_table 41 = .ok (.istore_n 3, 1) := by decide +kernel
theorem dX9_table_42 : decode cX9_table 42 = .ok (.iload_n 3, 1) := by decide +kernel
theorem dX9_table_43 : decode cX9_table 43 = .ok (.bipush 30, 2) := by decide +kernel
theorem dX9_table_45 : decode cX9_table 45 = .ok (.if_icmp .ge 19, 3) := by decide +kernel
theorem dX9_table_48 : decode cX9_table 48 = .ok (.aload_n 0, 1) := by decide +kernel
theorem dX9_table_49 : decode cX9_table 49 = .ok (.getfield 50, 3) := by decide +kernel
theorem dX9_table_52 : decode cX9_table 52 = .ok (.iload_n 3, 1) := by decide +kernel
theorem dX9_table_53 : decode cX9_table 53 = .ok (.aaload, 1) := by decide +kernel
theorem dX9_table_54 : decode cX9_table 54 = .ok (.iconst 0, 1) := by decide +kernel
theorem dX9_table_55 : decode cX9_table 55 = .ok (.putfield 153, 3) := by decide +kernel
theorem dX9_table_58 : decode cX9_table 58 = .ok (.iinc 3 1, 3) := by decide +kernel
theorem dX9_table_61 : decode cX9_table 61 = .ok (.goto (-19), 3) := by decide +kernel
theorem dX9_table_64 : decode cX9_table 64 = .ok (.iconst 1, 1) := by decide +kernel
theorem dX9_table_65 : decode cX9_table 65 = .ok (.ireturn, 1) := by decide +kernel
theorem dX9_fallen_0 : decode cX9_fallen 0 = .ok (.iconst 0, 1) := by decide +kernel
theorem dX9_fallen_1 : decode cX9_fallen 1 = .ok (.istore_n 1, 1) := by decide +kernel
theorem dX9_fallen_2 : decode cX9_fallen 2 = .ok (.iconst 0, 1) := by decide +kernel
theorem dX9_fallen_3 : decode cX9_fallen 3 = .ok (.istore_n 2, 1) := by decide +kernel
theorem dX9_fallen_4 : decode cX9_fallen 4 = .ok (.iload_n 2, 1) := by decide +kernel
theorem dX9_fallen_5 : decode cX9_fallen 5 = .ok (.aload_n 0, 1) := by decide +kernel
theorem dX9_fallen_6 : decode cX9_fallen 6 = .ok (.getfield 54, 3) := by decide +kernel
theorem dX9_fallen_9 : decode cX9_fallen 9 = .ok (.if_icmp .ge 69, 3) := by decide +kernel
theorem dX9_fallen_12 : decode cX9_fallen 12 = .ok (.iconst 0, 1) := by decide +kernel
theorem dX9_fallen_13 : decode cX9_fallen 13 = .ok (.istore_n 3, 1) := by decide +kernel
theorem dX9_fallen_14 : decode cX9_fallen 14 = .ok (.iload_n 3, 1) := by decide +kernel
theorem dX9_fallen_15 : decode cX9_fallen 15 = .ok (.iload_n 2, 1) := by decide +kernel
theorem dX9_fallen_16 : decode cX9_fallen 16 = .ok (.if_icmp .ge 56, 3) := by decide +kernel
theorem dX9_fallen_19 : decode cX9_fallen 19 = .ok (.aload_n 0, 1) := by decide +kernel
theorem dX9_fallen_20 : decode cX9_fallen 20 = .ok (.aload_n 0, 1) := by decide +kernel
theorem dX9_fallen_21 : decode cX9_fallen 21 = .ok (.getfield 50, 3) := by decide +kernel
theorem dX9_fallen_24 : decode cX9_fallen 24 = .ok (.iload_n 2, 1) := by decide +kernel
theorem dX9_fallen_25 : decode cX9_fallen 25 = .ok (.aaload, 1) := by decide +kernel
theorem dX9_fallen_26 : decode cX9_fallen 26 = .ok (.invokevirtual 232, 3) := by decide +kernel
theorem dX9_fallen_29 : decode cX9_fallen 29 = .ok (.aload_n 0, 1) := by decide +kernel
theorem dX9_fallen_30 : decode cX9_fallen 30 = .ok (.aload_n 0, 1) := by decide +kernel
theorem dX9_fallen_31 : decode cX9_fallen 31 = .ok (.getfield 50, 3) := by decide +kernel
theorem dX9_fallen_34 : decode cX9_fallen 34 = .ok (.iload_n 3, 1) := by decide +kernel
theorem dX9_fallen_35 : decode cX9_fallen 35 = .ok (.aaload, 1) := by decide +kernel
theorem dX9_fallen_36 : decode cX9_fallen 36 = .ok (.invokevirtual 232, 3) := by decide +kernel
theorem dX9_fallen_39 : decode cX9_fallen 39 = .ok (.invokevirtual 236, 3) := by decide +kernel
theorem dX9_fallen_42 : decode cX9_fallen 42 = .ok (.ifCond .eq 24, 3) := by decide +kernel
theorem dX9_fallen_45 : decode cX9_fallen 45 = .ok (.aload_n 0, 1) := by decide +kernel
theorem dX9_fallen_46 : decode cX9_fallen 46 = .ok (.getfield 50, 3) := by decide +kernel
theorem dX9_fallen_49 : decode cX9_fallen 49 = .ok (.iload_n 2, 1) := by decide +kernel
theorem dX9_fallen_50 : decode cX9_fallen 50 = .ok (.aaload, 1) := by decide +kernel
theorem dX9_fallen_51 : decode cX9_fallen 51 = .ok (.aload_n 0, 1) := by decide +kernel
theorem dX9_fallen_52 : decode cX9_fallen 52 = .ok (.getfield 50, 3) := by decide +kernel
theorem dX9_fallen_55 : decode cX9_fallen 55 = .ok (.iload_n 3, 1) := by decide +kernel
theorem dX9_fallen_56 : decode cX9_fallen 56 = .ok (.aaload, 1) := by decide +kernel
theorem dX9_fallen_57 : decode cX9_fallen 57 = .ok (.invokevirtual 240, 3) := by decide +kernel
theorem dX9_fallen_60 : decode cX9_fallen 60 = .ok (.ifCond .ne 6, 3) := by decide +kernel
theorem dX9_fallen_63 : decode cX9_fallen 63 = .ok (.iinc 1 1, 3) := by decide +kernel
theorem dX9_fallen_66 : decode cX9_fallen 66 = .ok (.iinc 3 1, 3) := by decide +kernel
theorem dX9_fallen_69 : decode cX9_fallen 69 = .ok (.goto (-55), 3) := by decide +kernel
theorem dX9_fallen_72 : decode cX9_fallen 72 = .ok (.iinc 2 1, 3) := by decide +kernel
theorem dX9_fallen_75 : decode cX9_fallen 75 = .ok (.goto (-71), 3) := by decide +kernel
theorem dX9_fallen_78 : decode cX9_fallen 78 = .ok (.iload_n 1, 1) := by decide +kernel
theorem dX9_fallen_79 : decode cX9_fallen 79 = .ok (.ireturn, 1) := by decide +kernel
theorem dX9_count_0 : decode cX9_count 0 = .ok (.iload_n 1, 1) := by decide +kernel
theorem dX9_count_1 : decode cX9_count 1 = .ok (.tableswitch 45 0 2 #[27, 35, 40], 27) := by decide +kernel
theorem dX9_count_28 : decode cX9_count 28 = .ok (.aload_n 0, 1) := by decide +kernel
theorem dX9_count_29 : decode cX9_count 29 = .ok (.getfield 37, 3) := by decide +kernel
theorem dX9_count_32 : decode cX9_count 32 = .ok (.getfield 132, 3) := by decide +kernel
theorem dX9_count_35 : decode cX9_count 35 = .ok (.ireturn, 1) := by decide +kernel
theorem dX9_count_36 : decode cX9_count 36 = .ok (.aload_n 0, 1) := by decide +kernel
theorem dX9_count_37 : decode cX9_count 37 = .ok (.getfield 54, 3) := by decide +kernel
theorem dX9_count_40 : decode cX9_count 40 = .ok (.ireturn, 1) := by decide +kernel
theorem dX9_count_41 : decode cX9_count 41 = .ok (.aload_n 0, 1) := by decide +kernel
theorem dX9_count_42 : decode cX9_count 42 = .ok (.invokevirtual 244, 3) := by decide +kernel
theorem dX9_count_45 : decode cX9_count 45 = .ok (.ireturn, 1) := by decide +kernel
theorem dX9_count_46 : decode cX9_count 46 = .ok (.iconst (-1), 1) := by decide +kernel
theorem dX9_count_47 : decode cX9_count 47 = .ok (.ireturn, 1) := by decide +kernel
theorem dX9_isLand_0 : decode cX9_isLand 0 = .ok (.iload_n 0, 1) := by decide +kernel
theorem dX9_isLand_1 : decode cX9_isLand 1 = .ok (.ifCond .lt 13, 3) := by decide +kernel
theorem dX9_isLand_4 : decode cX9_isLand 4 = .ok (.iload_n 0, 1) := by decide +kernel
theorem dX9_isLand_5 : decode cX9_isLand 5 = .ok (.bipush 6, 2) := by decide +kernel
theorem dX9_isLand_7 : decode cX9_isLand 7 = .ok (.if_icmp .ge 7, 3) := by decide +kernel
theorem dX9_isLand_10 : decode cX9_isLand 10 = .ok (.iconst 1, 1) := by decide +kernel
theorem dX9_isLand_11 : decode cX9_isLand 11 = .ok (.goto 4, 3) := by decide +kernel
theorem dX9_isLand_14 : decode cX9_isLand 14 = .ok (.iconst 0, 1) := by decide +kernel
theorem dX9_isLand_15 : decode cX9_isLand 15 = .ok (.ireturn, 1) := by decide +kernel
theorem dX9_isName_0 : decode cX9_isName 0 = .ok (.iload_n 1, 1) := by decide +kernel
theorem dX9_isName_1 : decode cX9_isName 1 = .ok (.ifCond .lt 15, 3) := by decide +kernel
theorem dX9_isName_4 : decode cX9_isName 4 = .ok (.iload_n 1, 1) := by decide +kernel
theorem dX9_isName_5 : decode cX9_isName 5 = .ok (.aload_n 0, 1) := by decide +kernel
theorem dX9_isName_6 : decode cX9_isName 6 = .ok (.getfield 54, 3) := by decide +kernel
theorem dX9_isName_9 : decode cX9_isName 9 = .ok (.if_icmp .ge 7, 3) := by decide +kernel
theorem dX9_isName_12 : decode cX9_isName 12 = .ok (.iconst 1, 1) := by decide +kernel
theorem dX9_isName_13 : decode cX9_isName 13 = .ok (.goto 4, 3) := by decide +kernel
theorem dX9_isName_16 : decode cX9_isName 16 = .ok (.iconst 0, 1) := by decide +kernel
theorem dX9_isName_17 : decode cX9_isName 17 = .ok (.ireturn, 1) := by decide +kernel
theorem dX9_isEntry_0 : decode cX9_isEntry 0 = .ok (.iload_n 1, 1) := by decide +kernel
theorem dX9_isEntry_1 : decode cX9_isEntry 1 = .ok (.invokestatic 101, 3) := by decide +kernel
theorem dX9_isEntry_4 : decode cX9_isEntry 4 = .ok (.ifCond .eq 46, 3) := by decide +kernel
theorem dX9_isEntry_7 : decode cX9_isEntry 7 = .ok (.iload_n 2, 1) := by decide +kernel
theorem dX9_isEntry_8 : decode cX9_isEntry 8 = .ok (.ifCond .lt 42, 3) := by decide +kernel
theorem dX9_isEntry_11 : decode cX9_isEntry 11 = .ok (.iload_n 2, 1) := by decide +kernel
theorem dX9_isEntry_12 : decode cX9_isEntry 12 = .ok (.iconst 4, 1) := by decide +kernel
theorem dX9_isEntry_13 : decode cX9_isEntry 13 = .ok (.if_icmp .gt 37, 3) := by decide +kernel
theorem dX9_isEntry_16 : decode cX9_isEntry 16 = .ok (.aload_n 0, 1) := by decide +kernel
theorem dX9_isEntry_17 : decode cX9_isEntry 17 = .ok (.getfield 12, 3) := by decide +kernel
theorem dX9_isEntry_20 : decode cX9_isEntry 20 = .ok (.iload_n 3, 1) := by decide +kernel
theorem dX9_isEntry_21 : decode cX9_isEntry 21 = .ok (.invokevirtual 105, 3) := by decide +kernel
theorem dX9_isEntry_24 : decode cX9_isEntry 24 = .ok (.ifCond .eq 26, 3) := by decide +kernel
theorem dX9_isEntry_27 : decode cX9_isEntry 27 = .ok (.aload_n 0, 1) := by decide +kernel
theorem dX9_isEntry_28 : decode cX9_isEntry 28 = .ok (.getfield 44, 3) := by decide +kernel
theorem dX9_isEntry_31 : decode cX9_isEntry 31 = .ok (.aload_n 0, 1) := by decide +kernel
theorem dX9_isEntry_32 : decode cX9_isEntry 32 = .ok (.getfield 12, 3) := by decide +kernel
theorem dX9_isEntry_35 : decode cX9_isEntry 35 = .ok (.getfield 108, 3) := by decide +kernel
theorem dX9_isEntry_38 : decode cX9_isEntry 38 = .ok (.iconst 0, 1) := by decide +kernel
theorem dX9_isEntry_39 : decode cX9_isEntry 39 = .ok (.iload_n 3, 1) := by decide +kernel
theorem dX9_isEntry_40 : decode cX9_isEntry 40 = .ok (.invokevirtual 248, 3) := by decide +kernel
theorem dX9_isEntry_43 : decode cX9_isEntry 43 = .ok (.ifCond .eq 7, 3) := by decide +kernel
theorem dX9_isEntry_46 : decode cX9_isEntry 46 = .ok (.iconst 1, 1) := by decide +kernel
theorem dX9_isEntry_47 : decode cX9_isEntry 47 = .ok (.goto 4, 3) := by decide +kernel
theorem dX9_isEntry_50 : decode cX9_isEntry 50 = .ok (.iconst 0, 1) := by decide +kernel
theorem dX9_isEntry_51 : decode cX9_isEntry 51 = .ok (.ireturn, 1) := by decide +kernel
theorem dX9_shapeCount_0 : decode cX9_shapeCount 0 = .ok (.iconst 0, 1) := by decide +kernel
theorem dX9_shapeCount_1 : decode cX9_shapeCount 1 = .ok (.istore_n 1, 1) := by decide +kernel
theorem dX9_shapeCount_2 : decode cX9_shapeCount 2 = .ok (.iconst 0, 1) := by decide +kernel
theorem dX9_shapeCount_3 : decode cX9_shapeCount 3 = .ok (.istore_n 2, 1) := by decide +kernel
theorem dX9_shapeCount_4 : decode cX9_shapeCount 4 = .ok (.iload_n 2, 1) := by decide +kernel
theorem dX9_shapeCount_5 : decode cX9_shapeCount 5 = .ok (.bipush 6, 2) := by decide +kernel
theorem dX9_shapeCount_7 : decode cX9_shapeCount 7 = .ok (.if_icmp .ge 29, 3) := by decide +kernel
theorem dX9_shapeCount_10 : decode cX9_shapeCount 10 = .ok (.iload_n 1, 1) := by decide +kernel
theorem dX9_shapeCount_11 : decode cX9_shapeCount 11 = .ok (.aload_n 0, 1) := by decide +kernel
theorem dX9_shapeCount_12 : decode cX9_shapeCount 12 = .ok (.getfield 18, 3) := by decide +kernel
theorem dX9_shapeCount_15 : decode cX9_shapeCount 15 = .ok (.iload_n 2, 1) := by decide +kernel
theorem dX9_shapeCount_16 : decode cX9_shapeCount 16 = .ok (.aaload, 1) := by decide +kernel
theorem dX9_shapeCount_17 : decode cX9_shapeCount 17 = .ok (.getfield 119, 3) := by decide +kernel
theorem dX9_shapeCount_20 : decode cX9_shapeCount 20 = .ok (.ifCond .le 7, 3) := by decide +kernel
theorem dX9_shapeCount_23 : decode cX9_shapeCount 23 = .ok (.iconst 1, 1) := by decide +kernel
theorem dX9_shapeCount_24 : decode cX9_shapeCount 24 = .ok (.goto 4, 3) := by decide +kernel
theorem dX9_shapeCount_27 : decode cX9_shapeCount 27 = .ok (.iconst 0, 1) := by decide +kernel
theorem dX9_shapeCount_28 : decode cX9_shapeCount 28 = .ok (.iadd, 1) := by decide +kernel
theorem dX9_shapeCount_29 : decode cX9_shapeCount 29 = .ok (.istore_n 1, 1) := by decide +kernel
theorem dX9_shapeCount_30 : decode cX9_shapeCount 30 = .ok (.iinc 2 1, 3) := by decide +kernel
theorem dX9_shapeCount_33 : decode cX9_shapeCount 33 = .ok (.goto (-29), 3) := by decide +kernel
theorem dX9_shapeCount_36 : decode cX9_shapeCount 36 = .ok (.iload_n 1, 1) := by decide +kernel
theorem dX9_shapeCount_37 : decode cX9_shapeCount 37 = .ok (.ireturn, 1) := by decide +kernel
theorem dX9_landChanged_0 : decode cX9_landChanged 0 = .ok (.iconst 0, 1) := by decide +kernel
theorem dX9_landChanged_1 : decode cX9_landChanged 1 = .ok (.istore_n 2, 1) := by decide +kernel
theorem dX9_landChanged_2 : decode cX9_landChanged 2 = .ok (.iload_n 2, 1) := by decide +kernel
theorem dX9_landChanged_3 : decode cX9_landChanged 3 = .ok (.aload_n 0, 1) := by decide +kernel
theorem dX9_landChanged_4 : decode cX9_landChanged 4 = .ok (.getfield 54, 3) := by decide +kernel
theorem dX9_landChanged_7 : decode cX9_landChanged 7 = .ok (.if_icmp .ge 32, 3) := by decide +kernel
theorem dX9_landChanged_10 : decode cX9_landChanged 10 = .ok (.aload_n 0, 1) := by decide +kernel
theorem dX9_landChanged_11 : decode cX9_landChanged 11 = .ok (.getfield 50, 3) := by decide +kernel
theorem dX9_landChanged_14 : decode cX9_landChanged 14 = .ok (.iload_n 2, 1) := by decide +kernel
theorem dX9_landChanged_15 : decode cX9_landChanged 15 = .ok (.aaload, 1) := by decide +kernel
theorem dX9_landChanged_16 : decode cX9_landChanged 16 = .ok (.getfield 147, 3) := by decide +kernel
theorem dX9_landChanged_19 : decode cX9_landChanged 19 = .ok (.iload_n 1, 1) := by decide +kernel
theorem dX9_landChanged_20 : decode cX9_landChanged 20 = .ok (.if_icmp .ne 13, 3) := by decide +kernel
theorem dX9_landChanged_23 : decode cX9_landChanged 23 = .ok (.aload_n 0, 1) := by decide +kernel
theorem dX9_landChanged_24 : decode cX9_landChanged 24 = .ok (.getfield 50, 3) := by decide +kernel
theorem dX9_landChanged_27 : decode cX9_landChanged 27 = .ok (.iload_n 2, 1) := by decide +kernel
theorem dX9_landChanged_28 : decode cX9_landChanged 28 = .ok (.aaload, 1) := by decide +kernel
theorem dX9_landChanged_29 : decode cX9_landChanged 29 = .ok (.iconst 0, 1) := by decide +kernel
theorem dX9_landChanged_30 : decode cX9_landChanged 30 = .ok (.putfield 150, 3) := by decide +kernel
theorem dX9_landChanged_33 : decode cX9_landChanged 33 = .ok (.iinc 2 1, 3) := by decide +kernel
theorem dX9_landChanged_36 : decode cX9_landChanged 36 = .ok (.goto (-34), 3) := by decide +kernel
theorem dX9_landChanged_39 : decode cX9_landChanged 39 = .ok (.aload_n 0, 1) := by decide +kernel
theorem dX9_landChanged_40 : decode cX9_landChanged 40 = .ok (.iconst (-1), 1) := by decide +kernel
theorem dX9_landChanged_41 : decode cX9_landChanged 41 = .ok (.putfield 65, 3) := by decide +kernel
theorem dX9_landChanged_44 : decode cX9_landChanged 44 = .ok (.aload_n 0, 1) := by decide +kernel
theorem dX9_landChanged_45 : decode cX9_landChanged 45 = .ok (.iconst 0, 1) := by decide +kernel
theorem dX9_landChanged_46 : decode cX9_landChanged 46 = .ok (.putfield 72, 3) := by decide +kernel
theorem dX9_landChanged_49 : decode cX9_landChanged 49 = .ok (.return_, 1) := by decide +kernel
theorem dX9_listReadings_0 : decode cX9_listReadings 0 = .ok (.aload_n 0, 1) := by decide +kernel
theorem dX9_listReadings_1 : decode cX9_listReadings 1 = .ok (.getfield 65, 3) := by decide +kernel
theorem dX9_listReadings_4 : decode cX9_listReadings 4 = .ok (.iload_n 1, 1) := by decide +kernel
theorem dX9_listReadings_5 : decode cX9_listReadings 5 = .ok (.if_icmp .eq 43, 3) := by decide +kernel
theorem dX9_listReadings_8 : decode cX9_listReadings 8 = .ok (.aload_n 0, 1) := by decide +kernel
theorem dX9_listReadings_9 : decode cX9_listReadings 9 = .ok (.getfield 50, 3) := by decide +kernel
theorem dX9_listReadings_12 : decode cX9_listReadings 12 = .ok (.iload_n 1, 1) := by decide +kernel
theorem dX9_listReadings_13 : decode cX9_listReadings 13 = .ok (.aaload, 1) := by decide +kernel
theorem dX9_listReadings_14 : decode cX9_listReadings 14 = .ok (.astore_n 2, 1) := by decide +kernel
theorem dX9_listReadings_15 : decode cX9_listReadings 15 = .ok (.aload_n 0, 1) := by decide +kernel
theorem dX9_listReadings_16 : decode cX9_listReadings 16 = .ok (.getfield 61, 3) := by decide +kernel
theorem dX9_listReadings_19 : decode cX9_listReadings 19 = .ok (.aload_n 2, 1) := by decide +kernel
theorem dX9_listReadings_20 : decode cX9_listReadings 20 = .ok (.aload_n 0, 1) := by decide +kernel
theorem dX9_listReadings_21 : decode cX9_listReadings 21 = .ok (.getfield 18, 3) := by decide +kernel
theorem dX9_listReadings_24 : decode cX9_listReadings 24 = .ok (.aload_n 2, 1) := by decide +kernel
theorem dX9_listReadings_25 : decode cX9_listReadings 25 = .ok (.getfield 147, 3) := by decide +kernel
theorem dX9_listReadings_28 : decode cX9_listReadings 28 = .ok (.aaload, 1) := by decide +kernel
theorem dX9_listReadings_29 : decode cX9_listReadings 29 = .ok (.aload_n 0, 1) := by decide +kernel
theorem dX9_listReadings_30 : decode cX9_listReadings 30 = .ok (.getfield 37, 3) := by decide +kernel
theorem dX9_listReadings_33 : decode cX9_listReadings 33 = .ok (.invokevirtual 251, 3) := by decide +kernel
theorem dX9_listReadings_36 : decode cX9_listReadings 36 = .ok (.aload_n 0, 1) := by decide +kernel
theorem dX9_listReadings_37 : decode cX9_listReadings 37 = .ok (.getfield 61, 3) := by decide +kernel
theorem dX9_listReadings_40 : decode cX9_listReadings 40 = .ok (.invokevirtual 255, 3) := by decide +kernel
theorem dX9_listReadings_43 : decode cX9_listReadings 43 = .ok (.aload_n 0, 1) := by decide +kernel
theorem dX9_listReadings_44 : decode cX9_listReadings 44 = .ok (.iload_n 1, 1) := by decide +kernel
theorem dX9_listReadings_45 : decode cX9_listReadings 45 = .ok (.putfield 65, 3) := by decide +kernel
theorem dX9_listReadings_48 : decode cX9_listReadings 48 = .ok (.return_, 1) := by decide +kernel
theorem dX9_freshName_0 : decode cX9_freshName 0 = .ok (.aload_n 0, 1) := by decide +kernel
theorem dX9_freshName_1 : decode cX9_freshName 1 = .ok (.getfield 50, 3) := by decide +kernel
theorem dX9_freshName_4 : decode cX9_freshName 4 = .ok (.iload_n 1, 1) := by decide +kernel
theorem dX9_freshName_5 : decode cX9_freshName 5 = .ok (.aaload, 1) := by decide +kernel
theorem dX9_freshName_6 : decode cX9_freshName 6 = .ok (.astore_n 2, 1) := by decide +kernel
theorem dX9_freshName_7 : decode cX9_freshName 7 = .ok (.aload_n 2, 1) := by decide +kernel
theorem dX9_freshName_8 : decode cX9_freshName 8 = .ok (.getfield 150, 3) := by decide +kernel
theorem dX9_freshName_11 : decode cX9_freshName 11 = .ok (.ifCond .ne 71, 3) := by decide +kernel
theorem dX9_freshName_14 : decode cX9_freshName 14 = .ok (.aload_n 0, 1) := by decide +kernel
theorem dX9_freshName_15 : decode cX9_freshName 15 = .ok (.getfield 18, 3) := by decide +kernel
theorem dX9_freshName_18 : decode cX9_freshName 18 = .ok (.aload_n 2, 1) := by decide +kernel
theorem dX9_freshName_19 : decode cX9_freshName 19 = .ok (.getfield 147, 3) := by decide +kernel
theorem dX9_freshName_22 : decode cX9_freshName 22 = .ok (.aaload, 1) := by decide +kernel
theorem dX9_freshName_23 : decode cX9_freshName 23 = .ok (.astore_n 3, 1) := by decide +kernel
theorem dX9_freshName_24 : decode cX9_freshName 24 = .ok (.aload_n 0, 1) := by decide +kernel
theorem dX9_freshName_25 : decode cX9_freshName 25 = .ok (.iconst (-1), 1) := by decide +kernel
theorem dX9_freshName_26 : decode cX9_freshName 26 = .ok (.putfield 65, 3) := by decide +kernel
theorem dX9_freshName_29 : decode cX9_freshName 29 = .ok (.aload_n 0, 1) := by decide +kernel
theorem dX9_freshName_30 : decode cX9_freshName 30 = .ok (.getfield 61, 3) := by decide +kernel
theorem dX9_freshName_33 : decode cX9_freshName 33 = .ok (.aload_n 2, 1) := by decide +kernel
theorem dX9_freshName_34 : decode cX9_freshName 34 = .ok (.aload_n 3, 1) := by decide +kernel
theorem dX9_freshName_35 : decode cX9_freshName 35 = .ok (.aload_n 0, 1) := by decide +kernel
theorem dX9_freshName_36 : decode cX9_freshName 36 = .ok (.getfield 37, 3) := by decide +kernel
theorem dX9_freshName_39 : decode cX9_freshName 39 = .ok (.invokevirtual 251, 3) := by decide +kernel
theorem dX9_freshName_42 : decode cX9_freshName 42 = .ok (.aload_n 2, 1) := by decide +kernel
theorem dX9_freshName_43 : decode cX9_freshName 43 = .ok (.aload_n 0, 1) := by decide +kernel
theorem dX9_freshName_44 : decode cX9_freshName 44 = .ok (.getfield 61, 3) := by decide +kernel
theorem dX9_freshName_47 : decode cX9_freshName 47 = .ok (.aload_n 2, 1) := by decide +kernel
theorem dX9_freshName_48 : decode cX9_freshName 48 = .ok (.getfield 258, 3) := by decide +kernel
theorem dX9_freshName_51 : decode cX9_freshName 51 = .ok (.invokevirtual 261, 3) := by decide +kernel
theorem dX9_freshName_54 : decode cX9_freshName 54 = .ok (.putfield 207, 3) := by decide +kernel
theorem dX9_freshName_57 : decode cX9_freshName 57 = .ok (.aload_n 2, 1) := by decide +kernel
theorem dX9_freshName_58 : decode cX9_freshName 58 = .ok (.aload_n 2, 1) := by decide +kernel
theorem dX9_freshName_59 : decode cX9_freshName 59 = .ok (.aload_n 3, 1) := by decide +kernel
theorem dX9_freshName_60 : decode cX9_freshName 60 = .ok (.getfield 265, 3) := by decide +kernel
theorem dX9_freshName_63 : decode cX9_freshName 63 = .ok (.aload_n 3, 1) := by decide +kernel
theorem dX9_freshName_64 : decode cX9_freshName 64 = .ok (.getfield 268, 3) := by decide +kernel
theorem dX9_freshName_67 : decode cX9_freshName 67 = .ok (.aload_n 2, 1) := by decide +kernel
theorem dX9_freshName_68 : decode cX9_freshName 68 = .ok (.getfield 271, 3) := by decide +kernel
theorem dX9_freshName_71 : decode cX9_freshName 71 = .ok (.invokevirtual 274, 3) := by decide +kernel
theorem dX9_freshName_74 : decode cX9_freshName 74 = .ok (.putfield 191, 3) := by decide +kernel
theorem dX9_freshName_77 : decode cX9_freshName 77 = .ok (.aload_n 2, 1) := by decide +kernel
theorem dX9_freshName_78 : decode cX9_freshName 78 = .ok (.iconst 1, 1) := by decide +kernel
theorem dX9_freshName_79 : decode cX9_freshName 79 = .ok (.putfield 150, 3) := by decide +kernel
theorem dX9_freshName_82 : decode cX9_freshName 82 = .ok (.aload_n 2, 1) := by decide +kernel
theorem dX9_freshName_83 : decode cX9_freshName 83 = .ok (.areturn, 1) := by decide +kernel
theorem dX9_rank_0 : decode cX9_rank 0 = .ok (.aload_n 0, 1) := by decide +kernel
theorem dX9_rank_1 : decode cX9_rank 1 = .ok (.getfield 72, 3) := by decide +kernel
theorem dX9_rank_4 : decode cX9_rank 4 = .ok (.ifCond .eq 4, 3) := by decide +kernel
theorem dX9_rank_7 : decode cX9_rank 7 = .ok (.return_, 1) := by decide +kernel
theorem dX9_rank_8 : decode cX9_rank 8 = .ok (.iconst 0, 1) := by decide +kernel
theorem dX9_rank_9 : decode cX9_rank 9 = .ok (.istore_n 1, 1) := by decide +kernel
theorem dX9_rank_10 : decode cX9_rank 10 = .ok (.iload_n 1, 1) := by decide +kernel
theorem dX9_rank_11 : decode cX9_rank 11 = .ok (.aload_n 0, 1) := by decide +kernel
theorem dX9_rank_12 : decode cX9_rank 12 = .ok (.getfield 54, 3) := by decide +kernel
theorem dX9_rank_15 : decode cX9_rank 15 = .ok (.if_icmp .ge 68, 3) := by decide +kernel
theorem dX9_rank_18 : decode cX9_rank 18 = .ok (.aload_n 0, 1) := by decide +kernel
theorem dX9_rank_19 : decode cX9_rank 19 = .ok (.iload_n 1, 1) := by decide +kernel
theorem dX9_rank_20 : decode cX9_rank 20 = .ok (.invokevirtual 187, 3) := by decide +kernel
theorem dX9_rank_23 : decode cX9_rank 23 = .ok (.astore_n 2, 1) := by decide +kernel
theorem dX9_rank_24 : decode cX9_rank 24 = .ok (.iload_n 1, 1) := by decide +kernel
theorem dX9_rank_25 : decode cX9_rank 25 = .ok (.istore_n 3, 1) := by decide +kernel
theorem dX9_rank_26 : decode cX9_rank 26 = .ok (.iload_n 3, 1) := by decide +kernel
theorem dX9_rank_27 : decode cX9_rank 27 = .ok (.ifCond .le 43, 3) := by decide +kernel
theorem dX9_rank_30 : decode cX9_rank 30 = .ok (.aload_n 2, 1) := by decide +kernel
theorem dX9_rank_31 : decode cX9_rank 31 = .ok (.aload_n 0, 1) := by decide +kernel
theorem dX9_rank_32 : decode cX9_rank 32 = .ok (.getfield 50, 3) := by decide +kernel
theorem dX9_rank_35 : decode cX9_rank 35 = .ok (.aload_n 0, 1) := by decide +kernel
theorem dX9_rank_36 : decode cX9_rank 36 = .ok (.getfield 68, 3) := by decide +kernel
theorem dX9_rank_39 : decode cX9_rank 39 = .ok (.iload_n 3, 1) := by decide +kernel
theorem dX9_rank_40 : decode cX9_rank 40 = .ok (.iconst 1, 1) := by decide +kernel
theorem dX9_rank_41 : decode cX9_rank 41 = .ok (.isub, 1) := by decide +kernel
theorem dX9_rank_42 : decode cX9_rank 42 = .ok (.iaload, 1) := by decide +kernel
theorem dX9_rank_43 : decode cX9_rank 43 = .ok (.aaload, 1) := by decide +kernel
theorem dX9_rank_44 : decode cX9_rank 44 = .ok (.invokevirtual 278, 3) := by decide +kernel
theorem dX9_rank_47 : decode cX9_rank 47 = .ok (.ifCond .eq 23, 3) := by decide +kernel
theorem dX9_rank_50 : decode cX9_rank 50 = .ok (.aload_n 0, 1) := by decide +kernel
theorem dX9_rank_51 : decode cX9_rank 51 = .ok (.getfield 68, 3) := by decide +kernel
theorem dX9_rank_54 : decode cX9_rank 54 = .ok (.iload_n 3, 1) := by decide +kernel
theorem dX9_rank_55 : decode cX9_rank 55 = .ok (.aload_n 0, 1) := by decide +kernel
theorem dX9_rank_56 : decode cX9_rank 56 = .ok (.getfield 68, 3) := by decide +kernel
theorem dX9_rank_59 : decode cX9_rank 59 = .ok (.iload_n 3, 1) := by decide +kernel
theorem dX9_rank_60 : decode cX9_rank 60 = .ok (.iconst 1, 1) := by decide +kernel
theorem dX9_rank_61 : decode cX9_rank 61 = .ok (.isub, 1) := by decide +kernel
theorem dX9_rank_62 : decode cX9_rank 62 = .ok (.iaload, 1) := by decide +kernel
theorem dX9_rank_63 : decode cX9_rank 63 = .ok (.iastore, 1) := by decide +kernel
theorem dX9_rank_64 : decode cX9_rank 64 = .ok (.iinc 3 (-1), 3) := by decide +kernel
theorem dX9_rank_67 : decode cX9_rank 67 = .ok (.goto (-41), 3) := by decide +kernel
theorem dX9_rank_70 : decode cX9_rank 70 = .ok (.aload_n 0, 1) := by decide +kernel
theorem dX9_rank_71 : decode cX9_rank 71 = .ok (.getfield 68, 3) := by decide +kernel
theorem dX9_rank_74 : decode cX9_rank 74 = .ok (.iload_n 3, 1) := by decide +kernel
theorem dX9_rank_75 : decode cX9_rank 75 = .ok (.iload_n 1, 1) := by decide +kernel
theorem dX9_rank_76 : decode cX9_rank 76 = .ok (.iastore, 1) := by decide +kernel
theorem dX9_rank_77 : decode cX9_rank 77 = .ok (.iinc 1 1, 3) := by decide +kernel
theorem dX9_rank_80 : decode cX9_rank 80 = .ok (.goto (-70), 3) := by decide +kernel
theorem dX9_rank_83 : decode cX9_rank 83 = .ok (.aload_n 0, 1) := by decide +kernel
theorem dX9_rank_84 : decode cX9_rank 84 = .ok (.iconst 1, 1) := by decide +kernel
theorem dX9_rank_85 : decode cX9_rank 85 = .ok (.putfield 72, 3) := by decide +kernel
theorem dX9_rank_88 : decode cX9_rank 88 = .ok (.return_, 1) := by decide +kernel
theorem dX9_placeInRanking_0 : decode cX9_placeInRanking 0 = .ok (.iconst 0, 1) := by decide +kernel
theorem dX9_placeInRanking_1 : decode cX9_placeInRanking 1 = .ok (.istore_n 2, 1) := by decide +kernel
theorem dX9_placeInRanking_2 : decode cX9_placeInRanking 2 = .ok (.iload_n 2, 1) := by decide +kernel
theorem dX9_placeInRanking_3 : decode cX9_placeInRanking 3 = .ok (.aload_n 0, 1) := by decide +kernel
theorem dX9_placeInRanking_4 : decode cX9_placeInRanking 4 = .ok (.getfield 54, 3) := by decide +kernel
theorem dX9_placeInRanking_7 : decode cX9_placeInRanking 7 = .ok (.if_icmp .ge 21, 3) := by decide +kernel
theorem dX9_placeInRanking_10 : decode cX9_placeInRanking 10 = .ok (.aload_n 0, 1) := by decide +kernel
theorem dX9_placeInRanking_11 : decode cX9_placeInRanking 11 = .ok (.getfield 68, 3) := by decide +kernel
theorem dX9_placeInRanking_14 : decode cX9_placeInRanking 14 = .ok (.iload_n 2, 1) := by decide +kernel
theorem dX9_placeInRanking_15 : decode cX9_placeInRanking 15 = .ok (.iaload, 1) := by decide +kernel
theorem dX9_placeInRanking_16 : decode cX9_placeInRanking 16 = .ok (.iload_n 1, 1) := by decide +kernel
theorem dX9_placeInRanking_17 : decode cX9_placeInRanking 17 = .ok (.if_icmp .ne 5, 3) := by decide +kernel
theorem dX9_placeInRanking_20 : decode cX9_placeInRanking 20 = .ok (.iload_n 2, 1) := by decide +kernel
theorem dX9_placeInRanking_21 : decode cX9_placeInRanking 21 = .ok (.ireturn, 1) := by decide +kernel
theorem dX9_placeInRanking_22 : decode cX9_placeInRanking 22 = .ok (.iinc 2 1, 3) := by decide +kernel
theorem dX9_placeInRanking_25 : decode cX9_placeInRanking 25 = .ok (.goto (-23), 3) := by decide +kernel
theorem dX9_placeInRanking_28 : decode cX9_placeInRanking 28 = .ok (.iconst (-1), 1) := by decide +kernel
theorem dX9_placeInRanking_29 : decode cX9_placeInRanking 29 = .ok (.ireturn, 1) := by decide +kernel
theorem dX9_lineOf_0 : decode cX9_lineOf 0 = .ok (.iload_n 2, 1) := by decide +kernel
theorem dX9_lineOf_1 : decode cX9_lineOf 1 = .ok (.iconst 1, 1) := by decide +kernel
theorem dX9_lineOf_2 : decode cX9_lineOf 2 = .ok (.if_icmp .ne 14, 3) := by decide +kernel
theorem dX9_lineOf_5 : decode cX9_lineOf 5 = .ok (.aload_n 0, 1) := by decide +kernel
theorem dX9_lineOf_6 : decode cX9_lineOf 6 = .ok (.aload_n 0, 1) := by decide +kernel
theorem dX9_lineOf_7 : decode cX9_lineOf 7 = .ok (.getfield 50, 3) := by decide +kernel
theorem dX9_lineOf_10 : decode cX9_lineOf 10 = .ok (.iload_n 1, 1) := by decide +kernel
theorem dX9_lineOf_11 : decode cX9_lineOf 11 = .ok (.aaload, 1) := by decide +kernel
theorem dX9_lineOf_12 : decode cX9_lineOf 12 = .ok (.invokevirtual 232, 3) := by decide +kernel
theorem dX9_lineOf_15 : decode cX9_lineOf 15 = .ok (.areturn, 1) := by decide +kernel
theorem dX9_lineOf_16 : decode cX9_lineOf 16 = .ok (.aload_n 0, 1) := by decide +kernel
theorem dX9_lineOf_17 : decode cX9_lineOf 17 = .ok (.iload_n 1, 1) := by decide +kernel
theorem dX9_lineOf_18 : decode cX9_lineOf 18 = .ok (.invokevirtual 187, 3) := by decide +kernel
theorem dX9_lineOf_21 : decode cX9_lineOf 21 = .ok (.astore_n 3, 1) := by decide +kernel
theorem dX9_lineOf_22 : decode cX9_lineOf 22 = .ok (.aload_n 0, 1) := by decide +kernel
theorem dX9_lineOf_23 : decode cX9_lineOf 23 = .ok (.getfield 86, 3) := by decide +kernel
theorem dX9_lineOf_26 : decode cX9_lineOf 26 = .ok (.iconst 0, 1) := by decide +kernel
theorem dX9_lineOf_27 : decode cX9_lineOf 27 = .ok (.putfield 198, 3) := by decide +kernel
theorem dX9_lineOf_30 : decode cX9_lineOf 30 = .ok (.iload_n 2, 1) := by decide +kernel
theorem dX9_lineOf_31 : decode cX9_lineOf 31 = .ok (.iconst 2, 1) := by decide +kernel
theorem dX9_lineOf_32 : decode cX9_lineOf 32 = .ok (.if_icmp .ne 65, 3) := by decide +kernel
theorem dX9_lineOf_35 : decode cX9_lineOf 35 = .ok (.iconst 0, 1) := by decide +kernel
theorem dX9_lineOf_36 : decode cX9_lineOf 36 = .ok (.istore 4, 2) := by decide +kernel
theorem dX9_lineOf_38 : decode cX9_lineOf 38 = .ok (.iload 4, 2) := by decide +kernel
theorem dX9_lineOf_40 : decode cX9_lineOf 40 = .ok (.aload_n 3, 1) := by decide +kernel
theorem dX9_lineOf_41 : decode cX9_lineOf 41 = .ok (.getfield 191, 3) := by decide +kernel
theorem dX9_lineOf_44 : decode cX9_lineOf 44 = .ok (.if_icmp .ge 48, 3) := by decide +kernel
theorem dX9_lineOf_47 : decode cX9_lineOf 47 = .ok (.aload_n 0, 1) := by decide +kernel
theorem dX9_lineOf_48 : decode cX9_lineOf 48 = .ok (.getfield 86, 3) := by decide +kernel
theorem dX9_lineOf_51 : decode cX9_lineOf 51 = .ok (.aload_n 3, 1) := by decide +kernel
theorem dX9_lineOf_52 : decode cX9_lineOf 52 = .ok (.getfield 220, 3) := by decide +kernel
theorem dX9_lineOf_55 : decode cX9_lineOf 55 = .ok (.aload_n 3, 1) := by decide +kernel
theorem dX9_lineOf_56 : decode cX9_lineOf 56 = .ok (.getfield 271, 3) := by decide +kernel
theorem dX9_lineOf_59 : decode cX9_lineOf 59 = .ok (.iload 4, 2) := by decide +kernel
theorem dX9_lineOf_61 : decode cX9_lineOf 61 = .ok (.iaload, 1) := by decide +kernel
theorem dX9_lineOf_62 : decode cX9_lineOf 62 = .ok (.aaload, 1) := by decide +kernel
theorem dX9_lineOf_63 : decode cX9_lineOf 63 = .ok (.getfield 281, 3) := by decide +kernel
theorem dX9_lineOf_66 : decode cX9_lineOf 66 = .ok (.aload_n 3, 1) := by decide +kernel
theorem dX9_lineOf_67 : decode cX9_lineOf 67 = .ok (.getfield 220, 3) := by decide +kernel
theorem dX9_lineOf_70 : decode cX9_lineOf 70 = .ok (.aload_n 3, 1) := by decide +kernel
theorem dX9_lineOf_71 : decode cX9_lineOf 71 = .ok (.getfield 271, 3) := by decide +kernel
theorem dX9_lineOf_74 : decode cX9_lineOf 74 = .ok (.iload 4, 2) := by decide +kernel
theorem dX9_lineOf_76 : decode cX9_lineOf 76 = .ok (.iaload, 1) := by decide +kernel
theorem dX9_lineOf_77 : decode cX9_lineOf 77 = .ok (.aaload, 1) := by decide +kernel
theorem dX9_lineOf_78 : decode cX9_lineOf 78 = .ok (.getfield 284, 3) := by decide +kernel
theorem dX9_lineOf_81 : decode cX9_lineOf 81 = .ok (.iload 4, 2) := by decide +kernel
theorem dX9_lineOf_83 : decode cX9_lineOf 83 = .ok (.invokevirtual 287, 3) := by decide +kernel
theorem dX9_lineOf_86 : decode cX9_lineOf 86 = .ok (.iinc 4 1, 3) := by decide +kernel
theorem dX9_lineOf_89 : decode cX9_lineOf 89 = .ok (.goto (-51), 3) := by decide +kernel
theorem dX9_lineOf_92 : decode cX9_lineOf 92 = .ok (.aload_n 0, 1) := by decide +kernel
theorem dX9_lineOf_93 : decode cX9_lineOf 93 = .ok (.getfield 86, 3) := by decide +kernel
theorem dX9_lineOf_96 : decode cX9_lineOf 96 = .ok (.areturn, 1) := by decide +kernel
theorem dX9_lineOf_97 : decode cX9_lineOf 97 = .ok (.aload_n 0, 1) := by decide +kernel
theorem dX9_lineOf_98 : decode cX9_lineOf 98 = .ok (.getfield 18, 3) := by decide +kernel
theorem dX9_lineOf_101 : decode cX9_lineOf 101 = .ok (.aload_n 3, 1) := by decide +kernel
theorem dX9_lineOf_102 : decode cX9_lineOf 102 = .ok (.getfield 147, 3) := by decide +kernel
theorem dX9_lineOf_105 : decode cX9_lineOf 105 = .ok (.aaload, 1) := by decide +kernel
theorem dX9_lineOf_106 : decode cX9_lineOf 106 = .ok (.astore 4, 2) := by decide +kernel
theorem dX9_lineOf_108 : decode cX9_lineOf 108 = .ok (.aload_n 3, 1) := by decide +kernel
theorem dX9_lineOf_109 : decode cX9_lineOf 109 = .ok (.aload 4, 2) := by decide +kernel
theorem dX9_lineOf_111 : decode cX9_lineOf 111 = .ok (.getfield 291, 3) := by decide +kernel
theorem dX9_lineOf_114 : decode cX9_lineOf 114 = .ok (.aload 4, 2) := by decide +kernel
theorem dX9_lineOf_116 : decode cX9_lineOf 116 = .ok (.getfield 294, 3) := by decide +kernel
theorem dX9_lineOf_119 : decode cX9_lineOf 119 = .ok (.aload_n 0, 1) := by decide +kernel
theorem dX9_lineOf_120 : decode cX9_lineOf 120 = .ok (.getfield 90, 3) := by decide +kernel
theorem dX9_lineOf_123 : decode cX9_lineOf 123 = .ok (.invokevirtual 274, 3) := by decide +kernel
theorem dX9_lineOf_126 : decode cX9_lineOf 126 = .ok (.istore 5, 2) := by decide +kernel
theorem dX9_lineOf_128 : decode cX9_lineOf 128 = .ok (.iconst 0, 1) := by decide +kernel
theorem dX9_lineOf_129 : decode cX9_lineOf 129 = .ok (.istore 6, 2) := by decide +kernel
theorem dX9_lineOf_131 : decode cX9_lineOf 131 = .ok (.iload 6, 2) := by decide +kernel
theorem dX9_lineOf_133 : decode cX9_lineOf 133 = .ok (.iload 5, 2) := by decide +kernel
theorem dX9_lineOf_135 : decode cX9_lineOf 135 = .ok (.if_icmp .ge 48, 3) := by decide +kernel
theorem dX9_lineOf_138 : decode cX9_lineOf 138 = .ok (.aload_n 0, 1) := by decide +kernel
theorem dX9_lineOf_139 : decode cX9_lineOf 139 = .ok (.getfield 86, 3) := by decide +kernel
theorem dX9_lineOf_142 : decode cX9_lineOf 142 = .ok (.aload_n 3, 1) := by decide +kernel
theorem dX9_lineOf_143 : decode cX9_lineOf 143 = .ok (.getfield 220, 3) := by decide +kernel
theorem dX9_lineOf_146 : decode cX9_lineOf 146 = .ok (.aload_n 0, 1) := by decide +kernel
theorem dX9_lineOf_147 : decode cX9_lineOf 147 = .ok (.getfield 90, 3) := by decide +kernel
theorem dX9_lineOf_150 : decode cX9_lineOf 150 = .ok (.iload 6, 2) := by decide +kernel
theorem dX9_lineOf_152 : decode cX9_lineOf 152 = .ok (.iaload, 1) := by decide +kernel
theorem dX9_lineOf_153 : decode cX9_lineOf 153 = .ok (.aaload, 1) := by decide +kernel
theorem dX9_lineOf_154 : decode cX9_lineOf 154 = .ok (.getfield 297, 3) := by decide +kernel
theorem dX9_lineOf_157 : decode cX9_lineOf 157 = .ok (.aload_n 3, 1) := by decide +kernel
theorem dX9_lineOf_158 : decode cX9_lineOf 158 = .ok (.getfield 220, 3) := by decide +kernel
theorem dX9_lineOf_161 : decode cX9_lineOf 161 = .ok (.aload_n 0, 1) := by decide +kernel
theorem dX9_lineOf_162 : decode cX9_lineOf 162 = .ok (.getfield 90, 3) := by decide +kernel
theorem dX9_lineOf_165 : decode cX9_lineOf 165 = .ok (.iload 6, 2) := by decide +kernel
theorem dX9_lineOf_167 : decode cX9_lineOf 167 = .ok (.iaload, 1) := by decide +kernel
theorem dX9_lineOf_168 : decode cX9_lineOf 168 = .ok (.aaload, 1) := by decide +kernel
theorem dX9_lineOf_169 : decode cX9_lineOf 169 = .ok (.getfield 300, 3) := by decide +kernel
theorem dX9_lineOf_172 : decode cX9_lineOf 172 = .ok (.iload 6, 2) := by decide +kernel
theorem dX9_lineOf_174 : decode cX9_lineOf 174 = .ok (.invokevirtual 287, 3) := by decide +kernel
theorem dX9_lineOf_177 : decode cX9_lineOf 177 = .ok (.iinc 6 1, 3) := by decide +kernel
theorem dX9_lineOf_180 : decode cX9_lineOf 180 = .ok (.goto (-49), 3) := by decide +kernel
theorem dX9_lineOf_183 : decode cX9_lineOf 183 = .ok (.aload_n 0, 1) := by decide +kernel
theorem dX9_lineOf_184 : decode cX9_lineOf 184 = .ok (.getfield 86, 3) := by decide +kernel
theorem dX9_lineOf_187 : decode cX9_lineOf 187 = .ok (.areturn, 1) := by decide +kernel
theorem dX9_putLine_0 : decode cX9_putLine 0 = .ok (.aload_n 1, 1) := by decide +kernel
theorem dX9_putLine_1 : decode cX9_putLine 1 = .ok (.getfield 153, 3) := by decide +kernel
theorem dX9_putLine_4 : decode cX9_putLine 4 = .ok (.ifCond .ne 50, 3) := by decide +kernel
theorem dX9_putLine_7 : decode cX9_putLine 7 = .ok (.aload_n 1, 1) := by decide +kernel
theorem dX9_putLine_8 : decode cX9_putLine 8 = .ok (.getfield 303, 3) := by decide +kernel
theorem dX9_putLine_11 : decode cX9_putLine 11 = .ok (.iconst 0, 1) := by decide +kernel
theorem dX9_putLine_12 : decode cX9_putLine 12 = .ok (.putfield 198, 3) := by decide +kernel
theorem dX9_putLine_15 : decode cX9_putLine 15 = .ok (.iconst 0, 1) := by decide +kernel
theorem dX9_putLine_16 : decode cX9_putLine 16 = .ok (.istore_n 2, 1) := by decide +kernel
theorem dX9_putLine_17 : decode cX9_putLine 17 = .ok (.iload_n 2, 1) := by decide +kernel
theorem dX9_putLine_18 : decode cX9_putLine 18 = .ok (.aload_n 1, 1) := by decide +kernel
theorem dX9_putLine_19 : decode cX9_putLine 19 = .ok (.getfield 180, 3) := by decide +kernel
theorem dX9_putLine_22 : decode cX9_putLine 22 = .ok (.if_icmp .ge 27, 3) := by decide +kernel
theorem dX9_putLine_25 : decode cX9_putLine 25 = .ok (.aload_n 0, 1) := by decide +kernel
theorem dX9_putLine_26 : decode cX9_putLine 26 = .ok (.getfield 79, 3) := by decide +kernel
theorem dX9_putLine_29 : decode cX9_putLine 29 = .ok (.aload_n 1, 1) := by decide +kernel
theorem dX9_putLine_30 : decode cX9_putLine 30 = .ok (.getfield 220, 3) := by decide +kernel
theorem dX9_putLine_33 : decode cX9_putLine 33 = .ok (.iload_n 2, 1) := by decide +kernel
theorem dX9_putLine_34 : decode cX9_putLine 34 = .ok (.aaload, 1) := by decide +kernel
theorem dX9_putLine_35 : decode cX9_putLine 35 = .ok (.iload_n 2, 1) := by decide +kernel
theorem dX9_putLine_36 : decode cX9_putLine 36 = .ok (.aload_n 1, 1) := by decide +kernel
theorem dX9_putLine_37 : decode cX9_putLine 37 = .ok (.getfield 303, 3) := by decide +kernel
theorem dX9_putLine_40 : decode cX9_putLine 40 = .ok (.invokevirtual 306, 3) := by decide +kernel
theorem dX9_putLine_43 : decode cX9_putLine 43 = .ok (.iinc 2 1, 3) := by decide +kernel
theorem dX9_putLine_46 : decode cX9_putLine 46 = .ok (.goto (-29), 3) := by decide +kernel
theorem dX9_putLine_49 : decode cX9_putLine 49 = .ok (.aload_n 1, 1) := by decide +kernel
theorem dX9_putLine_50 : decode cX9_putLine 50 = .ok (.iconst 1, 1) := by decide +kernel
theorem dX9_putLine_51 : decode cX9_putLine 51 = .ok (.putfield 153, 3) := by decide +kernel
theorem dX9_putLine_54 : decode cX9_putLine 54 = .ok (.aload_n 1, 1) := by decide +kernel
theorem dX9_putLine_55 : decode cX9_putLine 55 = .ok (.getfield 303, 3) := by decide +kernel
theorem dX9_putLine_58 : decode cX9_putLine 58 = .ok (.areturn, 1) := by decide +kernel
theorem dX9_sameFamily_0 : decode cX9_sameFamily 0 = .ok (.aload_n 0, 1) := by decide +kernel
theorem dX9_sameFamily_1 : decode cX9_sameFamily 1 = .ok (.bipush 16, 2) := by decide +kernel
theorem dX9_sameFamily_3 : decode cX9_sameFamily 3 = .ok (.iconst 0, 1) := by decide +kernel
theorem dX9_sameFamily_4 : decode cX9_sameFamily 4 = .ok (.invokevirtual 217, 3) := by decide +kernel
theorem dX9_sameFamily_7 : decode cX9_sameFamily 7 = .ok (.istore_n 2, 1) := by decide +kernel
theorem dX9_sameFamily_8 : decode cX9_sameFamily 8 = .ok (.aload_n 1, 1) := by decide +kernel
theorem dX9_sameFamily_9 : decode cX9_sameFamily 9 = .ok (.bipush 16, 2) := by decide +kernel
theorem dX9_sameFamily_11 : decode cX9_sameFamily 11 = .ok (.iconst 0, 1) := by decide +kernel
theorem dX9_sameFamily_12 : decode cX9_sameFamily 12 = .ok (.invokevirtual 217, 3) := by decide +kernel
theorem dX9_sameFamily_15 : decode cX9_sameFamily 15 = .ok (.istore_n 3, 1) := by decide +kernel
theorem dX9_sameFamily_16 : decode cX9_sameFamily 16 = .ok (.iconst 0, 1) := by decide +kernel
theorem dX9_sameFamily_17 : decode cX9_sameFamily 17 = .ok (.istore 4, 2) := by decide +kernel
theorem dX9_sameFamily_19 : decode cX9_sameFamily 19 = .ok (.iload 4, 2) := by decide +kernel
theorem dX9_sameFamily_21 : decode cX9_sameFamily 21 = .ok (.bipush 8, 2) := by decide +kernel
theorem dX9_sameFamily_23 : decode cX9_sameFamily 23 = .ok (.if_icmp .ge 59, 3) := by decide +kernel
theorem dX9_sameFamily_26 : decode cX9_sameFamily 26 = .ok (.iload_n 2, 1) := by decide +kernel
theorem dX9_sameFamily_27 : decode cX9_sameFamily 27 = .ok (.iconst (-1), 1) := by decide +kernel
theorem dX9_sameFamily_28 : decode cX9_sameFamily 28 = .ok (.if_icmp .eq 54, 3) := by decide +kernel
theorem dX9_sameFamily_31 : decode cX9_sameFamily 31 = .ok (.iload_n 3, 1) := by decide +kernel
theorem dX9_sameFamily_32 : decode cX9_sameFamily 32 = .ok (.iconst (-1), 1) := by decide +kernel
theorem dX9_sameFamily_33 : decode cX9_sameFamily 33 = .ok (.if_icmp .eq 49, 3) := by decide +kernel
theorem dX9_sameFamily_36 : decode cX9_sameFamily 36 = .ok (.aload_n 0, 1) := by decide +kernel
theorem dX9_sameFamily_37 : decode cX9_sameFamily 37 = .ok (.getfield 220, 3) := by decide +kernel
theorem dX9_sameFamily_40 : decode cX9_sameFamily 40 = .ok (.iload_n 2, 1) := by decide +kernel
theorem dX9_sameFamily_41 : decode cX9_sameFamily 41 = .ok (.aaload, 1) := by decide +kernel
theorem dX9_sameFamily_42 : decode cX9_sameFamily 42 = .ok (.aload_n 1, 1) := by decide +kernel
theorem dX9_sameFamily_43 : decode cX9_sameFamily 43 = .ok (.getfield 220, 3) := by decide +kernel
theorem dX9_sameFamily_46 : decode cX9_sameFamily 46 = .ok (.iload_n 3, 1) := by decide +kernel
theorem dX9_sameFamily_47 : decode cX9_sameFamily 47 = .ok (.aaload, 1) := by decide +kernel
theorem dX9_sameFamily_48 : decode cX9_sameFamily 48 = .ok (.invokevirtual 310, 3) := by decide +kernel
theorem dX9_sameFamily_51 : decode cX9_sameFamily 51 = .ok (.ifCond .ne 5, 3) := by decide +kernel
theorem dX9_sameFamily_54 : decode cX9_sameFamily 54 = .ok (.iconst 0, 1) := by decide +kernel
theorem dX9_sameFamily_55 : decode cX9_sameFamily 55 = .ok (.ireturn, 1) := by decide +kernel
theorem dX9_sameFamily_56 : decode cX9_sameFamily 56 = .ok (.aload_n 0, 1) := by decide +kernel
theorem dX9_sameFamily_57 : decode cX9_sameFamily 57 = .ok (.bipush 16, 2) := by decide +kernel
theorem dX9_sameFamily_59 : decode cX9_sameFamily 59 = .ok (.iload_n 2, 1) := by decide +kernel
theorem dX9_sameFamily_60 : decode cX9_sameFamily 60 = .ok (.iconst 1, 1) := by decide +kernel
theorem dX9_sameFamily_61 : decode cX9_sameFamily 61 = .ok (.iadd, 1) := by decide +kernel
theorem dX9_sameFamily_62 : decode cX9_sameFamily 62 = .ok (.invokevirtual 217, 3) := by decide +kernel
theorem dX9_sameFamily_65 : decode cX9_sameFamily 65 = .ok (.istore_n 2, 1) := by decide +kernel
theorem dX9_sameFamily_66 : decode cX9_sameFamily 66 = .ok (.aload_n 1, 1) := by decide +kernel
theorem dX9_sameFamily_67 : decode cX9_sameFamily 67 = .ok (.bipush 16, 2) := by decide +kernel
theorem dX9_sameFamily_69 : decode cX9_sameFamily 69 = .ok (.iload_n 3, 1) := by decide +kernel
theorem dX9_sameFamily_70 : decode cX9_sameFamily 70 = .ok (.iconst 1, 1) := by decide +kernel
theorem dX9_sameFamily_71 : decode cX9_sameFamily 71 = .ok (.iadd, 1) := by decide +kernel
theorem dX9_sameFamily_72 : decode cX9_sameFamily 72 = .ok (.invokevirtual 217, 3) := by decide +kernel
theorem dX9_sameFamily_75 : decode cX9_sameFamily 75 = .ok (.istore_n 3, 1) := by decide +kernel
theorem dX9_sameFamily_76 : decode cX9_sameFamily 76 = .ok (.iinc 4 1, 3) := by decide +kernel
theorem dX9_sameFamily_79 : decode cX9_sameFamily 79 = .ok (.goto (-60), 3) := by decide +kernel
theorem dX9_sameFamily_82 : decode cX9_sameFamily 82 = .ok (.iload_n 2, 1) := by decide +kernel
theorem dX9_sameFamily_83 : decode cX9_sameFamily 83 = .ok (.iconst (-1), 1) := by decide +kernel
theorem dX9_sameFamily_84 : decode cX9_sameFamily 84 = .ok (.if_icmp .ne 12, 3) := by decide +kernel
theorem dX9_sameFamily_87 : decode cX9_sameFamily 87 = .ok (.iload_n 3, 1) := by decide +kernel
theorem dX9_sameFamily_88 : decode cX9_sameFamily 88 = .ok (.iconst (-1), 1) := by decide +kernel
theorem dX9_sameFamily_89 : decode cX9_sameFamily 89 = .ok (.if_icmp .ne 7, 3) := by decide +kernel
theorem dX9_sameFamily_92 : decode cX9_sameFamily 92 = .ok (.iconst 1, 1) := by decide +kernel
theorem dX9_sameFamily_93 : decode cX9_sameFamily 93 = .ok (.goto 4, 3) := by decide +kernel
theorem dX9_sameFamily_96 : decode cX9_sameFamily 96 = .ok (.iconst 0, 1) := by decide +kernel
theorem dX9_sameFamily_97 : decode cX9_sameFamily 97 = .ok (.ireturn, 1) := by decide +kernel
theorem dX9_fittingGiven_0 : decode cX9_fittingGiven 0 = .ok (.bipush 66, 2) := by decide +kernel
theorem dX9_fittingGiven_2 : decode cX9_fittingGiven 2 = .ok (.istore_n 2, 1) := by decide +kernel
theorem dX9_fittingGiven_3 : decode cX9_fittingGiven 3 = .ok (.aload_n 0, 1) := by decide +kernel
theorem dX9_fittingGiven_4 : decode cX9_fittingGiven 4 = .ok (.iload_n 2, 1) := by decide +kernel
theorem dX9_fittingGiven_5 : decode cX9_fittingGiven 5 = .ok (.iconst 0, 1) := by decide +kernel
theorem dX9_fittingGiven_6 : decode cX9_fittingGiven 6 = .ok (.invokevirtual 217, 3) := by decide +kernel
theorem dX9_fittingGiven_9 : decode cX9_fittingGiven 9 = .ok (.istore_n 3, 1) := by decide +kernel
theorem dX9_fittingGiven_10 : decode cX9_fittingGiven 10 = .ok (.aload_n 1, 1) := by decide +kernel
theorem dX9_fittingGiven_11 : decode cX9_fittingGiven 11 = .ok (.iload_n 2, 1) := by decide +kernel
theorem dX9_fittingGiven_12 : decode cX9_fittingGiven 12 = .ok (.iconst 0, 1) := by decide +kernel
theorem dX9_fittingGiven_13 : decode cX9_fittingGiven 13 = .ok (.invokevirtual 217, 3) := by decide +kernel
theorem dX9_fittingGiven_16 : decode cX9_fittingGiven 16 = .ok (.istore 4, 2) := by decide +kernel
theorem dX9_fittingGiven_18 : decode cX9_fittingGiven 18 = .ok (.iconst 0, 1) := by decide +kernel
theorem dX9_fittingGiven_19 : decode cX9_fittingGiven 19 = .ok (.istore 5, 2) := by decide +kernel
theorem dX9_fittingGiven_21 : decode cX9_fittingGiven 21 = .ok (.iload 5, 2) := by decide +kernel
theorem dX9_fittingGiven_23 : decode cX9_fittingGiven 23 = .ok (.bipush 8, 2) := by decide +kernel
theorem dX9_fittingGiven_25 : decode cX9_fittingGiven 25 = .ok (.if_icmp .ge 61, 3) := by decide +kernel
theorem dX9_fittingGiven_28 : decode cX9_fittingGiven 28 = .ok (.iload_n 3, 1) := by decide +kernel
theorem dX9_fittingGiven_29 : decode cX9_fittingGiven 29 = .ok (.iconst (-1), 1) := by decide +kernel
theorem dX9_fittingGiven_30 : decode cX9_fittingGiven 30 = .ok (.if_icmp .eq 56, 3) := by decide +kernel
theorem dX9_fittingGiven_33 : decode cX9_fittingGiven 33 = .ok (.iload 4, 2) := by decide +kernel
theorem dX9_fittingGiven_35 : decode cX9_fittingGiven 35 = .ok (.iconst (-1), 1) := by decide +kernel
theorem dX9_fittingGiven_36 : decode cX9_fittingGiven 36 = .ok (.if_icmp .eq 50, 3) := by decide +kernel
theorem dX9_fittingGiven_39 : decode cX9_fittingGiven 39 = .ok (.aload_n 0, 1) := by decide +kernel
theorem dX9_fittingGiven_40 : decode cX9_fittingGiven 40 = .ok (.getfield 220, 3) := by decide +kernel
theorem dX9_fittingGiven_43 : decode cX9_fittingGiven 43 = .ok (.iload_n 3, 1) := by decide +kernel
theorem dX9_fittingGiven_44 : decode cX9_fittingGiven 44 = .ok (.aaload, 1) := by decide +kernel
theorem dX9_fittingGiven_45 : decode cX9_fittingGiven 45 = .ok (.aload_n 1, 1) := by decide +kernel
theorem dX9_fittingGiven_46 : decode cX9_fittingGiven 46 = .ok (.getfield 220, 3) := by decide +kernel
theorem dX9_fittingGiven_49 : decode cX9_fittingGiven 49 = .ok (.iload 4, 2) := by decide +kernel
theorem dX9_fittingGiven_51 : decode cX9_fittingGiven 51 = .ok (.aaload, 1) := by decide +kernel
theorem dX9_fittingGiven_52 : decode cX9_fittingGiven 52 = .ok (.invokevirtual 313, 3) := by decide +kernel
theorem dX9_fittingGiven_55 : decode cX9_fittingGiven 55 = .ok (.ifCond .ne 5, 3) := by decide +kernel
theorem dX9_fittingGiven_58 : decode cX9_fittingGiven 58 = .ok (.iconst 0, 1) := by decide +kernel
theorem dX9_fittingGiven_59 : decode cX9_fittingGiven 59 = .ok (.ireturn, 1) := by decide +kernel
theorem dX9_fittingGiven_60 : decode cX9_fittingGiven 60 = .ok (.aload_n 0, 1) := by decide +kernel
theorem dX9_fittingGiven_61 : decode cX9_fittingGiven 61 = .ok (.iload_n 2, 1) := by decide +kernel
theorem dX9_fittingGiven_62 : decode cX9_fittingGiven 62 = .ok (.iload_n 3, 1) := by decide +kernel
theorem dX9_fittingGiven_63 : decode cX9_fittingGiven 63 = .ok (.iconst 1, 1) := by decide +kernel
theorem dX9_fittingGiven_64 : decode cX9_fittingGiven 64 = .ok (.iadd, 1) := by decide +kernel
theorem dX9_fittingGiven_65 : decode cX9_fittingGiven 65 = .ok (.invokevirtual 217, 3) := by decide +kernel
theorem dX9_fittingGiven_68 : decode cX9_fittingGiven 68 = .ok (.istore_n 3, 1) := by decide +kernel
theorem dX9_fittingGiven_69 : decode cX9_fittingGiven 69 = .ok (.aload_n 1, 1) := by decide +kernel
theorem dX9_fittingGiven_70 : decode cX9_fittingGiven 70 = .ok (.iload_n 2, 1) := by decide +kernel
theorem dX9_fittingGiven_71 : decode cX9_fittingGiven 71 = .ok (.iload 4, 2) := by decide +kernel
theorem dX9_fittingGiven_73 : decode cX9_fittingGiven 73 = .ok (.iconst 1, 1) := by decide +kernel
theorem dX9_fittingGiven_74 : decode cX9_fittingGiven 74 = .ok (.iadd, 1) := by decide +kernel
theorem dX9_fittingGiven_75 : decode cX9_fittingGiven 75 = .ok (.invokevirtual 217, 3) := by decide +kernel
theorem dX9_fittingGiven_78 : decode cX9_fittingGiven 78 = .ok (.istore 4, 2) := by decide +kernel
theorem dX9_fittingGiven_80 : decode cX9_fittingGiven 80 = .ok (.iinc 5 1, 3) := by decide +kernel
theorem dX9_fittingGiven_83 : decode cX9_fittingGiven 83 = .ok (.goto (-62), 3) := by decide +kernel
theorem dX9_fittingGiven_86 : decode cX9_fittingGiven 86 = .ok (.iconst 1, 1) := by decide +kernel
theorem dX9_fittingGiven_87 : decode cX9_fittingGiven 87 = .ok (.ireturn, 1) := by decide +kernel
theorem dX9_isSmall_0 : decode cX9_isSmall 0 = .ok (.iload_n 0, 1) := by decide +kernel
theorem dX9_isSmall_1 : decode cX9_isSmall 1 = .ok (.bipush 97, 2) := by decide +kernel
theorem dX9_isSmall_3 : decode cX9_isSmall 3 = .ok (.if_icmp .lt 13, 3) := by decide +kernel
theorem dX9_isSmall_6 : decode cX9_isSmall 6 = .ok (.iload_n 0, 1) := by decide +kernel
theorem dX9_isSmall_7 : decode cX9_isSmall 7 = .ok (.bipush 122, 2) := by decide +kernel
theorem dX9_isSmall_9 : decode cX9_isSmall 9 = .ok (.if_icmp .gt 7, 3) := by decide +kernel
theorem dX9_isSmall_12 : decode cX9_isSmall 12 = .ok (.iconst 1, 1) := by decide +kernel
theorem dX9_isSmall_13 : decode cX9_isSmall 13 = .ok (.goto 4, 3) := by decide +kernel
theorem dX9_isSmall_16 : decode cX9_isSmall 16 = .ok (.iconst 0, 1) := by decide +kernel
theorem dX9_isSmall_17 : decode cX9_isSmall 17 = .ok (.ireturn, 1) := by decide +kernel
theorem dX9_isBig_0 : decode cX9_isBig 0 = .ok (.iload_n 0, 1) := by decide +kernel
theorem dX9_isBig_1 : decode cX9_isBig 1 = .ok (.bipush 65, 2) := by decide +kernel
theorem dX9_isBig_3 : decode cX9_isBig 3 = .ok (.if_icmp .lt 13, 3) := by decide +kernel
theorem dX9_isBig_6 : decode cX9_isBig 6 = .ok (.iload_n 0, 1) := by decide +kernel
theorem dX9_isBig_7 : decode cX9_isBig 7 = .ok (.bipush 90, 2) := by decide +kernel
theorem dX9_isBig_9 : decode cX9_isBig 9 = .ok (.if_icmp .gt 7, 3) := by decide +kernel
theorem dX9_isBig_12 : decode cX9_isBig 12 = .ok (.iconst 1, 1) := by decide +kernel
theorem dX9_isBig_13 : decode cX9_isBig 13 = .ok (.goto 4, 3) := by decide +kernel
theorem dX9_isBig_16 : decode cX9_isBig 16 = .ok (.iconst 0, 1) := by decide +kernel
theorem dX9_isBig_17 : decode cX9_isBig 17 = .ok (.ireturn, 1) := by decide +kernel
theorem dX10_init_0 : decode cX10_init 0 = .ok (.aload_n 0, 1) := by decide +kernel
theorem dX10_init_1 : decode cX10_init 1 = .ok (.invokespecial 1, 3) := by decide +kernel
theorem dX10_init_4 : decode cX10_init 4 = .ok (.aload_n 0, 1) := by decide +kernel
theorem dX10_init_5 : decode cX10_init 5 = .ok (.sipush 400, 3) := by decide +kernel
theorem dX10_init_8 : decode cX10_init 8 = .ok (.newarray .int, 2) := by decide +kernel
theorem dX10_init_10 : decode cX10_init 10 = .ok (.putfield 7, 3) := by decide +kernel
theorem dX10_init_13 : decode cX10_init 13 = .ok (.aload_n 0, 1) := by decide +kernel
theorem dX10_init_14 : decode cX10_init 14 = .ok (.bipush 80, 2) := by decide +kernel
theorem dX10_init_16 : decode cX10_init 16 = .ok (.newarray .int, 2) := by decide +kernel
theorem dX10_init_18 : decode cX10_init 18 = .ok (.putfield 13, 3) := by decide +kernel
theorem dX10_init_21 : decode cX10_init 21 = .ok (.aload_n 0, 1) := by decide +kernel
theorem dX10_init_22 : decode cX10_init 22 = .ok (.bipush 80, 2) := by decide +kernel
theorem dX10_init_24 : decode cX10_init 24 = .ok (.newarray .int, 2) := by decide +kernel
theorem dX10_init_26 : decode cX10_init 26 = .ok (.putfield 16, 3) := by decide +kernel
theorem dX10_init_29 : decode cX10_init 29 = .ok (.aload_n 0, 1) := by decide +kernel
theorem dX10_init_30 : decode cX10_init 30 = .ok (.bipush 80, 2) := by decide +kernel
theorem dX10_init_32 : decode cX10_init 32 = .ok (.newarray .int, 2) := by decide +kernel
theorem dX10_init_34 : decode cX10_init 34 = .ok (.putfield 19, 3) := by decide +kernel
theorem dX10_init_37 : decode cX10_init 37 = .ok (.aload_n 0, 1) := by decide +kernel
theorem dX10_init_38 : decode cX10_init 38 = .ok (.sipush 1680, 3) := by decide +kernel
theorem dX10_init_41 : decode cX10_init 41 = .ok (.newarray .int, 2) := by decide +kernel
theorem dX10_init_43 : decode cX10_init 43 = .ok (.putfield 22, 3) := by decide +kernel
theorem dX10_init_46 : decode cX10_init 46 = .ok (.aload_n 0, 1) := by decide +kernel
theorem dX10_init_47 : decode cX10_init 47 = .ok (.bipush 6, 2) := by decide +kernel
theorem dX10_init_49 : decode cX10_init 49 = .ok (.newarray .boolean, 2) := by decide +kernel
theorem dX10_init_51 : decode cX10_init 51 = .ok (.putfield 25, 3) := by decide +kernel
theorem dX10_init_54 : decode cX10_init 54 = .ok (.aload_n 0, 1) := by decide +kernel
theorem dX10_init_55 : decode cX10_init 55 = .ok (.bipush 6, 2) := by decide +kernel
theorem dX10_init_57 : decode cX10_init 57 = .ok (.newarray .int, 2) := by decide +kernel
theorem dX10_init_59 : decode cX10_init 59 = .ok (.putfield 29, 3) := by decide +kernel
theorem dX10_init_62 : decode cX10_init 62 = .ok (.aload_n 0, 1) := by decide +kernel
theorem dX10_init_63 : decode cX10_init 63 = .ok (.bipush 48, 2) := by decide +kernel
theorem dX10_init_65 : decode cX10_init 65 = .ok (.newarray .int, 2) := by decide +kernel
theorem dX10_init_67 : decode cX10_init 67 = .ok (.putfield 32, 3) := by decide +kernel
theorem dX10_init_70 : decode cX10_init 70 = .ok (.aload_n 0, 1) := by decide +kernel
theorem dX10_init_71 : decode cX10_init 71 = .ok (.bipush 48, 2) := by decide +kernel
theorem dX10_init_73 : decode cX10_init 73 = .ok (.newarray .int, 2) := by decide +kernel
theorem dX10_init_75 : decode cX10_init 75 = .ok (.putfield 35, 3) := by decide +kernel
theorem dX10_init_78 : decode cX10_init 78 = .ok (.aload_n 0, 1) := by decide +kernel
theorem dX10_init_79 : decode cX10_init 79 = .ok (.bipush 6, 2) := by decide +kernel
theorem dX10_init_81 : decode cX10_init 81 = .ok (.newarray .int, 2) := by decide +kernel
theorem dX10_init_83 : decode cX10_init 83 = .ok (.putfield 38, 3) := by decide +kernel
theorem dX10_init_86 : decode cX10_init 86 = .ok (.aload_n 0, 1) := by decide +kernel
theorem dX10_init_87 : decode cX10_init 87 = .ok (.bipush 42, 2) := by decide +kernel
theorem dX10_init_89 : decode cX10_init 89 = .ok (.newarray .int, 2) := by decide +kernel
theorem dX10_init_91 : decode cX10_init 91 = .ok (.putfield 41, 3) := by decide +kernel
theorem dX10_init_94 : decode cX10_init 94 = .ok (.aload_n 0, 1) := by decide +kernel
theorem dX10_init_95 : decode cX10_init 95 = .ok (.bipush 6, 2) := by decide +kernel
theorem dX10_init_97 : decode cX10_init 97 = .ok (.newarray .int, 2) := by decide +kernel
theorem dX10_init_99 : decode cX10_init 99 = .ok (.putfield 44, 3) := by decide +kernel
theorem dX10_init_102 : decode cX10_init 102 = .ok (.aload_n 0, 1) := by decide +kernel
theorem dX10_init_103 : decode cX10_init 103 = .ok (.bipush 42, 2) := by decide +kernel
theorem dX10_init_105 : decode cX10_init 105 = .ok (.newarray .int, 2) := by decide +kernel
theorem dX10_init_107 : decode cX10_init 107 = .ok (.putfield 47, 3) := by decide +kernel
theorem dX10_init_110 : decode cX10_init 110 = .ok (.aload_n 0, 1) := by decide +kernel
theorem dX10_init_111 : decode cX10_init 111 = .ok (.bipush 6, 2) := by decide +kernel
theorem dX10_init_113 : decode cX10_init 113 = .ok (.newarray .int, 2) := by decide +kernel
theorem dX10_init_115 : decode cX10_init 115 = .ok (.putfield 50, 3) := by decide +kernel
theorem dX10_init_118 : decode cX10_init 118 = .ok (.aload_n 0, 1) := by decide +kernel
theorem dX10_init_119 : decode cX10_init 119 = .ok (.bipush 36, 2) := by decide +kernel
theorem dX10_init_121 : decode cX10_init 121 = .ok (.newarray .int, 2) := by decide +kernel
theorem dX10_init_123 : decode cX10_init 123 = .ok (.putfield 53, 3) := by decide +kernel
theorem dX10_init_126 : decode cX10_init 126 = .ok (.aload_n 0, 1) := by decide +kernel
theorem dX10_init_127 : decode cX10_init 127 = .ok (.iconst (-1), 1) := by decide +kernel
theorem dX10_init_128 : decode cX10_init 128 = .ok (.putfield 56, 3) := by decide +kernel
theorem dX10_init_131 : decode cX10_init 131 = .ok (.aload_n 0, 1) := by decide +kernel
theorem dX10_init_132 : decode cX10_init 132 = .ok (.bipush 30, 2) := by decide +kernel
theorem dX10_init_134 : decode cX10_init 134 = .ok (.newarray .int, 2) := by decide +kernel
theorem dX10_init_136 : decode cX10_init 136 = .ok (.putfield 60, 3) := by decide +kernel
theorem dX10_init_139 : decode cX10_init 139 = .ok (.aload_n 0, 1) := by decide +kernel
theorem dX10_init_140 : decode cX10_init 140 = .ok (.bipush 30, 2) := by decide +kernel
theorem dX10_init_142 : decode cX10_init 142 = .ok (.newarray .int, 2) := by decide +kernel
theorem dX10_init_144 : decode cX10_init 144 = .ok (.putfield 63, 3) := by decide +kernel
theorem dX10_init_147 : decode cX10_init 147 = .ok (.aload_n 0, 1) := by decide +kernel
theorem dX10_init_148 : decode cX10_init 148 = .ok (.sipush 5040, 3) := by decide +kernel
theorem dX10_init_151 : decode cX10_init 151 = .ok (.newarray .int, 2) := by decide +kernel
theorem dX10_init_153 : decode cX10_init 153 = .ok (.putfield 66, 3) := by decide +kernel
theorem dX10_init_156 : decode cX10_init 156 = .ok (.aload_n 0, 1) := by decide +kernel
theorem dX10_init_157 : decode cX10_init 157 = .ok (.sipush 240, 3) := by decide +kernel
theorem dX10_init_160 : decode cX10_init 160 = .ok (.newarray .int, 2) := by decide +kernel
theorem dX10_init_162 : decode cX10_init 162 = .ok (.putfield 69, 3) := by decide +kernel
theorem dX10_init_165 : decode cX10_init 165 = .ok (.aload_n 0, 1) := by decide +kernel
theorem dX10_init_166 : decode cX10_init 166 = .ok (.sipush 5040, 3) := by decide +kernel
theorem dX10_init_169 : decode cX10_init 169 = .ok (.newarray .int, 2) := by decide +kernel
theorem dX10_init_171 : decode cX10_init 171 = .ok (.putfield 72, 3) := by decide +kernel
theorem dX10_init_174 : decode cX10_init 174 = .ok (.aload_n 0, 1) := by decide +kernel
theorem dX10_init_175 : decode cX10_init 175 = .ok (.sipush 240, 3) := by decide +kernel
theorem dX10_init_178 : decode cX10_init 178 = .ok (.newarray .int, 2) := by decide +kernel
theorem dX10_init_180 : decode cX10_init 180 = .ok (.putfield 75, 3) := by decide +kernel
theorem dX10_init_183 : decode cX10_init 183 = .ok (.aload_n 0, 1) := by decide +kernel
theorem dX10_init_184 : decode cX10_init 184 = .ok (.bipush 78, 2) := by decide +kernel
theorem dX10_init_186 : decode cX10_init 186 = .ok (.newarray .int, 2) := by decide +kernel
theorem dX10_init_188 : decode cX10_init 188 = .ok (.putfield 78, 3) := by decide +kernel
theorem dX10_init_191 : decode cX10_init 191 = .ok (.aload_n 0, 1) := by decide +kernel
theorem dX10_init_192 : decode cX10_init 192 = .ok (.bipush 26, 2) := by decide +kernel
theorem dX10_init_194 : decode cX10_init 194 = .ok (.newarray .int, 2) := by decide +kernel
theorem dX10_init_196 : decode cX10_init 196 = .ok (.putfield 81, 3) := by decide +kernel
theorem dX10_init_199 : decode cX10_init 199 = .ok (.aload_n 0, 1) := by decide +kernel
theorem dX10_init_200 : decode cX10_init 200 = .ok (.bipush 8, 2) := by decide +kernel
theorem dX10_init_202 : decode cX10_init 202 = .ok (.newarray .int, 2) := by decide +kernel
theorem dX10_init_204 : decode cX10_init 204 = .ok (.putfield 84, 3) := by decide +kernel
theorem dX10_init_207 : decode cX10_init 207 = .ok (.aload_n 0, 1) := by decide +kernel
theorem dX10_init_208 : decode cX10_init 208 = .ok (.bipush 8, 2) := by decide +kernel
theorem dX10_init_210 : decode cX10_init 210 = .ok (.newarray .int, 2) := by decide +kernel
theorem dX10_init_212 : decode cX10_init 212 = .ok (.putfield 87, 3) := by decide +kernel
theorem dX10_init_215 : decode cX10_init 215 = .ok (.aload_n 0, 1) := by decide +kernel
theorem dX10_init_216 : decode cX10_init 216 = .ok (.bipush 14, 2) := by decide +kernel
theorem dX10_init_218 : decode cX10_init 218 = .ok (.newarray .int, 2) := by decide +kernel
theorem dX10_init_220 : decode cX10_init 220 = .ok (.putfield 90, 3) := by decide +kernel
theorem dX10_init_223 : decode cX10_init 223 = .ok (.aload_n 0, 1) := by decide +kernel
theorem dX10_init_224 : decode cX10_init 224 = .ok (.iconst 2, 1) := by decide +kernel
theorem dX10_init_225 : decode cX10_init 225 = .ok (.newarray .int, 2) := by decide +kernel
theorem dX10_init_227 : decode cX10_init 227 = .ok (.putfield 93, 3) := by decide +kernel
theorem dX10_init_230 : decode cX10_init 230 = .ok (.aload_n 0, 1) := by decide +kernel
theorem dX10_init_231 : decode cX10_init 231 = .ok (.bipush 6, 2) := by decide +kernel
theorem dX10_init_233 : decode cX10_init 233 = .ok (.newarray .int, 2) := by decide +kernel
theorem dX10_init_235 : decode cX10_init 235 = .ok (.putfield 96, 3) := by decide +kernel
theorem dX10_init_238 : decode cX10_init 238 = .ok (.aload_n 0, 1) := by decide +kernel
theorem dX10_init_239 : decode cX10_init 239 = .ok (.bipush 24, 2) := by decide +kernel
theorem dX10_init_241 : decode cX10_init 241 = .ok (.newarray .int, 2) := by decide +kernel
theorem dX10_init_243 : decode cX10_init 243 = .ok (.putfield 99, 3) := by decide +kernel
theorem dX10_init_246 : decode cX10_init 246 = .ok (.aload_n 0, 1) := by decide +kernel
theorem dX10_init_247 : decode cX10_init 247 = .ok (.bipush 56, 2) := by decide +kernel
theorem dX10_init_249 : decode cX10_init 249 = .ok (.newarray .int, 2) := by decide +kernel
theorem dX10_init_251 : decode cX10_init 251 = .ok (.putfield 102, 3) := by decide +kernel
theorem dX10_init_254 : decode cX10_init 254 = .ok (.aload_n 0, 1) := by decide +kernel
theorem dX10_init_255 : decode cX10_init 255 = .ok (.bipush 9, 2) := by decide +kernel
theorem dX10_init_257 : decode cX10_init 257 = .ok (.newarray .int, 2) := by decide +kernel
theorem dX10_init_259 : decode cX10_init 259 = .ok (.putfield 105, 3) := by decide +kernel
theorem dX10_init_262 : decode cX10_init 262 = .ok (.aload_n 0, 1) := by decide +kernel
theorem dX10_init_263 : decode cX10_init 263 = .ok (.sipush 6500, 3) := by decide +kernel
theorem dX10_init_266 : decode cX10_init 266 = .ok (.newarray .int, 2) := by decide +kernel
theorem dX10_init_268 : decode cX10_init 268 = .ok (.putfield 108, 3) := by decide +kernel
theorem dX10_init_271 : decode cX10_init 271 = .ok (.aload_n 0, 1) := by decide +kernel
theorem dX10_init_272 : decode cX10_init 272 = .ok (.sipush 6500, 3) := by decide +kernel
theorem dX10_init_275 : decode cX10_init 275 = .ok (.newarray .int, 2) := by decide +kernel
theorem dX10_init_277 : decode cX10_init 277 = .ok (.putfield 111, 3) := by decide +kernel
theorem dX10_init_280 : decode cX10_init 280 = .ok (.aload_n 0, 1) := by decide +kernel
theorem dX10_init_281 : decode cX10_init 281 = .ok (.sipush 240, 3) := by decide +kernel
theorem dX10_init_284 : decode cX10_init 284 = .ok (.newarray .int, 2) := by decide +kernel
theorem dX10_init_286 : decode cX10_init 286 = .ok (.putfield 114, 3) := by decide +kernel
theorem dX10_init_289 : decode cX10_init 289 = .ok (.aload_n 0, 1) := by decide +kernel
theorem dX10_init_290 : decode cX10_init 290 = .ok (.bipush 30, 2) := by decide +kernel
theorem dX10_init_292 : decode cX10_init 292 = .ok (.newarray .boolean, 2) := by decide +kernel
theorem dX10_init_294 : decode cX10_init 294 = .ok (.putfield 117, 3) := by decide +kernel
theorem dX10_init_297 : decode cX10_init 297 = .ok (.aload_n 0, 1) := by decide +kernel
theorem dX10_init_298 : decode cX10_init 298 = .ok (.sipush 240, 3) := by decide +kernel
theorem dX10_init_301 : decode cX10_init 301 = .ok (.newarray .int, 2) := by decide +kernel
theorem dX10_init_303 : decode cX10_init 303 = .ok (.putfield 120, 3) := by decide +kernel
theorem dX10_init_306 : decode cX10_init 306 = .ok (.aload_n 0, 1) := by decide +kernel
theorem dX10_init_307 : decode cX10_init 307 = .ok (.bipush 30, 2) := by decide +kernel
theorem dX10_init_309 : decode cX10_init 309 = .ok (.newarray .int, 2) := by decide +kernel
theorem dX10_init_311 : decode cX10_init 311 = .ok (.putfield 123, 3) := by decide +kernel
theorem dX10_init_314 : decode cX10_init 314 = .ok (.iconst 0, 1) := by decide +kernel
theorem dX10_init_315 : decode cX10_init 315 = .ok (.istore_n 1, 1) := by decide +kernel
theorem dX10_init_316 : decode cX10_init 316 = .ok (.iload_n 1, 1) := by decide +kernel
theorem dX10_init_317 : decode cX10_init 317 = .ok (.bipush 26, 2) := by decide +kernel
theorem dX10_init_319 : decode cX10_init 319 = .ok (.if_icmp .ge 28, 3) := by decide +kernel
theorem dX10_init_322 : decode cX10_init 322 = .ok (.aload_n 0, 1) := by decide +kernel
theorem dX10_init_323 : decode cX10_init 323 = .ok (.getfield 78, 3) := by decide +kernel
theorem dX10_init_326 : decode cX10_init 326 = .ok (.iconst 3, 1) := by decide +kernel
theorem dX10_init_327 : decode cX10_init 327 = .ok (.iload_n 1, 1) := by decide +kernel
theorem dX10_init_328 : decode cX10_init 328 = .ok (.imul, 1) := by decide +kernel
theorem dX10_init_329 : decode cX10_init 329 = .ok (.bipush 97, 2) := by decide +kernel
theorem dX10_init_331 : decode cX10_init 331 = .ok (.iload_n 1, 1) := by decide +kernel
theorem dX10_init_332 : decode cX10_init 332 = .ok (.iadd, 1) := by decide +kernel
theorem dX10_init_333 : decode cX10_init 333 = .ok (.iastore, 1) := by decide +kernel
theorem dX10_init_334 : decode cX10_init 334 = .ok (.aload_n 0, 1) := by decide +kernel
theorem dX10_init_335 : decode cX10_init 335 = .ok (.getfield 81, 3) := by decide +kernel
theorem dX10_init_338 : decode cX10_init 338 = .ok (.iload_n 1, 1) := by decide +kernel
theorem dX10_init_339 : decode cX10_init 339 = .ok (.iconst 1, 1) := by decide +kernel
theorem dX10_init_340 : decode cX10_init 340 = .ok (.iastore, 1) := by decide +kernel
theorem dX10_init_341 : decode cX10_init 341 = .ok (.iinc 1 1, 3) := by decide +kernel
theorem dX10_init_344 : decode cX10_init 344 = .ok (.goto (-28), 3) := by decide +kernel
theorem dX10_init_347 : decode cX10_init 347 = .ok (.return_, 1) := by decide +kernel
theorem dX10_thrown_0 : decode cX10_thrown 0 = .ok (.aload_n 0, 1) := by decide +kernel
theorem dX10_thrown_1 : decode cX10_thrown 1 = .ok (.getfield 126, 3) := by decide +kernel
theorem dX10_thrown_4 : decode cX10_thrown 4 = .ok (.ireturn, 1) := by decide +kernel
theorem dX10_feed_0 : decode cX10_feed 0 = .ok (.aload_n 0, 1) := by decide +kernel
theorem dX10_feed_1 : decode cX10_feed 1 = .ok (.iconst 0, 1) := by decide +kernel
theorem dX10_feed_2 : decode cX10_feed 2 = .ok (.putfield 126, 3) := by decide +kernel
theorem dX10_feed_5 : decode cX10_feed 5 = .ok (.aload_n 0, 1) := by decide +kernel
theorem dX10_feed_6 : decode cX10_feed 6 = .ok (.getfield 129, 3) := by decide +kernel
theorem dX10_feed_9 : decode cX10_feed 9 = .ok (.bipush 20, 2) := by decide +kernel
theorem dX10_feed_11 : decode cX10_feed 11 = .ok (.iadd, 1) := by decide +kernel
theorem dX10_feed_12 : decode cX10_feed 12 = .ok (.sipush 400, 3) := by decide +kernel
theorem dX10_feed_15 : decode cX10_feed 15 = .ok (.if_icmp .le 5, 3) := by decide +kernel
theorem dX10_feed_18 : decode cX10_feed 18 = .ok (.iconst (-1), 1) := by decide +kernel
theorem dX10_feed_19 : decode cX10_feed 19 = .ok (.ireturn, 1) := by decide +kernel
theorem dX10_feed_20 : decode cX10_feed 20 = .ok (.iconst 0, 1) := by decide +kernel
theorem dX10_feed_21 : decode cX10_feed 21 = .ok (.istore 6, 2) := by decide +kernel
theorem dX10_feed_23 : decode cX10_feed 23 = .ok (.iload 6, 2) := by decide +kernel
theorem dX10_feed_25 : decode cX10_feed 25 = .ok (.bipush 20, 2) := by decide +kernel
theorem dX10_feed_27 : decode cX10_feed 27 = .ok (.if_icmp .ge 86, 3) := by decide +kernel
theorem dX10_feed_30 : decode cX10_feed 30 = .ok (.iload 6, 2) := by decide +kernel
theorem dX10_feed_32 : decode cX10_feed 32 = .ok (.iconst 4, 1) := by decide +kernel
theorem dX10_feed_33 : decode cX10_feed 33 = .ok (.if_icmp .ge 7, 3) := by decide +kernel
theorem dX10_feed_36 : decode cX10_feed 36 = .ok (.iload_n 1, 1) := by decide +kernel
theorem dX10_feed_37 : decode cX10_feed 37 = .ok (.goto 39, 3) := by decide +kernel
theorem dX10_feed_40 : decode cX10_feed 40 = .ok (.iload 6, 2) := by decide +kernel
theorem dX10_feed_42 : decode cX10_feed 42 = .ok (.bipush 8, 2) := by decide +kernel
theorem dX10_feed_44 : decode cX10_feed 44 = .ok (.if_icmp .ge 7, 3) := by decide +kernel
theorem dX10_feed_47 : decode cX10_feed 47 = .ok (.iload_n 2, 1) := by decide +kernel
theorem dX10_feed_48 : decode cX10_feed 48 = .ok (.goto 28, 3) := by decide +kernel
theorem dX10_feed_51 : decode cX10_feed 51 = .ok (.iload 6, 2) := by decide +kernel
theorem dX10_feed_53 : decode cX10_feed 53 = .ok (.bipush 12, 2) := by decide +kernel
theorem dX10_feed_55 : decode cX10_feed 55 = .ok (.if_icmp .ge 7, 3) := by decide +kernel
theorem dX10_feed_58 : decode cX10_feed 58 = .ok (.iload_n 3, 1) := by decide +kernel
theorem dX10_feed_59 : decode cX10_feed 59 = .ok (.goto 17, 3) := by decide +kernel
theorem dX10_feed_62 : decode cX10_feed 62 = .ok (.iload 6, 2) := by decide +kernel
theorem dX10_feed_64 : decode cX10_feed 64 = .ok (.bipush 16, 2) := by decide +kernel
theorem dX10_feed_66 : decode cX10_feed 66 = .ok (.if_icmp .ge 8, 3) := by decide +kernel
theorem dX10_feed_69 : decode cX10_feed 69 = .ok (.iload 4, 2) := by decide +kernel
theorem dX10_feed_71 : decode cX10_feed 71 = .ok (.goto 5, 3) := by decide +kernel
theorem dX10_feed_74 : decode cX10_feed 74 = .ok (.iload 5, 2) := by decide +kernel
theorem dX10_feed_76 : decode cX10_feed 76 = .ok (.istore 7, 2) := by decide +kernel
theorem dX10_feed_78 : decode cX10_feed 78 = .ok (.aload_n 0, 1) := by decide +kernel
theorem dX10_feed_79 : decode cX10_feed 79 = .ok (.getfield 7, 3) := by decide +kernel
theorem dX10_feed_82 : decode cX10_feed 82 = .ok (.aload_n 0, 1) := by decide +kernel
theorem dX10_feed_83 : decode cX10_feed 83 = .ok (.getfield 129, 3) := by decide +kernel
theorem dX10_feed_86 : decode cX10_feed 86 = .ok (.iload 6, 2) := by decide +kernel
theorem dX10_feed_88 : decode cX10_feed 88 = .ok (.iadd, 1) := by decide +kernel
theorem dX10_feed_89 : decode cX10_feed 89 = .ok (.iload 7, 2) := by decide +kernel
theorem dX10_feed_91 : decode cX10_feed 91 = .ok (.bipush 24, 2) := by decide +kernel
theorem dX10_feed_93 : decode cX10_feed 93 = .ok (.bipush 8, 2) := by decide +kernel
theorem dX10_feed_95 : decode cX10_feed 95 = .ok (.iload 6, 2) := by decide +kernel
theorem dX10_feed_97 : decode cX10_feed 97 = .ok (.iconst 4, 1) := by decide +kernel
theorem dX10_feed_98 : decode cX10_feed 98 = .ok (.irem, 1) := by decide +kernel
theorem dX10_feed_99 : decode cX10_feed 99 = .ok (.imul, 1) := by decide +kernel
theorem dX10_feed_100 : decode cX10_feed 100 = .ok (.isub, 1) := by decide +kernel
theorem dX10_feed_101 : decode cX10_feed 101 = .ok (.ishr, 1) := by decide +kernel
theorem dX10_feed_102 : decode cX10_feed 102 = .ok (.sipush 255, 3) := by decide +kernel
theorem dX10_feed_105 : decode cX10_feed 105 = .ok (.iand, 1) := by decide +kernel
theorem dX10_feed_106 : decode cX10_feed 106 = .ok (.iastore, 1) := by decide +kernel
theorem dX10_feed_107 : decode cX10_feed 107 = .ok (.iinc 6 1, 3) := by decide +kernel
theorem dX10_feed_110 : decode cX10_feed 110 = .ok (.goto (-87), 3) := by decide +kernel
theorem dX10_feed_113 : decode cX10_feed 113 = .ok (.aload_n 0, 1) := by decide +kernel
theorem dX10_feed_114 : decode cX10_feed 114 = .ok (.dup, 1) := by decide +kernel
theorem dX10_feed_115 : decode cX10_feed 115 = .ok (.getfield 129, 3) := by decide +kernel
theorem dX10_feed_118 : decode cX10_feed 118 = .ok (.bipush 20, 2) := by decide +kernel
theorem dX10_feed_120 : decode cX10_feed 120 = .ok (.iadd, 1) := by decide +kernel
theorem dX10_feed_121 : decode cX10_feed 121 = .ok (.putfield 129, 3) := by decide +kernel
theorem dX10_feed_124 : decode cX10_feed 124 = .ok (.aload_n 0, 1) := by decide +kernel
theorem dX10_feed_125 : decode cX10_feed 125 = .ok (.getfield 129, 3) := by decide +kernel
theorem dX10_feed_128 : decode cX10_feed 128 = .ok (.ireturn, 1) := by decide +kernel
theorem dX10_wrong_0 : decode cX10_wrong 0 = .ok (.aload_n 0, 1) := by decide +kernel
theorem dX10_wrong_1 : decode cX10_wrong 1 = .ok (.iload_n 1, 1) := by decide +kernel
theorem dX10_wrong_2 : decode cX10_wrong 2 = .ok (.putfield 132, 3) := by decide +kernel
theorem dX10_wrong_5 : decode cX10_wrong 5 = .ok (.aload_n 0, 1) := by decide +kernel
theorem dX10_wrong_6 : decode cX10_wrong 6 = .ok (.iload_n 2, 1) := by decide +kernel
theorem dX10_wrong_7 : decode cX10_wrong 7 = .ok (.putfield 56, 3) := by decide +kernel
theorem dX10_wrong_10 : decode cX10_wrong 10 = .ok (.iconst 0, 1) := by decide +kernel
theorem dX10_wrong_11 : decode cX10_wrong 11 = .ok (.ireturn, 1) := by decide +kernel
theorem dX10_see_0 : decode cX10_see 0 = .ok (.aload_n 0, 1) := by decide +kernel
theorem dX10_see_1 : decode cX10_see 1 = .ok (.getfield 135, 3) := by decide +kernel
theorem dX10_see_4 : decode cX10_see 4 = .ok (.aload_n 0, 1) := by decide +kernel
theorem dX10_see_5 : decode cX10_see 5 = .ok (.getfield 138, 3) := by decide +kernel
theorem dX10_see_8 : decode cX10_see 8 = .ok (.if_icmp .ge 15, 3) := by decide +kernel
theorem dX10_see_11 : decode cX10_see 11 = .ok (.aload_n 0, 1) := by decide +kernel
theorem dX10_see_12 : decode cX10_see 12 = .ok (.getfield 7, 3) := by decide +kernel
theorem dX10_see_15 : decode cX10_see 15 = .ok (.aload_n 0, 1) := by decide +kernel
theorem dX10_see_16 : decode cX10_see 16 = .ok (.getfield 135, 3) := by decide +kernel
theorem dX10_see_19 : decode cX10_see 19 = .ok (.iaload, 1) := by decide +kernel
theorem dX10_see_20 : decode cX10_see 20 = .ok (.goto 4, 3) := by decide +kernel
theorem dX10_see_23 : decode cX10_see 23 = .ok (.iconst (-1), 1) := by decide +kernel
theorem dX10_see_24 : decode cX10_see 24 = .ok (.ireturn, 1) := by decide +kernel
theorem dX10_kindOf_0 : decode cX10_kindOf 0 = .ok (.iload_n 0, 1) := by decide +kernel
theorem dX10_kindOf_1 : decode cX10_kindOf 1 = .ok (.bipush 84, 2) := by decide +kernel
theorem dX10_kindOf_3 : decode cX10_kindOf 3 = .ok (.if_icmp .ne 7, 3) := by decide +kernel
theorem dX10_kindOf_6 : decode cX10_kindOf 6 = .ok (.iconst 0, 1) := by decide +kernel
theorem dX10_kindOf_7 : decode cX10_kindOf 7 = .ok (.goto 65, 3) := by decide +kernel
theorem dX10_kindOf_10 : decode cX10_kindOf 10 = .ok (.iload_n 0, 1) := by decide +kernel
theorem dX10_kindOf_11 : decode cX10_kindOf 11 = .ok (.bipush 71, 2) := by decide +kernel
theorem dX10_kindOf_13 : decode cX10_kindOf 13 = .ok (.if_icmp .ne 7, 3) := by decide +kernel
theorem dX10_kindOf_16 : decode cX10_kindOf 16 = .ok (.iconst 1, 1) := by decide +kernel
theorem dX10_kindOf_17 : decode cX10_kindOf 17 = .ok (.goto 55, 3) := by decide +kernel
theorem dX10_kindOf_20 : decode cX10_kindOf 20 = .ok (.iload_n 0, 1) := by decide +kernel
theorem dX10_kindOf_21 : decode cX10_kindOf 21 = .ok (.bipush 80, 2) := by decide +kernel
theorem dX10_kindOf_23 : decode cX10_kindOf 23 = .ok (.if_icmp .ne 7, 3) := by decide +kernel
theorem dX10_kindOf_26 : decode cX10_kindOf 26 = .ok (.iconst 2, 1) := by decide +kernel
theorem dX10_kindOf_27 : decode cX10_kindOf 27 = .ok (.goto 45, 3) := by decide +kernel
theorem dX10_kindOf_30 : decode cX10_kindOf 30 = .ok (.iload_n 0, 1) := by decide +kernel
theorem dX10_kindOf_31 : decode cX10_kindOf 31 = .ok (.bipush 81, 2) := by decide +kernel
theorem dX10_kindOf_33 : decode cX10_kindOf 33 = .ok (.if_icmp .ne 7, 3) := by decide +kernel
theorem dX10_kindOf_36 : decode cX10_kindOf 36 = .ok (.iconst 3, 1) := by decide +kernel
theorem dX10_kindOf_37 : decode cX10_kindOf 37 = .ok (.goto 35, 3) := by decide +kernel
theorem dX10_kindOf_40 : decode cX10_kindOf 40 = .ok (.iload_n 0, 1) := by decide +kernel
theorem dX10_kindOf_41 : decode cX10_kindOf 41 = .ok (.bipush 70, 2) := by decide +kernel
theorem dX10_kindOf_43 : decode cX10_kindOf 43 = .ok (.if_icmp .ne 7, 3) := by decide +kernel
theorem dX10_kindOf_46 : decode cX10_kindOf 46 = .ok (.iconst 4, 1) := by decide +kernel
theorem dX10_kindOf_47 : decode cX10_kindOf 47 = .ok (.goto 25, 3) := by decide +kernel
theorem dX10_kindOf_50 : decode cX10_kindOf 50 = .ok (.iload_n 0, 1) := by decide +kernel
theorem dX10_kindOf_51 : decode cX10_kindOf 51 = .ok (.bipush 77, 2) := by decide +kernel
theorem dX10_kindOf_53 : decode cX10_kindOf 53 = .ok (.if_icmp .ne 7, 3) := by decide +kernel
theorem dX10_kindOf_56 : decode cX10_kindOf 56 = .ok (.iconst 5, 1) := by decide +kernel
theorem dX10_kindOf_57 : decode cX10_kindOf 57 = .ok (.goto 15, 3) := by decide +kernel
theorem dX10_kindOf_60 : decode cX10_kindOf 60 = .ok (.iload_n 0, 1) := by decide +kernel
theorem dX10_kindOf_61 : decode cX10_kindOf 61 = .ok (.bipush 73, 2) := by decide +kernel
theorem dX10_kindOf_63 : decode cX10_kindOf 63 = .ok (.if_icmp .ne 8, 3) := by decide +kernel
theorem dX10_kindOf_66 : decode cX10_kindOf 66 = .ok (.bipush 6, 2) := by decide +kernel
theorem dX10_kindOf_68 : decode cX10_kindOf 68 = .ok (.goto 4, 3) := by decide +kernel
theorem dX10_kindOf_71 : decode cX10_kindOf 71 = .ok (.iconst (-1), 1) := by decide +kernel
theorem dX10_kindOf_72 : decode cX10_kindOf 72 = .ok (.ireturn, 1) := by decide +kernel
theorem dX10_slotsRead_0 : decode cX10_slotsRead 0 = .ok (.aload_n 0, 1) := by decide +kernel
theorem dX10_slotsRead_1 : decode cX10_slotsRead 1 = .ok (.iconst 0, 1) := by decide +kernel
theorem dX10_slotsRead_2 : decode cX10_slotsRead 2 = .ok (.putfield 141, 3) := by decide +kernel
theorem dX10_slotsRead_5 : decode cX10_slotsRead 5 = .ok (.iconst 1, 1) := by decide +kernel
theorem dX10_slotsRead_6 : decode cX10_slotsRead 6 = .ok (.istore_n 1, 1) := by decide +kernel
theorem dX10_slotsRead_7 : decode cX10_slotsRead 7 = .ok (.iload_n 1, 1) := by decide +kernel
theorem dX10_slotsRead_8 : decode cX10_slotsRead 8 = .ok (.ifCond .eq 159, 3) := by decide +kernel
theorem dX10_slotsRead_11 : decode cX10_slotsRead 11 = .ok (.aload_n 0, 1) := by decide +kernel
theorem dX10_slotsRead_12 : decode cX10_slotsRead 12 = .ok (.invokevirtual 144, 3) := by decide +kernel
theorem dX10_slotsRead_15 : decode cX10_slotsRead 15 = .ok (.invokestatic 148, 3) := by decide +kernel
theorem dX10_slotsRead_18 : decode cX10_slotsRead 18 = .ok (.istore_n 2, 1) := by decide +kernel
theorem dX10_slotsRead_19 : decode cX10_slotsRead 19 = .ok (.iload_n 2, 1) := by decide +kernel
theorem dX10_slotsRead_20 : decode cX10_slotsRead 20 = .ok (.ifCond .ge 13, 3) := by decide +kernel
theorem dX10_slotsRead_23 : decode cX10_slotsRead 23 = .ok (.aload_n 0, 1) := by decide +kernel
theorem dX10_slotsRead_24 : decode cX10_slotsRead 24 = .ok (.iconst 1, 1) := by decide +kernel
theorem dX10_slotsRead_25 : decode cX10_slotsRead 25 = .ok (.aload_n 0, 1) := by decide +kernel
theorem dX10_slotsRead_26 : decode cX10_slotsRead 26 = .ok (.getfield 135, 3) := by decide +kernel
theorem dX10_slotsRead_29 : decode cX10_slotsRead 29 = .ok (.invokevirtual 152, 3) := by decide +kernel
theorem dX10_slotsRead_32 : decode cX10_slotsRead 32 = .ok (.ireturn, 1) := by decide +kernel
theorem dX10_slotsRead_33 : decode cX10_slotsRead 33 = .ok (.aload_n 0, 1) := by decide +kernel
theorem dX10_slotsRead_34 : decode cX10_slotsRead 34 = .ok (.getfield 141, 3) := by decide +kernel
theorem dX10_slotsRead_37 : decode cX10_slotsRead 37 = .ok (.bipush 8, 2) := by decide +kernel
theorem dX10_slotsRead_39 : decode cX10_slotsRead 39 = .ok (.if_icmp .ne 13, 3) := by decide +kernel
theorem dX10_slotsRead_42 : decode cX10_slotsRead 42 = .ok (.aload_n 0, 1) := by decide +kernel
theorem dX10_slotsRead_43 : decode cX10_slotsRead 43 = .ok (.iconst 2, 1) := by decide +kernel
theorem dX10_slotsRead_44 : decode cX10_slotsRead 44 = .ok (.aload_n 0, 1) := by decide +kernel
theorem dX10_slotsRead_45 : decode cX10_slotsRead 45 = .ok (.getfield 135, 3) := by decide +kernel
theorem dX10_slotsRead_48 : decode cX10_slotsRead 48 = .ok (.invokevirtual 152, 3) := by decide +kernel
theorem dX10_slotsRead_51 : decode cX10_slotsRead 51 = .ok (.ireturn, 1) := by decide +kernel
theorem dX10_slotsRead_52 : decode cX10_slotsRead 52 = .ok (.aload_n 0, 1) := by decide +kernel
theorem dX10_slotsRead_53 : decode cX10_slotsRead 53 = .ok (.dup, 1) := by decide +kernel
theorem dX10_slotsRead_54 : decode cX10_slotsRead 54 = .ok (.getfield 135, 3) := by decide +kernel
theorem dX10_slotsRead_57 : decode cX10_slotsRead 57 = .ok (.iconst 1, 1) := by decide +kernel
theorem dX10_slotsRead_58 : decode cX10_slotsRead 58 = .ok (.iadd, 1) := by decide +kernel
theorem dX10_slotsRead_59 : decode cX10_slotsRead 59 = .ok (.putfield 135, 3) := by decide +kernel
theorem dX10_slotsRead_62 : decode cX10_slotsRead 62 = .ok (.aload_n 0, 1) := by decide +kernel
theorem dX10_slotsRead_63 : decode cX10_slotsRead 63 = .ok (.invokevirtual 144, 3) := by decide +kernel
theorem dX10_slotsRead_66 : decode cX10_slotsRead 66 = .ok (.istore_n 3, 1) := by decide +kernel
theorem dX10_slotsRead_67 : decode cX10_slotsRead 67 = .ok (.aload_n 0, 1) := by decide +kernel
theorem dX10_slotsRead_68 : decode cX10_slotsRead 68 = .ok (.getfield 84, 3) := by decide +kernel
theorem dX10_slotsRead_71 : decode cX10_slotsRead 71 = .ok (.aload_n 0, 1) := by decide +kernel
theorem dX10_slotsRead_72 : decode cX10_slotsRead 72 = .ok (.getfield 141, 3) := by decide +kernel
theorem dX10_slotsRead_75 : decode cX10_slotsRead 75 = .ok (.iload_n 2, 1) := by decide +kernel
theorem dX10_slotsRead_76 : decode cX10_slotsRead 76 = .ok (.iastore, 1) := by decide +kernel
theorem dX10_slotsRead_77 : decode cX10_slotsRead 77 = .ok (.aload_n 0, 1) := by decide +kernel
theorem dX10_slotsRead_78 : decode cX10_slotsRead 78 = .ok (.getfield 87, 3) := by decide +kernel
theorem dX10_slotsRead_81 : decode cX10_slotsRead 81 = .ok (.aload_n 0, 1) := by decide +kernel
theorem dX10_slotsRead_82 : decode cX10_slotsRead 82 = .ok (.getfield 141, 3) := by decide +kernel
theorem dX10_slotsRead_85 : decode cX10_slotsRead 85 = .ok (.iload_n 3, 1) := by decide +kernel
theorem dX10_slotsRead_86 : decode cX10_slotsRead 86 = .ok (.bipush 63, 2) := by decide +kernel
theorem dX10_slotsRead_88 : decode cX10_slotsRead 88 = .ok (.if_icmp .ne 7, 3) := by decide +kernel
theorem dX10_slotsRead_91 : decode cX10_slotsRead 91 = .ok (.iconst 1, 1) := by decide +kernel
theorem dX10_slotsRead_92 : decode cX10_slotsRead 92 = .ok (.goto 24, 3) := by decide +kernel
theorem dX10_slotsRead_95 : decode cX10_slotsRead 95 = .ok (.iload_n 3, 1) := by decide +kernel
theorem dX10_slotsRead_96 : decode cX10_slotsRead 96 = .ok (.bipush 42, 2) := by decide +kernel
theorem dX10_slotsRead_98 : decode cX10_slotsRead 98 = .ok (.if_icmp .ne 7, 3) := by decide +kernel
theorem dX10_slotsRead_101 : decode cX10_slotsRead 101 = .ok (.iconst 2, 1) := by decide +kernel
theorem dX10_slotsRead_102 : decode cX10_slotsRead 102 = .ok (.goto 14, 3) := by decide +kernel
theorem dX10_slotsRead_105 : decode cX10_slotsRead 105 = .ok (.iload_n 3, 1) := by decide +kernel
theorem dX10_slotsRead_106 : decode cX10_slotsRead 106 = .ok (.bipush 43, 2) := by decide +kernel
theorem dX10_slotsRead_108 : decode cX10_slotsRead 108 = .ok (.if_icmp .ne 7, 3) := by decide +kernel
theorem dX10_slotsRead_111 : decode cX10_slotsRead 111 = .ok (.iconst 3, 1) := by decide +kernel
theorem dX10_slotsRead_112 : decode cX10_slotsRead 112 = .ok (.goto 4, 3) := by decide +kernel
theorem dX10_slotsRead_115 : decode cX10_slotsRead 115 = .ok (.iconst 0, 1) := by decide +kernel
theorem dX10_slotsRead_116 : decode cX10_slotsRead 116 = .ok (.iastore, 1) := by decide +kernel
theorem dX10_slotsRead_117 : decode cX10_slotsRead 117 = .ok (.aload_n 0, 1) := by decide +kernel
theorem dX10_slotsRead_118 : decode cX10_slotsRead 118 = .ok (.getfield 87, 3) := by decide +kernel
theorem dX10_slotsRead_121 : decode cX10_slotsRead 121 = .ok (.aload_n 0, 1) := by decide +kernel
theorem dX10_slotsRead_122 : decode cX10_slotsRead 122 = .ok (.getfield 141, 3) := by decide +kernel
theorem dX10_slotsRead_125 : decode cX10_slotsRead 125 = .ok (.iaload, 1) := by decide +kernel
theorem dX10_slotsRead_126 : decode cX10_slotsRead 126 = .ok (.ifCond .le 13, 3) := by decide +kernel
theorem dX10_slotsRead_129 : decode cX10_slotsRead 129 = .ok (.aload_n 0, 1) := by decide +kernel
theorem dX10_slotsRead_130 : decode cX10_slotsRead 130 = .ok (.dup, 1) := by decide +kernel
theorem dX10_slotsRead_131 : decode cX10_slotsRead 131 = .ok (.getfield 135, 3) := by decide +kernel
theorem dX10_slotsRead_134 : decode cX10_slotsRead 134 = .ok (.iconst 1, 1) := by decide +kernel
theorem dX10_slotsRead_135 : decode cX10_slotsRead 135 = .ok (.iadd, 1) := by decide +kernel
theorem dX10_slotsRead_136 : decode cX10_slotsRead 136 = .ok (.putfield 135, 3) := by decide +kernel
theorem dX10_slotsRead_139 : decode cX10_slotsRead 139 = .ok (.aload_n 0, 1) := by decide +kernel
theorem dX10_slotsRead_140 : decode cX10_slotsRead 140 = .ok (.dup, 1) := by decide +kernel
theorem dX10_slotsRead_141 : decode cX10_slotsRead 141 = .ok (.getfield 141, 3) := by decide +kernel
theorem dX10_slotsRead_144 : decode cX10_slotsRead 144 = .ok (.iconst 1, 1) := by decide +kernel
theorem dX10_slotsRead_145 : decode cX10_slotsRead 145 = .ok (.iadd, 1) := by decide +kernel
theorem dX10_slotsRead_146 : decode cX10_slotsRead 146 = .ok (.putfield 141, 3) := by decide +kernel
theorem dX10_slotsRead_149 : decode cX10_slotsRead 149 = .ok (.aload_n 0, 1) := by decide +kernel
theorem dX10_slotsRead_150 : decode cX10_slotsRead 150 = .ok (.invokevirtual 144, 3) := by decide +kernel
theorem dX10_slotsRead_153 : decode cX10_slotsRead 153 = .ok (.bipush 59, 2) := by decide +kernel
theorem dX10_slotsRead_155 : decode cX10_slotsRead 155 = .ok (.if_icmp .eq 7, 3) := by decide +kernel
theorem dX10_slotsRead_158 : decode cX10_slotsRead 158 = .ok (.iconst 1, 1) := by decide +kernel
theorem dX10_slotsRead_159 : decode cX10_slotsRead 159 = .ok (.goto 4, 3) := by decide +kernel
theorem dX10_slotsRead_162 : decode cX10_slotsRead 162 = .ok (.iconst 0, 1) := by decide +kernel
theorem dX10_slotsRead_163 : decode cX10_slotsRead 163 = .ok (.istore_n 1, 1) := by decide +kernel
theorem dX10_slotsRead_164 : decode cX10_slotsRead 164 = .ok (.goto (-157), 3) := by decide +kernel
theorem dX10_slotsRead_167 : decode cX10_slotsRead 167 = .ok (.aload_n 0, 1) := by decide +kernel
theorem dX10_slotsRead_168 : decode cX10_slotsRead 168 = .ok (.dup, 1) := by decide +kernel
theorem dX10_slotsRead_169 : decode cX10_slotsRead 169 = .ok (.getfield 135, 3) := by decide +kernel
theorem dX10_slotsRead_172 : decode cX10_slotsRead 172 = .ok (.iconst 1, 1) := by decide +kernel
theorem dX10_slotsRead_173 : decode cX10_slotsRead 173 = .ok (.iadd, 1) := by decide +kernel
theorem dX10_slotsRead_174 : decode cX10_slotsRead 174 = .ok (.putfield 135, 3) := by decide +kernel
theorem dX10_slotsRead_177 : decode cX10_slotsRead 177 = .ok (.iconst 1, 1) := by decide +kernel
theorem dX10_slotsRead_178 : decode cX10_slotsRead 178 = .ok (.ireturn, 1) := by decide +kernel
theorem dX10_lettersRead_0 : decode cX10_lettersRead 0 = .ok (.aload_n 0, 1) := by decide +kernel
theorem dX10_lettersRead_1 : decode cX10_lettersRead 1 = .ok (.getfield 93, 3) := by decide +kernel
theorem dX10_lettersRead_4 : decode cX10_lettersRead 4 = .ok (.iload_n 1, 1) := by decide +kernel
theorem dX10_lettersRead_5 : decode cX10_lettersRead 5 = .ok (.iconst 0, 1) := by decide +kernel
theorem dX10_lettersRead_6 : decode cX10_lettersRead 6 = .ok (.iastore, 1) := by decide +kernel
theorem dX10_lettersRead_7 : decode cX10_lettersRead 7 = .ok (.iconst 1, 1) := by decide +kernel
theorem dX10_lettersRead_8 : decode cX10_lettersRead 8 = .ok (.istore_n 2, 1) := by decide +kernel
theorem dX10_lettersRead_9 : decode cX10_lettersRead 9 = .ok (.iload_n 2, 1) := by decide +kernel
theorem dX10_lettersRead_10 : decode cX10_lettersRead 10 = .ok (.ifCond .eq 126, 3) := by decide +kernel
theorem dX10_lettersRead_13 : decode cX10_lettersRead 13 = .ok (.aload_n 0, 1) := by decide +kernel
theorem dX10_lettersRead_14 : decode cX10_lettersRead 14 = .ok (.invokevirtual 144, 3) := by decide +kernel
theorem dX10_lettersRead_17 : decode cX10_lettersRead 17 = .ok (.invokestatic 148, 3) := by decide +kernel
theorem dX10_lettersRead_20 : decode cX10_lettersRead 20 = .ok (.istore_n 3, 1) := by decide +kernel
theorem dX10_lettersRead_21 : decode cX10_lettersRead 21 = .ok (.iload_n 3, 1) := by decide +kernel
theorem dX10_lettersRead_22 : decode cX10_lettersRead 22 = .ok (.ifCond .ge 13, 3) := by decide +kernel
theorem dX10_lettersRead_25 : decode cX10_lettersRead 25 = .ok (.aload_n 0, 1) := by decide +kernel
theorem dX10_lettersRead_26 : decode cX10_lettersRead 26 = .ok (.iconst 1, 1) := by decide +kernel
theorem dX10_lettersRead_27 : decode cX10_lettersRead 27 = .ok (.aload_n 0, 1) := by decide +kernel
theorem dX10_lettersRead_28 : decode cX10_lettersRead 28 = .ok (.getfield 135, 3) := by decide +kernel
theorem dX10_lettersRead_31 : decode cX10_lettersRead 31 = .ok (.invokevirtual 152, 3) := by decide +kernel
theorem dX10_lettersRead_34 : decode cX10_lettersRead 34 = .ok (.ireturn, 1) := by decide +kernel
theorem dX10_lettersRead_35 : decode cX10_lettersRead 35 = .ok (.iconst 0, 1) := by decide +kernel
theorem dX10_lettersRead_36 : decode cX10_lettersRead 36 = .ok (.istore 4, 2) := by decide +kernel
theorem dX10_lettersRead_38 : decode cX10_lettersRead 38 = .ok (.iload 4, 2) := by decide +kernel
theorem dX10_lettersRead_40 : decode cX10_lettersRead 40 = .ok (.aload_n 0, 1) := by decide +kernel
theorem dX10_lettersRead_41 : decode cX10_lettersRead 41 = .ok (.getfield 93, 3) := by decide +kernel
theorem dX10_lettersRead_44 : decode cX10_lettersRead 44 = .ok (.iload_n 1, 1) := by decide +kernel
theorem dX10_lettersRead_45 : decode cX10_lettersRead 45 = .ok (.iaload, 1) := by decide +kernel
theorem dX10_lettersRead_46 : decode cX10_lettersRead 46 = .ok (.if_icmp .ge 35, 3) := by decide +kernel
theorem dX10_lettersRead_49 : decode cX10_lettersRead 49 = .ok (.aload_n 0, 1) := by decide +kernel
theorem dX10_lettersRead_50 : decode cX10_lettersRead 50 = .ok (.getfield 90, 3) := by decide +kernel
theorem dX10_lettersRead_53 : decode cX10_lettersRead 53 = .ok (.bipush 7, 2) := by decide +kernel
theorem dX10_lettersRead_55 : decode cX10_lettersRead 55 = .ok (.iload_n 1, 1) := by decide +kernel
theorem dX10_lettersRead_56 : decode cX10_lettersRead 56 = .ok (.imul, 1) := by decide +kernel
theorem dX10_lettersRead_57 : decode cX10_lettersRead 57 = .ok (.iload 4, 2) := by decide +kernel
theorem dX10_lettersRead_59 : decode cX10_lettersRead 59 = .ok (.iadd, 1) := by decide +kernel
theorem dX10_lettersRead_60 : decode cX10_lettersRead 60 = .ok (.iaload, 1) := by decide +kernel
theorem dX10_lettersRead_61 : decode cX10_lettersRead 61 = .ok (.iload_n 3, 1) := by decide +kernel
theorem dX10_lettersRead_62 : decode cX10_lettersRead 62 = .ok (.if_icmp .ne 13, 3) := by decide +kernel
theorem dX10_lettersRead_65 : decode cX10_lettersRead 65 = .ok (.aload_n 0, 1) := by decide +kernel
theorem dX10_lettersRead_66 : decode cX10_lettersRead 66 = .ok (.iconst 3, 1) := by decide +kernel
theorem dX10_lettersRead_67 : decode cX10_lettersRead 67 = .ok (.aload_n 0, 1) := by decide +kernel
theorem dX10_lettersRead_68 : decode cX10_lettersRead 68 = .ok (.getfield 135, 3) := by decide +kernel
theorem dX10_lettersRead_71 : decode cX10_lettersRead 71 = .ok (.invokevirtual 152, 3) := by decide +kernel
theorem dX10_lettersRead_74 : decode cX10_lettersRead 74 = .ok (.ireturn, 1) := by decide +kernel
theorem dX10_lettersRead_75 : decode cX10_lettersRead 75 = .ok (.iinc 4 1, 3) := by decide +kernel
theorem dX10_lettersRead_78 : decode cX10_lettersRead 78 = .ok (.goto (-40), 3) := by decide +kernel
theorem dX10_lettersRead_81 : decode cX10_lettersRead 81 = .ok (.aload_n 0, 1) := by decide +kernel
theorem dX10_lettersRead_82 : decode cX10_lettersRead 82 = .ok (.getfield 90, 3) := by decide +kernel
theorem dX10_lettersRead_85 : decode cX10_lettersRead 85 = .ok (.bipush 7, 2) := by decide +kernel
theorem dX10_lettersRead_87 : decode cX10_lettersRead 87 = .ok (.iload_n 1, 1) := by decide +kernel
theorem dX10_lettersRead_88 : decode cX10_lettersRead 88 = .ok (.imul, 1) := by decide +kernel
theorem dX10_lettersRead_89 : decode cX10_lettersRead 89 = .ok (.aload_n 0, 1) := by decide +kernel
theorem dX10_lettersRead_90 : decode cX10_lettersRead 90 = .ok (.getfield 93, 3) := by decide +kernel
theorem dX10_lettersRead_93 : decode cX10_lettersRead 93 = .ok (.iload_n 1, 1) := by decide +kernel
theorem dX10_lettersRead_94 : decode cX10_lettersRead 94 = .ok (.iaload, 1) := by decide +kernel
theorem dX10_lettersRead_95 : decode cX10_lettersRead 95 = .ok (.iadd, 1) := by decide +kernel
theorem dX10_lettersRead_96 : decode cX10_lettersRead 96 = .ok (.iload_n 3, 1) := by decide +kernel
theorem dX10_lettersRead_97 : decode cX10_lettersRead 97 = .ok (.iastore, 1) := by decide +kernel
theorem dX10_lettersRead_98 : decode cX10_lettersRead 98 = .ok (.aload_n 0, 1) := by decide +kernel
theorem dX10_lettersRead_99 : decode cX10_lettersRead 99 = .ok (.getfield 93, 3) := by decide +kernel
theorem dX10_lettersRead_102 : decode cX10_lettersRead 102 = .ok (.iload_n 1, 1) := by decide +kernel
theorem dX10_lettersRead_103 : decode cX10_lettersRead 103 = .ok (.dup2, 1) := by decide +kernel
theorem dX10_lettersRead_104 : decode cX10_lettersRead 104 = .ok (.iaload, 1) := by decide +kernel
theorem dX10_lettersRead_105 : decode cX10_lettersRead 105 = .ok (.iconst 1, 1) := by decide +kernel
theorem dX10_lettersRead_106 : decode cX10_lettersRead 106 = .ok (.iadd, 1) := by decide +kernel
theorem dX10_lettersRead_107 : decode cX10_lettersRead 107 = .ok (.iastore, 1) := by decide +kernel
theorem dX10_lettersRead_108 : decode cX10_lettersRead 108 = .ok (.aload_n 0, 1) := by decide +kernel
theorem dX10_lettersRead_109 : decode cX10_lettersRead 109 = .ok (.dup, 1) := by decide +kernel
theorem dX10_lettersRead_110 : decode cX10_lettersRead 110 = .ok (.getfield 135, 3) := by decide +kernel
theorem dX10_lettersRead_113 : decode cX10_lettersRead 113 = .ok (.iconst 1, 1) := by decide +kernel
theorem dX10_lettersRead_114 : decode cX10_lettersRead 114 = .ok (.iadd, 1) := by decide +kernel
theorem dX10_lettersRead_115 : decode cX10_lettersRead 115 = .ok (.putfield 135, 3) := by decide +kernel
theorem dX10_lettersRead_118 : decode cX10_lettersRead 118 = .ok (.aload_n 0, 1) := by decide +kernel
theorem dX10_lettersRead_119 : decode cX10_lettersRead 119 = .ok (.invokevirtual 144, 3) := by decide +kernel
theorem dX10_lettersRead_122 : decode cX10_lettersRead 122 = .ok (.bipush 59, 2) := by decide +kernel
theorem dX10_lettersRead_124 : decode cX10_lettersRead 124 = .ok (.if_icmp .eq 7, 3) := by decide +kernel
theorem dX10_lettersRead_127 : decode cX10_lettersRead 127 = .ok (.iconst 1, 1) := by decide +kernel
theorem dX10_lettersRead_128 : decode cX10_lettersRead 128 = .ok (.goto 4, 3) := by decide +kernel
theorem dX10_lettersRead_131 : decode cX10_lettersRead 131 = .ok (.iconst 0, 1) := by decide +kernel
theorem dX10_lettersRead_132 : decode cX10_lettersRead 132 = .ok (.istore_n 2, 1) := by decide +kernel
theorem dX10_lettersRead_133 : decode cX10_lettersRead 133 = .ok (.goto (-124), 3) := by decide +kernel
theorem dX10_lettersRead_136 : decode cX10_lettersRead 136 = .ok (.aload_n 0, 1) := by decide +kernel
theorem dX10_lettersRead_137 : decode cX10_lettersRead 137 = .ok (.dup, 1) := by decide +kernel
theorem dX10_lettersRead_138 : decode cX10_lettersRead 138 = .ok (.getfield 135, 3) := by decide +kernel
theorem dX10_lettersRead_141 : decode cX10_lettersRead 141 = .ok (.iconst 1, 1) := by decide +kernel
theorem dX10_lettersRead_142 : decode cX10_lettersRead 142 = .ok (.iadd, 1) := by decide +kernel
theorem dX10_lettersRead_143 : decode cX10_lettersRead 143 = .ok (.putfield 135, 3) := by decide +kernel
theorem dX10_lettersRead_146 : decode cX10_lettersRead 146 = .ok (.iconst 1, 1) := by decide +kernel
end
section
theorem dX10_lettersRead_147 : decode cX10_lettersRead 147 = .ok (.ireturn, 1) := by decide +kernel
theorem dX10_endingRead_0 : decode cX10_endingRead 0 = .ok (.aload_n 0, 1) := by decide +kernel
theorem dX10_endingRead_1 : decode cX10_endingRead 1 = .ok (.iconst 0, 1) := by decide +kernel
theorem dX10_endingRead_2 : decode cX10_endingRead 2 = .ok (.putfield 156, 3) := by decide +kernel
theorem dX10_endingRead_5 : decode cX10_endingRead 5 = .ok (.aload_n 0, 1) := by decide +kernel
theorem dX10_endingRead_6 : decode cX10_endingRead 6 = .ok (.invokevirtual 144, 3) := by decide +kernel
theorem dX10_endingRead_9 : decode cX10_endingRead 9 = .ok (.bipush 45, 2) := by decide +kernel
theorem dX10_endingRead_11 : decode cX10_endingRead 11 = .ok (.if_icmp .ne 16, 3) := by decide +kernel
theorem dX10_endingRead_14 : decode cX10_endingRead 14 = .ok (.aload_n 0, 1) := by decide +kernel
theorem dX10_endingRead_15 : decode cX10_endingRead 15 = .ok (.dup, 1) := by decide +kernel
theorem dX10_endingRead_16 : decode cX10_endingRead 16 = .ok (.getfield 135, 3) := by decide +kernel
theorem dX10_endingRead_19 : decode cX10_endingRead 19 = .ok (.iconst 1, 1) := by decide +kernel
theorem dX10_endingRead_20 : decode cX10_endingRead 20 = .ok (.iadd, 1) := by decide +kernel
theorem dX10_endingRead_21 : decode cX10_endingRead 21 = .ok (.putfield 135, 3) := by decide +kernel
theorem dX10_endingRead_24 : decode cX10_endingRead 24 = .ok (.goto 103, 3) := by decide +kernel
theorem dX10_endingRead_27 : decode cX10_endingRead 27 = .ok (.iconst 1, 1) := by decide +kernel
theorem dX10_endingRead_28 : decode cX10_endingRead 28 = .ok (.istore_n 1, 1) := by decide +kernel
theorem dX10_endingRead_29 : decode cX10_endingRead 29 = .ok (.iload_n 1, 1) := by decide +kernel
theorem dX10_endingRead_30 : decode cX10_endingRead 30 = .ok (.ifCond .eq 97, 3) := by decide +kernel
theorem dX10_endingRead_33 : decode cX10_endingRead 33 = .ok (.aload_n 0, 1) := by decide +kernel
theorem dX10_endingRead_34 : decode cX10_endingRead 34 = .ok (.invokevirtual 144, 3) := by decide +kernel
theorem dX10_endingRead_37 : decode cX10_endingRead 37 = .ok (.istore_n 2, 1) := by decide +kernel
theorem dX10_endingRead_38 : decode cX10_endingRead 38 = .ok (.iload_n 2, 1) := by decide +kernel
theorem dX10_endingRead_39 : decode cX10_endingRead 39 = .ok (.bipush 97, 2) := by decide +kernel
theorem dX10_endingRead_41 : decode cX10_endingRead 41 = .ok (.if_icmp .lt 9, 3) := by decide +kernel
theorem dX10_endingRead_44 : decode cX10_endingRead 44 = .ok (.iload_n 2, 1) := by decide +kernel
theorem dX10_endingRead_45 : decode cX10_endingRead 45 = .ok (.bipush 122, 2) := by decide +kernel
theorem dX10_endingRead_47 : decode cX10_endingRead 47 = .ok (.if_icmp .le 13, 3) := by decide +kernel
theorem dX10_endingRead_50 : decode cX10_endingRead 50 = .ok (.aload_n 0, 1) := by decide +kernel
theorem dX10_endingRead_51 : decode cX10_endingRead 51 = .ok (.iconst 1, 1) := by decide +kernel
theorem dX10_endingRead_52 : decode cX10_endingRead 52 = .ok (.aload_n 0, 1) := by decide +kernel
theorem dX10_endingRead_53 : decode cX10_endingRead 53 = .ok (.getfield 135, 3) := by decide +kernel
theorem dX10_endingRead_56 : decode cX10_endingRead 56 = .ok (.invokevirtual 152, 3) := by decide +kernel
theorem dX10_endingRead_59 : decode cX10_endingRead 59 = .ok (.ireturn, 1) := by decide +kernel
theorem dX10_endingRead_60 : decode cX10_endingRead 60 = .ok (.aload_n 0, 1) := by decide +kernel
theorem dX10_endingRead_61 : decode cX10_endingRead 61 = .ok (.getfield 156, 3) := by decide +kernel
theorem dX10_endingRead_64 : decode cX10_endingRead 64 = .ok (.bipush 6, 2) := by decide +kernel
theorem dX10_endingRead_66 : decode cX10_endingRead 66 = .ok (.if_icmp .ne 13, 3) := by decide +kernel
theorem dX10_endingRead_69 : decode cX10_endingRead 69 = .ok (.aload_n 0, 1) := by decide +kernel
theorem dX10_endingRead_70 : decode cX10_endingRead 70 = .ok (.iconst 2, 1) := by decide +kernel
theorem dX10_endingRead_71 : decode cX10_endingRead 71 = .ok (.aload_n 0, 1) := by decide +kernel
theorem dX10_endingRead_72 : decode cX10_endingRead 72 = .ok (.getfield 135, 3) := by decide +kernel
theorem dX10_endingRead_75 : decode cX10_endingRead 75 = .ok (.invokevirtual 152, 3) := by decide +kernel
theorem dX10_endingRead_78 : decode cX10_endingRead 78 = .ok (.ireturn, 1) := by decide +kernel
theorem dX10_endingRead_79 : decode cX10_endingRead 79 = .ok (.aload_n 0, 1) := by decide +kernel
theorem dX10_endingRead_80 : decode cX10_endingRead 80 = .ok (.getfield 96, 3) := by decide +kernel
theorem dX10_endingRead_83 : decode cX10_endingRead 83 = .ok (.aload_n 0, 1) := by decide +kernel
theorem dX10_endingRead_84 : decode cX10_endingRead 84 = .ok (.getfield 156, 3) := by decide +kernel
theorem dX10_endingRead_87 : decode cX10_endingRead 87 = .ok (.iload_n 2, 1) := by decide +kernel
theorem dX10_endingRead_88 : decode cX10_endingRead 88 = .ok (.iastore, 1) := by decide +kernel
theorem dX10_endingRead_89 : decode cX10_endingRead 89 = .ok (.aload_n 0, 1) := by decide +kernel
theorem dX10_endingRead_90 : decode cX10_endingRead 90 = .ok (.dup, 1) := by decide +kernel
theorem dX10_endingRead_91 : decode cX10_endingRead 91 = .ok (.getfield 156, 3) := by decide +kernel
theorem dX10_endingRead_94 : decode cX10_endingRead 94 = .ok (.iconst 1, 1) := by decide +kernel
theorem dX10_endingRead_95 : decode cX10_endingRead 95 = .ok (.iadd, 1) := by decide +kernel
theorem dX10_endingRead_96 : decode cX10_endingRead 96 = .ok (.putfield 156, 3) := by decide +kernel
theorem dX10_endingRead_99 : decode cX10_endingRead 99 = .ok (.aload_n 0, 1) := by decide +kernel
theorem dX10_endingRead_100 : decode cX10_endingRead 100 = .ok (.dup, 1) := by decide +kernel
theorem dX10_endingRead_101 : decode cX10_endingRead 101 = .ok (.getfield 135, 3) := by decide +kernel
theorem dX10_endingRead_104 : decode cX10_endingRead 104 = .ok (.iconst 1, 1) := by decide +kernel
theorem dX10_endingRead_105 : decode cX10_endingRead 105 = .ok (.iadd, 1) := by decide +kernel
theorem dX10_endingRead_106 : decode cX10_endingRead 106 = .ok (.putfield 135, 3) := by decide +kernel
theorem dX10_endingRead_109 : decode cX10_endingRead 109 = .ok (.aload_n 0, 1) := by decide +kernel
theorem dX10_endingRead_110 : decode cX10_endingRead 110 = .ok (.invokevirtual 144, 3) := by decide +kernel
theorem dX10_endingRead_113 : decode cX10_endingRead 113 = .ok (.bipush 46, 2) := by decide +kernel
theorem dX10_endingRead_115 : decode cX10_endingRead 115 = .ok (.if_icmp .eq 7, 3) := by decide +kernel
theorem dX10_endingRead_118 : decode cX10_endingRead 118 = .ok (.iconst 1, 1) := by decide +kernel
theorem dX10_endingRead_119 : decode cX10_endingRead 119 = .ok (.goto 4, 3) := by decide +kernel
theorem dX10_endingRead_122 : decode cX10_endingRead 122 = .ok (.iconst 0, 1) := by decide +kernel
theorem dX10_endingRead_123 : decode cX10_endingRead 123 = .ok (.istore_n 1, 1) := by decide +kernel
theorem dX10_endingRead_124 : decode cX10_endingRead 124 = .ok (.goto (-95), 3) := by decide +kernel
theorem dX10_endingRead_127 : decode cX10_endingRead 127 = .ok (.aload_n 0, 1) := by decide +kernel
theorem dX10_endingRead_128 : decode cX10_endingRead 128 = .ok (.invokevirtual 144, 3) := by decide +kernel
theorem dX10_endingRead_131 : decode cX10_endingRead 131 = .ok (.bipush 46, 2) := by decide +kernel
theorem dX10_endingRead_133 : decode cX10_endingRead 133 = .ok (.if_icmp .eq 13, 3) := by decide +kernel
theorem dX10_endingRead_136 : decode cX10_endingRead 136 = .ok (.aload_n 0, 1) := by decide +kernel
theorem dX10_endingRead_137 : decode cX10_endingRead 137 = .ok (.iconst 1, 1) := by decide +kernel
theorem dX10_endingRead_138 : decode cX10_endingRead 138 = .ok (.aload_n 0, 1) := by decide +kernel
theorem dX10_endingRead_139 : decode cX10_endingRead 139 = .ok (.getfield 135, 3) := by decide +kernel
theorem dX10_endingRead_142 : decode cX10_endingRead 142 = .ok (.invokevirtual 152, 3) := by decide +kernel
theorem dX10_endingRead_145 : decode cX10_endingRead 145 = .ok (.ireturn, 1) := by decide +kernel
theorem dX10_endingRead_146 : decode cX10_endingRead 146 = .ok (.aload_n 0, 1) := by decide +kernel
theorem dX10_endingRead_147 : decode cX10_endingRead 147 = .ok (.dup, 1) := by decide +kernel
theorem dX10_endingRead_148 : decode cX10_endingRead 148 = .ok (.getfield 135, 3) := by decide +kernel
theorem dX10_endingRead_151 : decode cX10_endingRead 151 = .ok (.iconst 1, 1) := by decide +kernel
theorem dX10_endingRead_152 : decode cX10_endingRead 152 = .ok (.iadd, 1) := by decide +kernel
theorem dX10_endingRead_153 : decode cX10_endingRead 153 = .ok (.putfield 135, 3) := by decide +kernel
theorem dX10_endingRead_156 : decode cX10_endingRead 156 = .ok (.aload_n 0, 1) := by decide +kernel
theorem dX10_endingRead_157 : decode cX10_endingRead 157 = .ok (.getfield 135, 3) := by decide +kernel
theorem dX10_endingRead_160 : decode cX10_endingRead 160 = .ok (.aload_n 0, 1) := by decide +kernel
theorem dX10_endingRead_161 : decode cX10_endingRead 161 = .ok (.getfield 138, 3) := by decide +kernel
theorem dX10_endingRead_164 : decode cX10_endingRead 164 = .ok (.if_icmp .eq 15, 3) := by decide +kernel
theorem dX10_endingRead_167 : decode cX10_endingRead 167 = .ok (.aload_n 0, 1) := by decide +kernel
theorem dX10_endingRead_168 : decode cX10_endingRead 168 = .ok (.iconst 1, 1) := by decide +kernel
theorem dX10_endingRead_169 : decode cX10_endingRead 169 = .ok (.aload_n 0, 1) := by decide +kernel
theorem dX10_endingRead_170 : decode cX10_endingRead 170 = .ok (.getfield 135, 3) := by decide +kernel
theorem dX10_endingRead_173 : decode cX10_endingRead 173 = .ok (.invokevirtual 152, 3) := by decide +kernel
theorem dX10_endingRead_176 : decode cX10_endingRead 176 = .ok (.ifCond .eq 7, 3) := by decide +kernel
theorem dX10_endingRead_179 : decode cX10_endingRead 179 = .ok (.iconst 1, 1) := by decide +kernel
theorem dX10_endingRead_180 : decode cX10_endingRead 180 = .ok (.goto 4, 3) := by decide +kernel
theorem dX10_endingRead_183 : decode cX10_endingRead 183 = .ok (.iconst 0, 1) := by decide +kernel
theorem dX10_endingRead_184 : decode cX10_endingRead 184 = .ok (.ireturn, 1) := by decide +kernel
theorem dX10_shape_0 : decode cX10_shape 0 = .ok (.aload_n 0, 1) := by decide +kernel
theorem dX10_shape_1 : decode cX10_shape 1 = .ok (.iconst 0, 1) := by decide +kernel
theorem dX10_shape_2 : decode cX10_shape 2 = .ok (.putfield 126, 3) := by decide +kernel
theorem dX10_shape_5 : decode cX10_shape 5 = .ok (.iload_n 1, 1) := by decide +kernel
theorem dX10_shape_6 : decode cX10_shape 6 = .ok (.ifCond .lt 20, 3) := by decide +kernel
theorem dX10_shape_9 : decode cX10_shape 9 = .ok (.iload_n 1, 1) := by decide +kernel
theorem dX10_shape_10 : decode cX10_shape 10 = .ok (.iconst 5, 1) := by decide +kernel
theorem dX10_shape_11 : decode cX10_shape 11 = .ok (.if_icmp .gt 15, 3) := by decide +kernel
theorem dX10_shape_14 : decode cX10_shape 14 = .ok (.iload_n 2, 1) := by decide +kernel
theorem dX10_shape_15 : decode cX10_shape 15 = .ok (.ifCond .lt 11, 3) := by decide +kernel
theorem dX10_shape_18 : decode cX10_shape 18 = .ok (.iload_n 2, 1) := by decide +kernel
theorem dX10_shape_19 : decode cX10_shape 19 = .ok (.aload_n 0, 1) := by decide +kernel
theorem dX10_shape_20 : decode cX10_shape 20 = .ok (.getfield 129, 3) := by decide +kernel
theorem dX10_shape_23 : decode cX10_shape 23 = .ok (.if_icmp .le 6, 3) := by decide +kernel
theorem dX10_shape_26 : decode cX10_shape 26 = .ok (.bipush (-2), 2) := by decide +kernel
theorem dX10_shape_28 : decode cX10_shape 28 = .ok (.ireturn, 1) := by decide +kernel
theorem dX10_shape_29 : decode cX10_shape 29 = .ok (.aload_n 0, 1) := by decide +kernel
theorem dX10_shape_30 : decode cX10_shape 30 = .ok (.iconst 0, 1) := by decide +kernel
theorem dX10_shape_31 : decode cX10_shape 31 = .ok (.putfield 135, 3) := by decide +kernel
theorem dX10_shape_34 : decode cX10_shape 34 = .ok (.aload_n 0, 1) := by decide +kernel
theorem dX10_shape_35 : decode cX10_shape 35 = .ok (.iload_n 2, 1) := by decide +kernel
theorem dX10_shape_36 : decode cX10_shape 36 = .ok (.putfield 138, 3) := by decide +kernel
theorem dX10_shape_39 : decode cX10_shape 39 = .ok (.aload_n 0, 1) := by decide +kernel
theorem dX10_shape_40 : decode cX10_shape 40 = .ok (.iconst 0, 1) := by decide +kernel
theorem dX10_shape_41 : decode cX10_shape 41 = .ok (.putfield 129, 3) := by decide +kernel
theorem dX10_shape_44 : decode cX10_shape 44 = .ok (.aload_n 0, 1) := by decide +kernel
theorem dX10_shape_45 : decode cX10_shape 45 = .ok (.iconst 0, 1) := by decide +kernel
theorem dX10_shape_46 : decode cX10_shape 46 = .ok (.putfield 132, 3) := by decide +kernel
theorem dX10_shape_49 : decode cX10_shape 49 = .ok (.aload_n 0, 1) := by decide +kernel
theorem dX10_shape_50 : decode cX10_shape 50 = .ok (.iconst (-1), 1) := by decide +kernel
theorem dX10_shape_51 : decode cX10_shape 51 = .ok (.putfield 56, 3) := by decide +kernel
theorem dX10_shape_54 : decode cX10_shape 54 = .ok (.aload_n 0, 1) := by decide +kernel
theorem dX10_shape_55 : decode cX10_shape 55 = .ok (.invokevirtual 159, 3) := by decide +kernel
theorem dX10_shape_58 : decode cX10_shape 58 = .ok (.ifCond .eq 26, 3) := by decide +kernel
theorem dX10_shape_61 : decode cX10_shape 61 = .ok (.aload_n 0, 1) := by decide +kernel
theorem dX10_shape_62 : decode cX10_shape 62 = .ok (.iconst 0, 1) := by decide +kernel
theorem dX10_shape_63 : decode cX10_shape 63 = .ok (.invokevirtual 163, 3) := by decide +kernel
theorem dX10_shape_66 : decode cX10_shape 66 = .ok (.ifCond .eq 18, 3) := by decide +kernel
theorem dX10_shape_69 : decode cX10_shape 69 = .ok (.aload_n 0, 1) := by decide +kernel
theorem dX10_shape_70 : decode cX10_shape 70 = .ok (.iconst 1, 1) := by decide +kernel
theorem dX10_shape_71 : decode cX10_shape 71 = .ok (.invokevirtual 163, 3) := by decide +kernel
theorem dX10_shape_74 : decode cX10_shape 74 = .ok (.ifCond .eq 10, 3) := by decide +kernel
theorem dX10_shape_77 : decode cX10_shape 77 = .ok (.aload_n 0, 1) := by decide +kernel
theorem dX10_shape_78 : decode cX10_shape 78 = .ok (.invokevirtual 167, 3) := by decide +kernel
theorem dX10_shape_81 : decode cX10_shape 81 = .ok (.ifCond .ne 5, 3) := by decide +kernel
theorem dX10_shape_84 : decode cX10_shape 84 = .ok (.iconst (-1), 1) := by decide +kernel
theorem dX10_shape_85 : decode cX10_shape 85 = .ok (.ireturn, 1) := by decide +kernel
theorem dX10_shape_86 : decode cX10_shape 86 = .ok (.aload_n 0, 1) := by decide +kernel
theorem dX10_shape_87 : decode cX10_shape 87 = .ok (.getfield 25, 3) := by decide +kernel
theorem dX10_shape_90 : decode cX10_shape 90 = .ok (.iload_n 1, 1) := by decide +kernel
theorem dX10_shape_91 : decode cX10_shape 91 = .ok (.iconst 1, 1) := by decide +kernel
theorem dX10_shape_92 : decode cX10_shape 92 = .ok (.bastore, 1) := by decide +kernel
theorem dX10_shape_93 : decode cX10_shape 93 = .ok (.aload_n 0, 1) := by decide +kernel
theorem dX10_shape_94 : decode cX10_shape 94 = .ok (.getfield 29, 3) := by decide +kernel
theorem dX10_shape_97 : decode cX10_shape 97 = .ok (.iload_n 1, 1) := by decide +kernel
theorem dX10_shape_98 : decode cX10_shape 98 = .ok (.aload_n 0, 1) := by decide +kernel
theorem dX10_shape_99 : decode cX10_shape 99 = .ok (.getfield 141, 3) := by decide +kernel
theorem dX10_shape_102 : decode cX10_shape 102 = .ok (.iastore, 1) := by decide +kernel
theorem dX10_shape_103 : decode cX10_shape 103 = .ok (.iconst 0, 1) := by decide +kernel
theorem dX10_shape_104 : decode cX10_shape 104 = .ok (.istore_n 3, 1) := by decide +kernel
theorem dX10_shape_105 : decode cX10_shape 105 = .ok (.iload_n 3, 1) := by decide +kernel
theorem dX10_shape_106 : decode cX10_shape 106 = .ok (.aload_n 0, 1) := by decide +kernel
theorem dX10_shape_107 : decode cX10_shape 107 = .ok (.getfield 141, 3) := by decide +kernel
theorem dX10_shape_110 : decode cX10_shape 110 = .ok (.if_icmp .ge 43, 3) := by decide +kernel
theorem dX10_shape_113 : decode cX10_shape 113 = .ok (.aload_n 0, 1) := by decide +kernel
theorem dX10_shape_114 : decode cX10_shape 114 = .ok (.getfield 32, 3) := by decide +kernel
theorem dX10_shape_117 : decode cX10_shape 117 = .ok (.bipush 8, 2) := by decide +kernel
theorem dX10_shape_119 : decode cX10_shape 119 = .ok (.iload_n 1, 1) := by decide +kernel
theorem dX10_shape_120 : decode cX10_shape 120 = .ok (.imul, 1) := by decide +kernel
theorem dX10_shape_121 : decode cX10_shape 121 = .ok (.iload_n 3, 1) := by decide +kernel
theorem dX10_shape_122 : decode cX10_shape 122 = .ok (.iadd, 1) := by decide +kernel
theorem dX10_shape_123 : decode cX10_shape 123 = .ok (.aload_n 0, 1) := by decide +kernel
theorem dX10_shape_124 : decode cX10_shape 124 = .ok (.getfield 84, 3) := by decide +kernel
theorem dX10_shape_127 : decode cX10_shape 127 = .ok (.iload_n 3, 1) := by decide +kernel
theorem dX10_shape_128 : decode cX10_shape 128 = .ok (.iaload, 1) := by decide +kernel
theorem dX10_shape_129 : decode cX10_shape 129 = .ok (.iastore, 1) := by decide +kernel
theorem dX10_shape_130 : decode cX10_shape 130 = .ok (.aload_n 0, 1) := by decide +kernel
theorem dX10_shape_131 : decode cX10_shape 131 = .ok (.getfield 35, 3) := by decide +kernel
theorem dX10_shape_134 : decode cX10_shape 134 = .ok (.bipush 8, 2) := by decide +kernel
theorem dX10_shape_136 : decode cX10_shape 136 = .ok (.iload_n 1, 1) := by decide +kernel
theorem dX10_shape_137 : decode cX10_shape 137 = .ok (.imul, 1) := by decide +kernel
theorem dX10_shape_138 : decode cX10_shape 138 = .ok (.iload_n 3, 1) := by decide +kernel
theorem dX10_shape_139 : decode cX10_shape 139 = .ok (.iadd, 1) := by decide +kernel
theorem dX10_shape_140 : decode cX10_shape 140 = .ok (.aload_n 0, 1) := by decide +kernel
theorem dX10_shape_141 : decode cX10_shape 141 = .ok (.getfield 87, 3) := by decide +kernel
theorem dX10_shape_144 : decode cX10_shape 144 = .ok (.iload_n 3, 1) := by decide +kernel
theorem dX10_shape_145 : decode cX10_shape 145 = .ok (.iaload, 1) := by decide +kernel
theorem dX10_shape_146 : decode cX10_shape 146 = .ok (.iastore, 1) := by decide +kernel
theorem dX10_shape_147 : decode cX10_shape 147 = .ok (.iinc 3 1, 3) := by decide +kernel
theorem dX10_shape_150 : decode cX10_shape 150 = .ok (.goto (-45), 3) := by decide +kernel
theorem dX10_shape_153 : decode cX10_shape 153 = .ok (.aload_n 0, 1) := by decide +kernel
theorem dX10_shape_154 : decode cX10_shape 154 = .ok (.getfield 38, 3) := by decide +kernel
theorem dX10_shape_157 : decode cX10_shape 157 = .ok (.iload_n 1, 1) := by decide +kernel
theorem dX10_shape_158 : decode cX10_shape 158 = .ok (.aload_n 0, 1) := by decide +kernel
theorem dX10_shape_159 : decode cX10_shape 159 = .ok (.getfield 93, 3) := by decide +kernel
theorem dX10_shape_162 : decode cX10_shape 162 = .ok (.iconst 0, 1) := by decide +kernel
theorem dX10_shape_163 : decode cX10_shape 163 = .ok (.iaload, 1) := by decide +kernel
theorem dX10_shape_164 : decode cX10_shape 164 = .ok (.iastore, 1) := by decide +kernel
theorem dX10_shape_165 : decode cX10_shape 165 = .ok (.aload_n 0, 1) := by decide +kernel
theorem dX10_shape_166 : decode cX10_shape 166 = .ok (.getfield 44, 3) := by decide +kernel
theorem dX10_shape_169 : decode cX10_shape 169 = .ok (.iload_n 1, 1) := by decide +kernel
theorem dX10_shape_170 : decode cX10_shape 170 = .ok (.aload_n 0, 1) := by decide +kernel
theorem dX10_shape_171 : decode cX10_shape 171 = .ok (.getfield 93, 3) := by decide +kernel
theorem dX10_shape_174 : decode cX10_shape 174 = .ok (.iconst 1, 1) := by decide +kernel
theorem dX10_shape_175 : decode cX10_shape 175 = .ok (.iaload, 1) := by decide +kernel
theorem dX10_shape_176 : decode cX10_shape 176 = .ok (.iastore, 1) := by decide +kernel
theorem dX10_shape_177 : decode cX10_shape 177 = .ok (.iconst 0, 1) := by decide +kernel
theorem dX10_shape_178 : decode cX10_shape 178 = .ok (.istore_n 3, 1) := by decide +kernel
theorem dX10_shape_179 : decode cX10_shape 179 = .ok (.iload_n 3, 1) := by decide +kernel
theorem dX10_shape_180 : decode cX10_shape 180 = .ok (.bipush 7, 2) := by decide +kernel
theorem dX10_shape_182 : decode cX10_shape 182 = .ok (.if_icmp .ge 46, 3) := by decide +kernel
theorem dX10_shape_185 : decode cX10_shape 185 = .ok (.aload_n 0, 1) := by decide +kernel
theorem dX10_shape_186 : decode cX10_shape 186 = .ok (.getfield 41, 3) := by decide +kernel
theorem dX10_shape_189 : decode cX10_shape 189 = .ok (.bipush 7, 2) := by decide +kernel
theorem dX10_shape_191 : decode cX10_shape 191 = .ok (.iload_n 1, 1) := by decide +kernel
theorem dX10_shape_192 : decode cX10_shape 192 = .ok (.imul, 1) := by decide +kernel
theorem dX10_shape_193 : decode cX10_shape 193 = .ok (.iload_n 3, 1) := by decide +kernel
theorem dX10_shape_194 : decode cX10_shape 194 = .ok (.iadd, 1) := by decide +kernel
theorem dX10_shape_195 : decode cX10_shape 195 = .ok (.aload_n 0, 1) := by decide +kernel
theorem dX10_shape_196 : decode cX10_shape 196 = .ok (.getfield 90, 3) := by decide +kernel
theorem dX10_shape_199 : decode cX10_shape 199 = .ok (.iload_n 3, 1) := by decide +kernel
theorem dX10_shape_200 : decode cX10_shape 200 = .ok (.iaload, 1) := by decide +kernel
theorem dX10_shape_201 : decode cX10_shape 201 = .ok (.iastore, 1) := by decide +kernel
theorem dX10_shape_202 : decode cX10_shape 202 = .ok (.aload_n 0, 1) := by decide +kernel
theorem dX10_shape_203 : decode cX10_shape 203 = .ok (.getfield 47, 3) := by decide +kernel
theorem dX10_shape_206 : decode cX10_shape 206 = .ok (.bipush 7, 2) := by decide +kernel
theorem dX10_shape_208 : decode cX10_shape 208 = .ok (.iload_n 1, 1) := by decide +kernel
theorem dX10_shape_209 : decode cX10_shape 209 = .ok (.imul, 1) := by decide +kernel
theorem dX10_shape_210 : decode cX10_shape 210 = .ok (.iload_n 3, 1) := by decide +kernel
theorem dX10_shape_211 : decode cX10_shape 211 = .ok (.iadd, 1) := by decide +kernel
theorem dX10_shape_212 : decode cX10_shape 212 = .ok (.aload_n 0, 1) := by decide +kernel
theorem dX10_shape_213 : decode cX10_shape 213 = .ok (.getfield 90, 3) := by decide +kernel
theorem dX10_shape_216 : decode cX10_shape 216 = .ok (.bipush 7, 2) := by decide +kernel
theorem dX10_shape_218 : decode cX10_shape 218 = .ok (.iload_n 3, 1) := by decide +kernel
theorem dX10_shape_219 : decode cX10_shape 219 = .ok (.iadd, 1) := by decide +kernel
theorem dX10_shape_220 : decode cX10_shape 220 = .ok (.iaload, 1) := by decide +kernel
theorem dX10_shape_221 : decode cX10_shape 221 = .ok (.iastore, 1) := by decide +kernel
theorem dX10_shape_222 : decode cX10_shape 222 = .ok (.iinc 3 1, 3) := by decide +kernel
theorem dX10_shape_225 : decode cX10_shape 225 = .ok (.goto (-46), 3) := by decide +kernel
theorem dX10_shape_228 : decode cX10_shape 228 = .ok (.aload_n 0, 1) := by decide +kernel
theorem dX10_shape_229 : decode cX10_shape 229 = .ok (.getfield 50, 3) := by decide +kernel
theorem dX10_shape_232 : decode cX10_shape 232 = .ok (.iload_n 1, 1) := by decide +kernel
theorem dX10_shape_233 : decode cX10_shape 233 = .ok (.aload_n 0, 1) := by decide +kernel
theorem dX10_shape_234 : decode cX10_shape 234 = .ok (.getfield 156, 3) := by decide +kernel
theorem dX10_shape_237 : decode cX10_shape 237 = .ok (.iastore, 1) := by decide +kernel
theorem dX10_shape_238 : decode cX10_shape 238 = .ok (.iconst 0, 1) := by decide +kernel
theorem dX10_shape_239 : decode cX10_shape 239 = .ok (.istore_n 3, 1) := by decide +kernel
theorem dX10_shape_240 : decode cX10_shape 240 = .ok (.iload_n 3, 1) := by decide +kernel
theorem dX10_shape_241 : decode cX10_shape 241 = .ok (.bipush 6, 2) := by decide +kernel
theorem dX10_shape_243 : decode cX10_shape 243 = .ok (.if_icmp .ge 26, 3) := by decide +kernel
theorem dX10_shape_246 : decode cX10_shape 246 = .ok (.aload_n 0, 1) := by decide +kernel
theorem dX10_shape_247 : decode cX10_shape 247 = .ok (.getfield 53, 3) := by decide +kernel
theorem dX10_shape_250 : decode cX10_shape 250 = .ok (.bipush 6, 2) := by decide +kernel
theorem dX10_shape_252 : decode cX10_shape 252 = .ok (.iload_n 1, 1) := by decide +kernel
theorem dX10_shape_253 : decode cX10_shape 253 = .ok (.imul, 1) := by decide +kernel
theorem dX10_shape_254 : decode cX10_shape 254 = .ok (.iload_n 3, 1) := by decide +kernel
theorem dX10_shape_255 : decode cX10_shape 255 = .ok (.iadd, 1) := by decide +kernel
theorem dX10_shape_256 : decode cX10_shape 256 = .ok (.aload_n 0, 1) := by decide +kernel
theorem dX10_shape_257 : decode cX10_shape 257 = .ok (.getfield 96, 3) := by decide +kernel
theorem dX10_shape_260 : decode cX10_shape 260 = .ok (.iload_n 3, 1) := by decide +kernel
theorem dX10_shape_261 : decode cX10_shape 261 = .ok (.iaload, 1) := by decide +kernel
theorem dX10_shape_262 : decode cX10_shape 262 = .ok (.iastore, 1) := by decide +kernel
theorem dX10_shape_263 : decode cX10_shape 263 = .ok (.iinc 3 1, 3) := by decide +kernel
theorem dX10_shape_266 : decode cX10_shape 266 = .ok (.goto (-26), 3) := by decide +kernel
theorem dX10_shape_269 : decode cX10_shape 269 = .ok (.aload_n 0, 1) := by decide +kernel
theorem dX10_shape_270 : decode cX10_shape 270 = .ok (.getfield 141, 3) := by decide +kernel
theorem dX10_shape_273 : decode cX10_shape 273 = .ok (.ireturn, 1) := by decide +kernel
theorem dX10_fault_0 : decode cX10_fault 0 = .ok (.aload_n 0, 1) := by decide +kernel
theorem dX10_fault_1 : decode cX10_fault 1 = .ok (.iconst 0, 1) := by decide +kernel
theorem dX10_fault_2 : decode cX10_fault 2 = .ok (.putfield 126, 3) := by decide +kernel
theorem dX10_fault_5 : decode cX10_fault 5 = .ok (.iload_n 1, 1) := by decide +kernel
theorem dX10_fault_6 : decode cX10_fault 6 = .ok (.ifCond .ne 10, 3) := by decide +kernel
theorem dX10_fault_9 : decode cX10_fault 9 = .ok (.aload_n 0, 1) := by decide +kernel
theorem dX10_fault_10 : decode cX10_fault 10 = .ok (.getfield 132, 3) := by decide +kernel
theorem dX10_fault_13 : decode cX10_fault 13 = .ok (.goto 16, 3) := by decide +kernel
theorem dX10_fault_16 : decode cX10_fault 16 = .ok (.iload_n 1, 1) := by decide +kernel
theorem dX10_fault_17 : decode cX10_fault 17 = .ok (.iconst 1, 1) := by decide +kernel
theorem dX10_fault_18 : decode cX10_fault 18 = .ok (.if_icmp .ne 10, 3) := by decide +kernel
theorem dX10_fault_21 : decode cX10_fault 21 = .ok (.aload_n 0, 1) := by decide +kernel
theorem dX10_fault_22 : decode cX10_fault 22 = .ok (.getfield 56, 3) := by decide +kernel
theorem dX10_fault_25 : decode cX10_fault 25 = .ok (.goto 4, 3) := by decide +kernel
theorem dX10_fault_28 : decode cX10_fault 28 = .ok (.iconst (-1), 1) := by decide +kernel
theorem dX10_fault_29 : decode cX10_fault 29 = .ok (.ireturn, 1) := by decide +kernel
theorem dX10_isLetter_0 : decode cX10_isLetter 0 = .ok (.iload_n 0, 1) := by decide +kernel
theorem dX10_isLetter_1 : decode cX10_isLetter 1 = .ok (.bipush 65, 2) := by decide +kernel
theorem dX10_isLetter_3 : decode cX10_isLetter 3 = .ok (.if_icmp .lt 9, 3) := by decide +kernel
theorem dX10_isLetter_6 : decode cX10_isLetter 6 = .ok (.iload_n 0, 1) := by decide +kernel
theorem dX10_isLetter_7 : decode cX10_isLetter 7 = .ok (.bipush 90, 2) := by decide +kernel
theorem dX10_isLetter_9 : decode cX10_isLetter 9 = .ok (.if_icmp .le 15, 3) := by decide +kernel
theorem dX10_isLetter_12 : decode cX10_isLetter 12 = .ok (.iload_n 0, 1) := by decide +kernel
theorem dX10_isLetter_13 : decode cX10_isLetter 13 = .ok (.bipush 97, 2) := by decide +kernel
theorem dX10_isLetter_15 : decode cX10_isLetter 15 = .ok (.if_icmp .lt 13, 3) := by decide +kernel
theorem dX10_isLetter_18 : decode cX10_isLetter 18 = .ok (.iload_n 0, 1) := by decide +kernel
theorem dX10_isLetter_19 : decode cX10_isLetter 19 = .ok (.bipush 122, 2) := by decide +kernel
theorem dX10_isLetter_21 : decode cX10_isLetter 21 = .ok (.if_icmp .gt 7, 3) := by decide +kernel
theorem dX10_isLetter_24 : decode cX10_isLetter 24 = .ok (.iconst 1, 1) := by decide +kernel
theorem dX10_isLetter_25 : decode cX10_isLetter 25 = .ok (.goto 4, 3) := by decide +kernel
theorem dX10_isLetter_28 : decode cX10_isLetter 28 = .ok (.iconst 0, 1) := by decide +kernel
theorem dX10_isLetter_29 : decode cX10_isLetter 29 = .ok (.ireturn, 1) := by decide +kernel
theorem dX10_isWord_0 : decode cX10_isWord 0 = .ok (.iload_n 2, 1) := by decide +kernel
theorem dX10_isWord_1 : decode cX10_isWord 1 = .ok (.iload_n 1, 1) := by decide +kernel
theorem dX10_isWord_2 : decode cX10_isWord 2 = .ok (.isub, 1) := by decide +kernel
theorem dX10_isWord_3 : decode cX10_isWord 3 = .ok (.istore_n 3, 1) := by decide +kernel
theorem dX10_isWord_4 : decode cX10_isWord 4 = .ok (.iload_n 3, 1) := by decide +kernel
theorem dX10_isWord_5 : decode cX10_isWord 5 = .ok (.ifCond .le 20, 3) := by decide +kernel
theorem dX10_isWord_8 : decode cX10_isWord 8 = .ok (.aload_n 0, 1) := by decide +kernel
theorem dX10_isWord_9 : decode cX10_isWord 9 = .ok (.getfield 7, 3) := by decide +kernel
theorem dX10_isWord_12 : decode cX10_isWord 12 = .ok (.iload_n 2, 1) := by decide +kernel
theorem dX10_isWord_13 : decode cX10_isWord 13 = .ok (.iconst 1, 1) := by decide +kernel
theorem dX10_isWord_14 : decode cX10_isWord 14 = .ok (.isub, 1) := by decide +kernel
theorem dX10_isWord_15 : decode cX10_isWord 15 = .ok (.iaload, 1) := by decide +kernel
theorem dX10_isWord_16 : decode cX10_isWord 16 = .ok (.bipush 46, 2) := by decide +kernel
theorem dX10_isWord_18 : decode cX10_isWord 18 = .ok (.if_icmp .ne 7, 3) := by decide +kernel
theorem dX10_isWord_21 : decode cX10_isWord 21 = .ok (.iconst 1, 1) := by decide +kernel
theorem dX10_isWord_22 : decode cX10_isWord 22 = .ok (.goto 4, 3) := by decide +kernel
theorem dX10_isWord_25 : decode cX10_isWord 25 = .ok (.iconst 0, 1) := by decide +kernel
theorem dX10_isWord_26 : decode cX10_isWord 26 = .ok (.istore 4, 2) := by decide +kernel
theorem dX10_isWord_28 : decode cX10_isWord 28 = .ok (.iload 4, 2) := by decide +kernel
theorem dX10_isWord_30 : decode cX10_isWord 30 = .ok (.ifCond .eq 9, 3) := by decide +kernel
theorem dX10_isWord_33 : decode cX10_isWord 33 = .ok (.iload_n 3, 1) := by decide +kernel
theorem dX10_isWord_34 : decode cX10_isWord 34 = .ok (.iconst 1, 1) := by decide +kernel
theorem dX10_isWord_35 : decode cX10_isWord 35 = .ok (.isub, 1) := by decide +kernel
theorem dX10_isWord_36 : decode cX10_isWord 36 = .ok (.goto 4, 3) := by decide +kernel
theorem dX10_isWord_39 : decode cX10_isWord 39 = .ok (.iload_n 3, 1) := by decide +kernel
theorem dX10_isWord_40 : decode cX10_isWord 40 = .ok (.istore 5, 2) := by decide +kernel
theorem dX10_isWord_42 : decode cX10_isWord 42 = .ok (.iload 5, 2) := by decide +kernel
theorem dX10_isWord_44 : decode cX10_isWord 44 = .ok (.iconst 1, 1) := by decide +kernel
theorem dX10_isWord_45 : decode cX10_isWord 45 = .ok (.if_icmp .lt 22, 3) := by decide +kernel
theorem dX10_isWord_48 : decode cX10_isWord 48 = .ok (.iload 5, 2) := by decide +kernel
theorem dX10_isWord_50 : decode cX10_isWord 50 = .ok (.bipush 20, 2) := by decide +kernel
theorem dX10_isWord_52 : decode cX10_isWord 52 = .ok (.if_icmp .gt 15, 3) := by decide +kernel
theorem dX10_isWord_55 : decode cX10_isWord 55 = .ok (.aload_n 0, 1) := by decide +kernel
theorem dX10_isWord_56 : decode cX10_isWord 56 = .ok (.getfield 7, 3) := by decide +kernel
theorem dX10_isWord_59 : decode cX10_isWord 59 = .ok (.iload_n 1, 1) := by decide +kernel
theorem dX10_isWord_60 : decode cX10_isWord 60 = .ok (.iaload, 1) := by decide +kernel
theorem dX10_isWord_61 : decode cX10_isWord 61 = .ok (.invokestatic 170, 3) := by decide +kernel
theorem dX10_isWord_64 : decode cX10_isWord 64 = .ok (.ifCond .ne 5, 3) := by decide +kernel
theorem dX10_isWord_67 : decode cX10_isWord 67 = .ok (.iconst 0, 1) := by decide +kernel
theorem dX10_isWord_68 : decode cX10_isWord 68 = .ok (.ireturn, 1) := by decide +kernel
theorem dX10_isWord_69 : decode cX10_isWord 69 = .ok (.aload_n 0, 1) := by decide +kernel
theorem dX10_isWord_70 : decode cX10_isWord 70 = .ok (.iconst 0, 1) := by decide +kernel
theorem dX10_isWord_71 : decode cX10_isWord 71 = .ok (.putfield 173, 3) := by decide +kernel
theorem dX10_isWord_74 : decode cX10_isWord 74 = .ok (.iload_n 1, 1) := by decide +kernel
theorem dX10_isWord_75 : decode cX10_isWord 75 = .ok (.istore 6, 2) := by decide +kernel
theorem dX10_isWord_77 : decode cX10_isWord 77 = .ok (.iload 6, 2) := by decide +kernel
theorem dX10_isWord_79 : decode cX10_isWord 79 = .ok (.iload_n 1, 1) := by decide +kernel
theorem dX10_isWord_80 : decode cX10_isWord 80 = .ok (.iload 5, 2) := by decide +kernel
theorem dX10_isWord_82 : decode cX10_isWord 82 = .ok (.iadd, 1) := by decide +kernel
theorem dX10_isWord_83 : decode cX10_isWord 83 = .ok (.if_icmp .ge 86, 3) := by decide +kernel
theorem dX10_isWord_86 : decode cX10_isWord 86 = .ok (.aload_n 0, 1) := by decide +kernel
theorem dX10_isWord_87 : decode cX10_isWord 87 = .ok (.getfield 7, 3) := by decide +kernel
theorem dX10_isWord_90 : decode cX10_isWord 90 = .ok (.iload 6, 2) := by decide +kernel
theorem dX10_isWord_92 : decode cX10_isWord 92 = .ok (.iaload, 1) := by decide +kernel
theorem dX10_isWord_93 : decode cX10_isWord 93 = .ok (.istore 7, 2) := by decide +kernel
theorem dX10_isWord_95 : decode cX10_isWord 95 = .ok (.iload 7, 2) := by decide +kernel
theorem dX10_isWord_97 : decode cX10_isWord 97 = .ok (.invokestatic 170, 3) := by decide +kernel
theorem dX10_isWord_100 : decode cX10_isWord 100 = .ok (.ifCond .ne 19, 3) := by decide +kernel
theorem dX10_isWord_103 : decode cX10_isWord 103 = .ok (.iload 7, 2) := by decide +kernel
theorem dX10_isWord_105 : decode cX10_isWord 105 = .ok (.bipush 39, 2) := by decide +kernel
theorem dX10_isWord_107 : decode cX10_isWord 107 = .ok (.if_icmp .eq 12, 3) := by decide +kernel
theorem dX10_isWord_110 : decode cX10_isWord 110 = .ok (.iload 7, 2) := by decide +kernel
theorem dX10_isWord_112 : decode cX10_isWord 112 = .ok (.bipush 45, 2) := by decide +kernel
theorem dX10_isWord_114 : decode cX10_isWord 114 = .ok (.if_icmp .eq 5, 3) := by decide +kernel
theorem dX10_isWord_117 : decode cX10_isWord 117 = .ok (.iconst 0, 1) := by decide +kernel
theorem dX10_isWord_118 : decode cX10_isWord 118 = .ok (.ireturn, 1) := by decide +kernel
theorem dX10_isWord_119 : decode cX10_isWord 119 = .ok (.iload 7, 2) := by decide +kernel
theorem dX10_isWord_121 : decode cX10_isWord 121 = .ok (.invokestatic 170, 3) := by decide +kernel
theorem dX10_isWord_124 : decode cX10_isWord 124 = .ok (.ifCond .eq 39, 3) := by decide +kernel
theorem dX10_isWord_127 : decode cX10_isWord 127 = .ok (.aload_n 0, 1) := by decide +kernel
theorem dX10_isWord_128 : decode cX10_isWord 128 = .ok (.getfield 99, 3) := by decide +kernel
theorem dX10_isWord_131 : decode cX10_isWord 131 = .ok (.aload_n 0, 1) := by decide +kernel
theorem dX10_isWord_132 : decode cX10_isWord 132 = .ok (.getfield 173, 3) := by decide +kernel
theorem dX10_isWord_135 : decode cX10_isWord 135 = .ok (.iload 7, 2) := by decide +kernel
theorem dX10_isWord_137 : decode cX10_isWord 137 = .ok (.bipush 97, 2) := by decide +kernel
theorem dX10_isWord_139 : decode cX10_isWord 139 = .ok (.if_icmp .ge 11, 3) := by decide +kernel
theorem dX10_isWord_142 : decode cX10_isWord 142 = .ok (.iload 7, 2) := by decide +kernel
theorem dX10_isWord_144 : decode cX10_isWord 144 = .ok (.bipush 32, 2) := by decide +kernel
theorem dX10_isWord_146 : decode cX10_isWord 146 = .ok (.iadd, 1) := by decide +kernel
theorem dX10_isWord_147 : decode cX10_isWord 147 = .ok (.goto 5, 3) := by decide +kernel
theorem dX10_isWord_150 : decode cX10_isWord 150 = .ok (.iload 7, 2) := by decide +kernel
theorem dX10_isWord_152 : decode cX10_isWord 152 = .ok (.iastore, 1) := by decide +kernel
theorem dX10_isWord_153 : decode cX10_isWord 153 = .ok (.aload_n 0, 1) := by decide +kernel
theorem dX10_isWord_154 : decode cX10_isWord 154 = .ok (.dup, 1) := by decide +kernel
theorem dX10_isWord_155 : decode cX10_isWord 155 = .ok (.getfield 173, 3) := by decide +kernel
theorem dX10_isWord_158 : decode cX10_isWord 158 = .ok (.iconst 1, 1) := by decide +kernel
theorem dX10_isWord_159 : decode cX10_isWord 159 = .ok (.iadd, 1) := by decide +kernel
theorem dX10_isWord_160 : decode cX10_isWord 160 = .ok (.putfield 173, 3) := by decide +kernel
theorem dX10_isWord_163 : decode cX10_isWord 163 = .ok (.iinc 6 1, 3) := by decide +kernel
theorem dX10_isWord_166 : decode cX10_isWord 166 = .ok (.goto (-89), 3) := by decide +kernel
theorem dX10_isWord_169 : decode cX10_isWord 169 = .ok (.iconst 1, 1) := by decide +kernel
theorem dX10_isWord_170 : decode cX10_isWord 170 = .ok (.ireturn, 1) := by decide +kernel
theorem dX10_entry_0 : decode cX10_entry 0 = .ok (.iconst 0, 1) := by decide +kernel
theorem dX10_entry_1 : decode cX10_entry 1 = .ok (.istore 6, 2) := by decide +kernel
theorem dX10_entry_3 : decode cX10_entry 3 = .ok (.iload 6, 2) := by decide +kernel
theorem dX10_entry_5 : decode cX10_entry 5 = .ok (.aload_n 0, 1) := by decide +kernel
theorem dX10_entry_6 : decode cX10_entry 6 = .ok (.getfield 176, 3) := by decide +kernel
theorem dX10_entry_9 : decode cX10_entry 9 = .ok (.if_icmp .ge 109, 3) := by decide +kernel
theorem dX10_entry_12 : decode cX10_entry 12 = .ok (.aload_n 0, 1) := by decide +kernel
theorem dX10_entry_13 : decode cX10_entry 13 = .ok (.getfield 13, 3) := by decide +kernel
theorem dX10_entry_16 : decode cX10_entry 16 = .ok (.iload 6, 2) := by decide +kernel
theorem dX10_entry_18 : decode cX10_entry 18 = .ok (.iaload, 1) := by decide +kernel
theorem dX10_entry_19 : decode cX10_entry 19 = .ok (.iload_n 1, 1) := by decide +kernel
theorem dX10_entry_20 : decode cX10_entry 20 = .ok (.if_icmp .ne 30, 3) := by decide +kernel
theorem dX10_entry_23 : decode cX10_entry 23 = .ok (.aload_n 0, 1) := by decide +kernel
theorem dX10_entry_24 : decode cX10_entry 24 = .ok (.getfield 16, 3) := by decide +kernel
theorem dX10_entry_27 : decode cX10_entry 27 = .ok (.iload 6, 2) := by decide +kernel
theorem dX10_entry_29 : decode cX10_entry 29 = .ok (.iaload, 1) := by decide +kernel
theorem dX10_entry_30 : decode cX10_entry 30 = .ok (.iload_n 2, 1) := by decide +kernel
theorem dX10_entry_31 : decode cX10_entry 31 = .ok (.if_icmp .ne 19, 3) := by decide +kernel
theorem dX10_entry_34 : decode cX10_entry 34 = .ok (.aload_n 0, 1) := by decide +kernel
theorem dX10_entry_35 : decode cX10_entry 35 = .ok (.getfield 19, 3) := by decide +kernel
theorem dX10_entry_38 : decode cX10_entry 38 = .ok (.iload 6, 2) := by decide +kernel
theorem dX10_entry_40 : decode cX10_entry 40 = .ok (.iaload, 1) := by decide +kernel
theorem dX10_entry_41 : decode cX10_entry 41 = .ok (.iload 5, 2) := by decide +kernel
theorem dX10_entry_43 : decode cX10_entry 43 = .ok (.if_icmp .ne 7, 3) := by decide +kernel
theorem dX10_entry_46 : decode cX10_entry 46 = .ok (.iconst 1, 1) := by decide +kernel
theorem dX10_entry_47 : decode cX10_entry 47 = .ok (.goto 4, 3) := by decide +kernel
theorem dX10_entry_50 : decode cX10_entry 50 = .ok (.iconst 0, 1) := by decide +kernel
theorem dX10_entry_51 : decode cX10_entry 51 = .ok (.istore 7, 2) := by decide +kernel
theorem dX10_entry_53 : decode cX10_entry 53 = .ok (.iconst 0, 1) := by decide +kernel
theorem dX10_entry_54 : decode cX10_entry 54 = .ok (.istore 8, 2) := by decide +kernel
theorem dX10_entry_56 : decode cX10_entry 56 = .ok (.iload 8, 2) := by decide +kernel
theorem dX10_entry_58 : decode cX10_entry 58 = .ok (.iload 5, 2) := by decide +kernel
theorem dX10_entry_60 : decode cX10_entry 60 = .ok (.if_icmp .ge 44, 3) := by decide +kernel
theorem dX10_entry_63 : decode cX10_entry 63 = .ok (.iload 7, 2) := by decide +kernel
theorem dX10_entry_65 : decode cX10_entry 65 = .ok (.ifCond .eq 39, 3) := by decide +kernel
theorem dX10_entry_68 : decode cX10_entry 68 = .ok (.aload_n 0, 1) := by decide +kernel
theorem dX10_entry_69 : decode cX10_entry 69 = .ok (.getfield 22, 3) := by decide +kernel
theorem dX10_entry_72 : decode cX10_entry 72 = .ok (.bipush 21, 2) := by decide +kernel
theorem dX10_entry_74 : decode cX10_entry 74 = .ok (.iload 6, 2) := by decide +kernel
theorem dX10_entry_76 : decode cX10_entry 76 = .ok (.imul, 1) := by decide +kernel
theorem dX10_entry_77 : decode cX10_entry 77 = .ok (.iload 8, 2) := by decide +kernel
theorem dX10_entry_79 : decode cX10_entry 79 = .ok (.iadd, 1) := by decide +kernel
theorem dX10_entry_80 : decode cX10_entry 80 = .ok (.iaload, 1) := by decide +kernel
theorem dX10_entry_81 : decode cX10_entry 81 = .ok (.aload_n 3, 1) := by decide +kernel
theorem dX10_entry_82 : decode cX10_entry 82 = .ok (.iload 4, 2) := by decide +kernel
theorem dX10_entry_84 : decode cX10_entry 84 = .ok (.iload 8, 2) := by decide +kernel
theorem dX10_entry_86 : decode cX10_entry 86 = .ok (.iadd, 1) := by decide +kernel
theorem dX10_entry_87 : decode cX10_entry 87 = .ok (.iaload, 1) := by decide +kernel
theorem dX10_entry_88 : decode cX10_entry 88 = .ok (.if_icmp .ne 7, 3) := by decide +kernel
theorem dX10_entry_91 : decode cX10_entry 91 = .ok (.iconst 1, 1) := by decide +kernel
theorem dX10_entry_92 : decode cX10_entry 92 = .ok (.goto 4, 3) := by decide +kernel
theorem dX10_entry_95 : decode cX10_entry 95 = .ok (.iconst 0, 1) := by decide +kernel
theorem dX10_entry_96 : decode cX10_entry 96 = .ok (.istore 7, 2) := by decide +kernel
theorem dX10_entry_98 : decode cX10_entry 98 = .ok (.iinc 8 1, 3) := by decide +kernel
theorem dX10_entry_101 : decode cX10_entry 101 = .ok (.goto (-45), 3) := by decide +kernel
theorem dX10_entry_104 : decode cX10_entry 104 = .ok (.iload 7, 2) := by decide +kernel
theorem dX10_entry_106 : decode cX10_entry 106 = .ok (.ifCond .eq 6, 3) := by decide +kernel
theorem dX10_entry_109 : decode cX10_entry 109 = .ok (.iload 6, 2) := by decide +kernel
theorem dX10_entry_111 : decode cX10_entry 111 = .ok (.ireturn, 1) := by decide +kernel
theorem dX10_entry_112 : decode cX10_entry 112 = .ok (.iinc 6 1, 3) := by decide +kernel
theorem dX10_entry_115 : decode cX10_entry 115 = .ok (.goto (-112), 3) := by decide +kernel
theorem dX10_entry_118 : decode cX10_entry 118 = .ok (.iconst (-1), 1) := by decide +kernel
theorem dX10_entry_119 : decode cX10_entry 119 = .ok (.ireturn, 1) := by decide +kernel
theorem dX10_isKept_0 : decode cX10_isKept 0 = .ok (.iload_n 0, 1) := by decide +kernel
theorem dX10_isKept_1 : decode cX10_isKept 1 = .ok (.ifCond .lt 12, 3) := by decide +kernel
theorem dX10_isKept_4 : decode cX10_isKept 4 = .ok (.iload_n 0, 1) := by decide +kernel
theorem dX10_isKept_5 : decode cX10_isKept 5 = .ok (.iconst 4, 1) := by decide +kernel
theorem dX10_isKept_6 : decode cX10_isKept 6 = .ok (.if_icmp .gt 7, 3) := by decide +kernel
theorem dX10_isKept_9 : decode cX10_isKept 9 = .ok (.iconst 1, 1) := by decide +kernel
theorem dX10_isKept_10 : decode cX10_isKept 10 = .ok (.goto 4, 3) := by decide +kernel
theorem dX10_isKept_13 : decode cX10_isKept 13 = .ok (.iconst 0, 1) := by decide +kernel
theorem dX10_isKept_14 : decode cX10_isKept 14 = .ok (.ireturn, 1) := by decide +kernel
theorem dX10_know_0 : decode cX10_know 0 = .ok (.aload_n 0, 1) := by decide +kernel
theorem dX10_know_1 : decode cX10_know 1 = .ok (.iconst 0, 1) := by decide +kernel
theorem dX10_know_2 : decode cX10_know 2 = .ok (.putfield 126, 3) := by decide +kernel
theorem dX10_know_5 : decode cX10_know 5 = .ok (.iload_n 1, 1) := by decide +kernel
theorem dX10_know_6 : decode cX10_know 6 = .ok (.ifCond .lt 63, 3) := by decide +kernel
theorem dX10_know_9 : decode cX10_know 9 = .ok (.iload_n 1, 1) := by decide +kernel
theorem dX10_know_10 : decode cX10_know 10 = .ok (.iconst 5, 1) := by decide +kernel
theorem dX10_know_11 : decode cX10_know 11 = .ok (.if_icmp .gt 58, 3) := by decide +kernel
theorem dX10_know_14 : decode cX10_know 14 = .ok (.iload_n 2, 1) := by decide +kernel
theorem dX10_know_15 : decode cX10_know 15 = .ok (.invokestatic 179, 3) := by decide +kernel
theorem dX10_know_18 : decode cX10_know 18 = .ok (.ifCond .eq 51, 3) := by decide +kernel
theorem dX10_know_21 : decode cX10_know 21 = .ok (.iload_n 3, 1) := by decide +kernel
theorem dX10_know_22 : decode cX10_know 22 = .ok (.ifCond .lt 47, 3) := by decide +kernel
theorem dX10_know_25 : decode cX10_know 25 = .ok (.iload_n 3, 1) := by decide +kernel
theorem dX10_know_26 : decode cX10_know 26 = .ok (.aload_n 0, 1) := by decide +kernel
theorem dX10_know_27 : decode cX10_know 27 = .ok (.getfield 129, 3) := by decide +kernel
theorem dX10_know_30 : decode cX10_know 30 = .ok (.if_icmp .gt 39, 3) := by decide +kernel
theorem dX10_know_33 : decode cX10_know 33 = .ok (.aload_n 0, 1) := by decide +kernel
theorem dX10_know_34 : decode cX10_know 34 = .ok (.getfield 176, 3) := by decide +kernel
theorem dX10_know_37 : decode cX10_know 37 = .ok (.bipush 80, 2) := by decide +kernel
theorem dX10_know_39 : decode cX10_know 39 = .ok (.if_icmp .eq 30, 3) := by decide +kernel
theorem dX10_know_42 : decode cX10_know 42 = .ok (.aload_n 0, 1) := by decide +kernel
theorem dX10_know_43 : decode cX10_know 43 = .ok (.iconst 0, 1) := by decide +kernel
theorem dX10_know_44 : decode cX10_know 44 = .ok (.iload_n 3, 1) := by decide +kernel
theorem dX10_know_45 : decode cX10_know 45 = .ok (.invokevirtual 182, 3) := by decide +kernel
theorem dX10_know_48 : decode cX10_know 48 = .ok (.ifCond .eq 21, 3) := by decide +kernel
theorem dX10_know_51 : decode cX10_know 51 = .ok (.aload_n 0, 1) := by decide +kernel
theorem dX10_know_52 : decode cX10_know 52 = .ok (.iload_n 1, 1) := by decide +kernel
theorem dX10_know_53 : decode cX10_know 53 = .ok (.iload_n 2, 1) := by decide +kernel
theorem dX10_know_54 : decode cX10_know 54 = .ok (.aload_n 0, 1) := by decide +kernel
theorem dX10_know_55 : decode cX10_know 55 = .ok (.getfield 99, 3) := by decide +kernel
theorem dX10_know_58 : decode cX10_know 58 = .ok (.iconst 0, 1) := by decide +kernel
theorem dX10_know_59 : decode cX10_know 59 = .ok (.aload_n 0, 1) := by decide +kernel
theorem dX10_know_60 : decode cX10_know 60 = .ok (.getfield 173, 3) := by decide +kernel
theorem dX10_know_63 : decode cX10_know 63 = .ok (.invokevirtual 185, 3) := by decide +kernel
theorem dX10_know_66 : decode cX10_know 66 = .ok (.ifCond .lt 5, 3) := by decide +kernel
theorem dX10_know_69 : decode cX10_know 69 = .ok (.iconst (-1), 1) := by decide +kernel
theorem dX10_know_70 : decode cX10_know 70 = .ok (.ireturn, 1) := by decide +kernel
theorem dX10_know_71 : decode cX10_know 71 = .ok (.aload_n 0, 1) := by decide +kernel
theorem dX10_know_72 : decode cX10_know 72 = .ok (.iconst 0, 1) := by decide +kernel
theorem dX10_know_73 : decode cX10_know 73 = .ok (.putfield 129, 3) := by decide +kernel
theorem dX10_know_76 : decode cX10_know 76 = .ok (.aload_n 0, 1) := by decide +kernel
theorem dX10_know_77 : decode cX10_know 77 = .ok (.getfield 13, 3) := by decide +kernel
theorem dX10_know_80 : decode cX10_know 80 = .ok (.aload_n 0, 1) := by decide +kernel
theorem dX10_know_81 : decode cX10_know 81 = .ok (.getfield 176, 3) := by decide +kernel
theorem dX10_know_84 : decode cX10_know 84 = .ok (.iload_n 1, 1) := by decide +kernel
theorem dX10_know_85 : decode cX10_know 85 = .ok (.iastore, 1) := by decide +kernel
theorem dX10_know_86 : decode cX10_know 86 = .ok (.aload_n 0, 1) := by decide +kernel
theorem dX10_know_87 : decode cX10_know 87 = .ok (.getfield 16, 3) := by decide +kernel
theorem dX10_know_90 : decode cX10_know 90 = .ok (.aload_n 0, 1) := by decide +kernel
theorem dX10_know_91 : decode cX10_know 91 = .ok (.getfield 176, 3) := by decide +kernel
theorem dX10_know_94 : decode cX10_know 94 = .ok (.iload_n 2, 1) := by decide +kernel
theorem dX10_know_95 : decode cX10_know 95 = .ok (.iastore, 1) := by decide +kernel
theorem dX10_know_96 : decode cX10_know 96 = .ok (.aload_n 0, 1) := by decide +kernel
theorem dX10_know_97 : decode cX10_know 97 = .ok (.getfield 19, 3) := by decide +kernel
theorem dX10_know_100 : decode cX10_know 100 = .ok (.aload_n 0, 1) := by decide +kernel
theorem dX10_know_101 : decode cX10_know 101 = .ok (.getfield 176, 3) := by decide +kernel
theorem dX10_know_104 : decode cX10_know 104 = .ok (.aload_n 0, 1) := by decide +kernel
theorem dX10_know_105 : decode cX10_know 105 = .ok (.getfield 173, 3) := by decide +kernel
theorem dX10_know_108 : decode cX10_know 108 = .ok (.iastore, 1) := by decide +kernel
theorem dX10_know_109 : decode cX10_know 109 = .ok (.iconst 0, 1) := by decide +kernel
theorem dX10_know_110 : decode cX10_know 110 = .ok (.istore 4, 2) := by decide +kernel
theorem dX10_know_112 : decode cX10_know 112 = .ok (.iload 4, 2) := by decide +kernel
theorem dX10_know_114 : decode cX10_know 114 = .ok (.aload_n 0, 1) := by decide +kernel
theorem dX10_know_115 : decode cX10_know 115 = .ok (.getfield 173, 3) := by decide +kernel
theorem dX10_know_118 : decode cX10_know 118 = .ok (.if_icmp .ge 31, 3) := by decide +kernel
theorem dX10_know_121 : decode cX10_know 121 = .ok (.aload_n 0, 1) := by decide +kernel
theorem dX10_know_122 : decode cX10_know 122 = .ok (.getfield 22, 3) := by decide +kernel
theorem dX10_know_125 : decode cX10_know 125 = .ok (.bipush 21, 2) := by decide +kernel
theorem dX10_know_127 : decode cX10_know 127 = .ok (.aload_n 0, 1) := by decide +kernel
theorem dX10_know_128 : decode cX10_know 128 = .ok (.getfield 176, 3) := by decide +kernel
theorem dX10_know_131 : decode cX10_know 131 = .ok (.imul, 1) := by decide +kernel
theorem dX10_know_132 : decode cX10_know 132 = .ok (.iload 4, 2) := by decide +kernel
theorem dX10_know_134 : decode cX10_know 134 = .ok (.iadd, 1) := by decide +kernel
theorem dX10_know_135 : decode cX10_know 135 = .ok (.aload_n 0, 1) := by decide +kernel
theorem dX10_know_136 : decode cX10_know 136 = .ok (.getfield 99, 3) := by decide +kernel
theorem dX10_know_139 : decode cX10_know 139 = .ok (.iload 4, 2) := by decide +kernel
theorem dX10_know_141 : decode cX10_know 141 = .ok (.iaload, 1) := by decide +kernel
theorem dX10_know_142 : decode cX10_know 142 = .ok (.iastore, 1) := by decide +kernel
theorem dX10_know_143 : decode cX10_know 143 = .ok (.iinc 4 1, 3) := by decide +kernel
theorem dX10_know_146 : decode cX10_know 146 = .ok (.goto (-34), 3) := by decide +kernel
theorem dX10_know_149 : decode cX10_know 149 = .ok (.aload_n 0, 1) := by decide +kernel
theorem dX10_know_150 : decode cX10_know 150 = .ok (.dup, 1) := by decide +kernel
theorem dX10_know_151 : decode cX10_know 151 = .ok (.getfield 176, 3) := by decide +kernel
theorem dX10_know_154 : decode cX10_know 154 = .ok (.iconst 1, 1) := by decide +kernel
theorem dX10_know_155 : decode cX10_know 155 = .ok (.iadd, 1) := by decide +kernel
theorem dX10_know_156 : decode cX10_know 156 = .ok (.putfield 176, 3) := by decide +kernel
theorem dX10_know_159 : decode cX10_know 159 = .ok (.aload_n 0, 1) := by decide +kernel
theorem dX10_know_160 : decode cX10_know 160 = .ok (.getfield 176, 3) := by decide +kernel
theorem dX10_know_163 : decode cX10_know 163 = .ok (.ireturn, 1) := by decide +kernel
theorem dX10_forget_0 : decode cX10_forget 0 = .ok (.aload_n 0, 1) := by decide +kernel
theorem dX10_forget_1 : decode cX10_forget 1 = .ok (.iconst 0, 1) := by decide +kernel
theorem dX10_forget_2 : decode cX10_forget 2 = .ok (.putfield 126, 3) := by decide +kernel
theorem dX10_forget_5 : decode cX10_forget 5 = .ok (.iload_n 1, 1) := by decide +kernel
theorem dX10_forget_6 : decode cX10_forget 6 = .ok (.ifCond .lt 36, 3) := by decide +kernel
theorem dX10_forget_9 : decode cX10_forget 9 = .ok (.iload_n 1, 1) := by decide +kernel
theorem dX10_forget_10 : decode cX10_forget 10 = .ok (.iconst 5, 1) := by decide +kernel
theorem dX10_forget_11 : decode cX10_forget 11 = .ok (.if_icmp .gt 31, 3) := by decide +kernel
theorem dX10_forget_14 : decode cX10_forget 14 = .ok (.iload_n 2, 1) := by decide +kernel
theorem dX10_forget_15 : decode cX10_forget 15 = .ok (.invokestatic 179, 3) := by decide +kernel
theorem dX10_forget_18 : decode cX10_forget 18 = .ok (.ifCond .eq 24, 3) := by decide +kernel
theorem dX10_forget_21 : decode cX10_forget 21 = .ok (.iload_n 3, 1) := by decide +kernel
theorem dX10_forget_22 : decode cX10_forget 22 = .ok (.ifCond .lt 20, 3) := by decide +kernel
theorem dX10_forget_25 : decode cX10_forget 25 = .ok (.iload_n 3, 1) := by decide +kernel
theorem dX10_forget_26 : decode cX10_forget 26 = .ok (.aload_n 0, 1) := by decide +kernel
theorem dX10_forget_27 : decode cX10_forget 27 = .ok (.getfield 129, 3) := by decide +kernel
theorem dX10_forget_30 : decode cX10_forget 30 = .ok (.if_icmp .gt 12, 3) := by decide +kernel
theorem dX10_forget_33 : decode cX10_forget 33 = .ok (.aload_n 0, 1) := by decide +kernel
theorem dX10_forget_34 : decode cX10_forget 34 = .ok (.iconst 0, 1) := by decide +kernel
theorem dX10_forget_35 : decode cX10_forget 35 = .ok (.iload_n 3, 1) := by decide +kernel
theorem dX10_forget_36 : decode cX10_forget 36 = .ok (.invokevirtual 182, 3) := by decide +kernel
theorem dX10_forget_39 : decode cX10_forget 39 = .ok (.ifCond .ne 5, 3) := by decide +kernel
theorem dX10_forget_42 : decode cX10_forget 42 = .ok (.iconst 0, 1) := by decide +kernel
theorem dX10_forget_43 : decode cX10_forget 43 = .ok (.ireturn, 1) := by decide +kernel
theorem dX10_forget_44 : decode cX10_forget 44 = .ok (.aload_n 0, 1) := by decide +kernel
theorem dX10_forget_45 : decode cX10_forget 45 = .ok (.iload_n 1, 1) := by decide +kernel
theorem dX10_forget_46 : decode cX10_forget 46 = .ok (.iload_n 2, 1) := by decide +kernel
theorem dX10_forget_47 : decode cX10_forget 47 = .ok (.aload_n 0, 1) := by decide +kernel
theorem dX10_forget_48 : decode cX10_forget 48 = .ok (.getfield 99, 3) := by decide +kernel
theorem dX10_forget_51 : decode cX10_forget 51 = .ok (.iconst 0, 1) := by decide +kernel
theorem dX10_forget_52 : decode cX10_forget 52 = .ok (.aload_n 0, 1) := by decide +kernel
theorem dX10_forget_53 : decode cX10_forget 53 = .ok (.getfield 173, 3) := by decide +kernel
theorem dX10_forget_56 : decode cX10_forget 56 = .ok (.invokevirtual 185, 3) := by decide +kernel
theorem dX10_forget_59 : decode cX10_forget 59 = .ok (.istore 4, 2) := by decide +kernel
theorem dX10_forget_61 : decode cX10_forget 61 = .ok (.iload 4, 2) := by decide +kernel
theorem dX10_forget_63 : decode cX10_forget 63 = .ok (.ifCond .ge 5, 3) := by decide +kernel
theorem dX10_forget_66 : decode cX10_forget 66 = .ok (.iconst 0, 1) := by decide +kernel
theorem dX10_forget_67 : decode cX10_forget 67 = .ok (.ireturn, 1) := by decide +kernel
theorem dX10_forget_68 : decode cX10_forget 68 = .ok (.aload_n 0, 1) := by decide +kernel
theorem dX10_forget_69 : decode cX10_forget 69 = .ok (.iconst 0, 1) := by decide +kernel
theorem dX10_forget_70 : decode cX10_forget 70 = .ok (.putfield 129, 3) := by decide +kernel
theorem dX10_forget_73 : decode cX10_forget 73 = .ok (.aload_n 0, 1) := by decide +kernel
theorem dX10_forget_74 : decode cX10_forget 74 = .ok (.dup, 1) := by decide +kernel
theorem dX10_forget_75 : decode cX10_forget 75 = .ok (.getfield 176, 3) := by decide +kernel
theorem dX10_forget_78 : decode cX10_forget 78 = .ok (.iconst 1, 1) := by decide +kernel
theorem dX10_forget_79 : decode cX10_forget 79 = .ok (.isub, 1) := by decide +kernel
theorem dX10_forget_80 : decode cX10_forget 80 = .ok (.putfield 176, 3) := by decide +kernel
theorem dX10_forget_83 : decode cX10_forget 83 = .ok (.iload 4, 2) := by decide +kernel
theorem dX10_forget_85 : decode cX10_forget 85 = .ok (.istore 5, 2) := by decide +kernel
theorem dX10_forget_87 : decode cX10_forget 87 = .ok (.iload 5, 2) := by decide +kernel
theorem dX10_forget_89 : decode cX10_forget 89 = .ok (.aload_n 0, 1) := by decide +kernel
theorem dX10_forget_90 : decode cX10_forget 90 = .ok (.getfield 176, 3) := by decide +kernel
theorem dX10_forget_93 : decode cX10_forget 93 = .ok (.if_icmp .ge 102, 3) := by decide +kernel
theorem dX10_forget_96 : decode cX10_forget 96 = .ok (.aload_n 0, 1) := by decide +kernel
theorem dX10_forget_97 : decode cX10_forget 97 = .ok (.getfield 13, 3) := by decide +kernel
theorem dX10_forget_100 : decode cX10_forget 100 = .ok (.iload 5, 2) := by decide +kernel
theorem dX10_forget_102 : decode cX10_forget 102 = .ok (.aload_n 0, 1) := by decide +kernel
theorem dX10_forget_103 : decode cX10_forget 103 = .ok (.getfield 13, 3) := by decide +kernel
theorem dX10_forget_106 : decode cX10_forget 106 = .ok (.iload 5, 2) := by decide +kernel
theorem dX10_forget_108 : decode cX10_forget 108 = .ok (.iconst 1, 1) := by decide +kernel
theorem dX10_forget_109 : decode cX10_forget 109 = .ok (.iadd, 1) := by decide +kernel
theorem dX10_forget_110 : decode cX10_forget 110 = .ok (.iaload, 1) := by decide +kernel
theorem dX10_forget_111 : decode cX10_forget 111 = .ok (.iastore, 1) := by decide +kernel
theorem dX10_forget_112 : decode cX10_forget 112 = .ok (.aload_n 0, 1) := by decide +kernel
theorem dX10_forget_113 : decode cX10_forget 113 = .ok (.getfield 16, 3) := by decide +kernel
theorem dX10_forget_116 : decode cX10_forget 116 = .ok (.iload 5, 2) := by decide +kernel
theorem dX10_forget_118 : decode cX10_forget 118 = .ok (.aload_n 0, 1) := by decide +kernel
theorem dX10_forget_119 : decode cX10_forget 119 = .ok (.getfield 16, 3) := by decide +kernel
theorem dX10_forget_122 : decode cX10_forget 122 = .ok (.iload 5, 2) := by decide +kernel
theorem dX10_forget_124 : decode cX10_forget 124 = .ok (.iconst 1, 1) := by decide +kernel
theorem dX10_forget_125 : decode cX10_forget 125 = .ok (.iadd, 1) := by decide +kernel
theorem dX10_forget_126 : decode cX10_forget 126 = .ok (.iaload, 1) := by decide +kernel
theorem dX10_forget_127 : decode cX10_forget 127 = .ok (.iastore, 1) := by decide +kernel
theorem dX10_forget_128 : decode cX10_forget 128 = .ok (.aload_n 0, 1) := by decide +kernel
theorem dX10_forget_129 : decode cX10_forget 129 = .ok (.getfield 19, 3) := by decide +kernel
theorem dX10_forget_132 : decode cX10_forget 132 = .ok (.iload 5, 2) := by decide +kernel
theorem dX10_forget_134 : decode cX10_forget 134 = .ok (.aload_n 0, 1) := by decide +kernel
theorem dX10_forget_135 : decode cX10_forget 135 = .ok (.getfield 19, 3) := by decide +kernel
theorem dX10_forget_138 : decode cX10_forget 138 = .ok (.iload 5, 2) := by decide +kernel
theorem dX10_forget_140 : decode cX10_forget 140 = .ok (.iconst 1, 1) := by decide +kernel
theorem dX10_forget_141 : decode cX10_forget 141 = .ok (.iadd, 1) := by decide +kernel
theorem dX10_forget_142 : decode cX10_forget 142 = .ok (.iaload, 1) := by decide +kernel
theorem dX10_forget_143 : decode cX10_forget 143 = .ok (.iastore, 1) := by decide +kernel
theorem dX10_forget_144 : decode cX10_forget 144 = .ok (.iconst 0, 1) := by decide +kernel
theorem dX10_forget_145 : decode cX10_forget 145 = .ok (.istore 6, 2) := by decide +kernel
theorem dX10_forget_147 : decode cX10_forget 147 = .ok (.iload 6, 2) := by decide +kernel
theorem dX10_forget_149 : decode cX10_forget 149 = .ok (.bipush 21, 2) := by decide +kernel
theorem dX10_forget_151 : decode cX10_forget 151 = .ok (.if_icmp .ge 38, 3) := by decide +kernel
theorem dX10_forget_154 : decode cX10_forget 154 = .ok (.aload_n 0, 1) := by decide +kernel
theorem dX10_forget_155 : decode cX10_forget 155 = .ok (.getfield 22, 3) := by decide +kernel
theorem dX10_forget_158 : decode cX10_forget 158 = .ok (.bipush 21, 2) := by decide +kernel
theorem dX10_forget_160 : decode cX10_forget 160 = .ok (.iload 5, 2) := by decide +kernel
theorem dX10_forget_162 : decode cX10_forget 162 = .ok (.imul, 1) := by decide +kernel
theorem dX10_forget_163 : decode cX10_forget 163 = .ok (.iload 6, 2) := by decide +kernel
theorem dX10_forget_165 : decode cX10_forget 165 = .ok (.iadd, 1) := by decide +kernel
theorem dX10_forget_166 : decode cX10_forget 166 = .ok (.aload_n 0, 1) := by decide +kernel
theorem dX10_forget_167 : decode cX10_forget 167 = .ok (.getfield 22, 3) := by decide +kernel
theorem dX10_forget_170 : decode cX10_forget 170 = .ok (.bipush 21, 2) := by decide +kernel
theorem dX10_forget_172 : decode cX10_forget 172 = .ok (.iload 5, 2) := by decide +kernel
theorem dX10_forget_174 : decode cX10_forget 174 = .ok (.imul, 1) := by decide +kernel
theorem dX10_forget_175 : decode cX10_forget 175 = .ok (.bipush 21, 2) := by decide +kernel
theorem dX10_forget_177 : decode cX10_forget 177 = .ok (.iadd, 1) := by decide +kernel
theorem dX10_forget_178 : decode cX10_forget 178 = .ok (.iload 6, 2) := by decide +kernel
theorem dX10_forget_180 : decode cX10_forget 180 = .ok (.iadd, 1) := by decide +kernel
theorem dX10_forget_181 : decode cX10_forget 181 = .ok (.iaload, 1) := by decide +kernel
theorem dX10_forget_182 : decode cX10_forget 182 = .ok (.iastore, 1) := by decide +kernel
theorem dX10_forget_183 : decode cX10_forget 183 = .ok (.iinc 6 1, 3) := by decide +kernel
theorem dX10_forget_186 : decode cX10_forget 186 = .ok (.goto (-39), 3) := by decide +kernel
theorem dX10_forget_189 : decode cX10_forget 189 = .ok (.iinc 5 1, 3) := by decide +kernel
theorem dX10_forget_192 : decode cX10_forget 192 = .ok (.goto (-105), 3) := by decide +kernel
theorem dX10_forget_195 : decode cX10_forget 195 = .ok (.iconst 1, 1) := by decide +kernel
theorem dX10_forget_196 : decode cX10_forget 196 = .ok (.ireturn, 1) := by decide +kernel
theorem dX10_name_0 : decode cX10_name 0 = .ok (.aload_n 0, 1) := by decide +kernel
theorem dX10_name_1 : decode cX10_name 1 = .ok (.iconst 0, 1) := by decide +kernel
theorem dX10_name_2 : decode cX10_name 2 = .ok (.putfield 126, 3) := by decide +kernel
theorem dX10_name_5 : decode cX10_name 5 = .ok (.iload_n 1, 1) := by decide +kernel
theorem dX10_name_6 : decode cX10_name 6 = .ok (.ifCond .lt 30, 3) := by decide +kernel
theorem dX10_name_9 : decode cX10_name 9 = .ok (.iload_n 1, 1) := by decide +kernel
theorem dX10_name_10 : decode cX10_name 10 = .ok (.iconst 5, 1) := by decide +kernel
theorem dX10_name_11 : decode cX10_name 11 = .ok (.if_icmp .gt 25, 3) := by decide +kernel
theorem dX10_name_14 : decode cX10_name 14 = .ok (.iload_n 2, 1) := by decide +kernel
theorem dX10_name_15 : decode cX10_name 15 = .ok (.iconst 1, 1) := by decide +kernel
theorem dX10_name_16 : decode cX10_name 16 = .ok (.if_icmp .lt 20, 3) := by decide +kernel
theorem dX10_name_19 : decode cX10_name 19 = .ok (.iload_n 2, 1) := by decide +kernel
theorem dX10_name_20 : decode cX10_name 20 = .ok (.aload_n 0, 1) := by decide +kernel
theorem dX10_name_21 : decode cX10_name 21 = .ok (.getfield 129, 3) := by decide +kernel
theorem dX10_name_24 : decode cX10_name 24 = .ok (.if_icmp .gt 12, 3) := by decide +kernel
theorem dX10_name_27 : decode cX10_name 27 = .ok (.aload_n 0, 1) := by decide +kernel
theorem dX10_name_28 : decode cX10_name 28 = .ok (.getfield 189, 3) := by decide +kernel
theorem dX10_name_31 : decode cX10_name 31 = .ok (.bipush 30, 2) := by decide +kernel
theorem dX10_name_33 : decode cX10_name 33 = .ok (.if_icmp .ne 5, 3) := by decide +kernel
theorem dX10_name_36 : decode cX10_name 36 = .ok (.iconst (-1), 1) := by decide +kernel
theorem dX10_name_37 : decode cX10_name 37 = .ok (.ireturn, 1) := by decide +kernel
theorem dX10_name_38 : decode cX10_name 38 = .ok (.iconst 0, 1) := by decide +kernel
theorem dX10_name_39 : decode cX10_name 39 = .ok (.istore_n 3, 1) := by decide +kernel
theorem dX10_name_40 : decode cX10_name 40 = .ok (.iconst 0, 1) := by decide +kernel
theorem dX10_name_41 : decode cX10_name 41 = .ok (.istore 4, 2) := by decide +kernel
theorem dX10_name_43 : decode cX10_name 43 = .ok (.iconst 0, 1) := by decide +kernel
theorem dX10_name_44 : decode cX10_name 44 = .ok (.istore 5, 2) := by decide +kernel
theorem dX10_name_46 : decode cX10_name 46 = .ok (.iload 5, 2) := by decide +kernel
theorem dX10_name_48 : decode cX10_name 48 = .ok (.iload_n 2, 1) := by decide +kernel
theorem dX10_name_49 : decode cX10_name 49 = .ok (.if_icmp .gt 172, 3) := by decide +kernel
theorem dX10_name_52 : decode cX10_name 52 = .ok (.iload 5, 2) := by decide +kernel
theorem dX10_name_54 : decode cX10_name 54 = .ok (.iload_n 2, 1) := by decide +kernel
theorem dX10_name_55 : decode cX10_name 55 = .ok (.if_icmp .ge 18, 3) := by decide +kernel
theorem dX10_name_58 : decode cX10_name 58 = .ok (.aload_n 0, 1) := by decide +kernel
theorem dX10_name_59 : decode cX10_name 59 = .ok (.getfield 7, 3) := by decide +kernel
theorem dX10_name_62 : decode cX10_name 62 = .ok (.iload 5, 2) := by decide +kernel
theorem dX10_name_64 : decode cX10_name 64 = .ok (.iaload, 1) := by decide +kernel
theorem dX10_name_65 : decode cX10_name 65 = .ok (.bipush 32, 2) := by decide +kernel
theorem dX10_name_67 : decode cX10_name 67 = .ok (.if_icmp .eq 6, 3) := by decide +kernel
theorem dX10_name_70 : decode cX10_name 70 = .ok (.goto 145, 3) := by decide +kernel
theorem dX10_name_73 : decode cX10_name 73 = .ok (.iload_n 3, 1) := by decide +kernel
theorem dX10_name_74 : decode cX10_name 74 = .ok (.bipush 8, 2) := by decide +kernel
theorem dX10_name_76 : decode cX10_name 76 = .ok (.if_icmp .eq 14, 3) := by decide +kernel
theorem dX10_name_79 : decode cX10_name 79 = .ok (.aload_n 0, 1) := by decide +kernel
theorem dX10_name_80 : decode cX10_name 80 = .ok (.iload 4, 2) := by decide +kernel
theorem dX10_name_82 : decode cX10_name 82 = .ok (.iload 5, 2) := by decide +kernel
theorem dX10_name_84 : decode cX10_name 84 = .ok (.invokevirtual 182, 3) := by decide +kernel
theorem dX10_name_87 : decode cX10_name 87 = .ok (.ifCond .ne 5, 3) := by decide +kernel
theorem dX10_name_90 : decode cX10_name 90 = .ok (.iconst (-1), 1) := by decide +kernel
theorem dX10_name_91 : decode cX10_name 91 = .ok (.ireturn, 1) := by decide +kernel
theorem dX10_name_92 : decode cX10_name 92 = .ok (.bipush 8, 2) := by decide +kernel
theorem dX10_name_94 : decode cX10_name 94 = .ok (.aload_n 0, 1) := by decide +kernel
theorem dX10_name_95 : decode cX10_name 95 = .ok (.getfield 189, 3) := by decide +kernel
theorem dX10_name_98 : decode cX10_name 98 = .ok (.imul, 1) := by decide +kernel
theorem dX10_name_99 : decode cX10_name 99 = .ok (.iload_n 3, 1) := by decide +kernel
theorem dX10_name_100 : decode cX10_name 100 = .ok (.iadd, 1) := by decide +kernel
theorem dX10_name_101 : decode cX10_name 101 = .ok (.istore 6, 2) := by decide +kernel
theorem dX10_name_103 : decode cX10_name 103 = .ok (.aload_n 0, 1) := by decide +kernel
theorem dX10_name_104 : decode cX10_name 104 = .ok (.getfield 69, 3) := by decide +kernel
theorem dX10_name_107 : decode cX10_name 107 = .ok (.iload 6, 2) := by decide +kernel
theorem dX10_name_109 : decode cX10_name 109 = .ok (.iload 5, 2) := by decide +kernel
theorem dX10_name_111 : decode cX10_name 111 = .ok (.iload 4, 2) := by decide +kernel
theorem dX10_name_113 : decode cX10_name 113 = .ok (.isub, 1) := by decide +kernel
theorem dX10_name_114 : decode cX10_name 114 = .ok (.iastore, 1) := by decide +kernel
theorem dX10_name_115 : decode cX10_name 115 = .ok (.iconst 0, 1) := by decide +kernel
theorem dX10_name_116 : decode cX10_name 116 = .ok (.istore 7, 2) := by decide +kernel
theorem dX10_name_118 : decode cX10_name 118 = .ok (.iload 7, 2) := by decide +kernel
theorem dX10_name_120 : decode cX10_name 120 = .ok (.iload 5, 2) := by decide +kernel
theorem dX10_name_122 : decode cX10_name 122 = .ok (.iload 4, 2) := by decide +kernel
theorem dX10_name_124 : decode cX10_name 124 = .ok (.isub, 1) := by decide +kernel
theorem dX10_name_125 : decode cX10_name 125 = .ok (.if_icmp .ge 32, 3) := by decide +kernel
theorem dX10_name_128 : decode cX10_name 128 = .ok (.aload_n 0, 1) := by decide +kernel
theorem dX10_name_129 : decode cX10_name 129 = .ok (.getfield 66, 3) := by decide +kernel
theorem dX10_name_132 : decode cX10_name 132 = .ok (.bipush 21, 2) := by decide +kernel
theorem dX10_name_134 : decode cX10_name 134 = .ok (.iload 6, 2) := by decide +kernel
theorem dX10_name_136 : decode cX10_name 136 = .ok (.imul, 1) := by decide +kernel
theorem dX10_name_137 : decode cX10_name 137 = .ok (.iload 7, 2) := by decide +kernel
theorem dX10_name_139 : decode cX10_name 139 = .ok (.iadd, 1) := by decide +kernel
theorem dX10_name_140 : decode cX10_name 140 = .ok (.aload_n 0, 1) := by decide +kernel
theorem dX10_name_141 : decode cX10_name 141 = .ok (.getfield 7, 3) := by decide +kernel
theorem dX10_name_144 : decode cX10_name 144 = .ok (.iload 4, 2) := by decide +kernel
theorem dX10_name_146 : decode cX10_name 146 = .ok (.iload 7, 2) := by decide +kernel
theorem dX10_name_148 : decode cX10_name 148 = .ok (.iadd, 1) := by decide +kernel
theorem dX10_name_149 : decode cX10_name 149 = .ok (.iaload, 1) := by decide +kernel
theorem dX10_name_150 : decode cX10_name 150 = .ok (.iastore, 1) := by decide +kernel
theorem dX10_name_151 : decode cX10_name 151 = .ok (.iinc 7 1, 3) := by decide +kernel
theorem dX10_name_154 : decode cX10_name 154 = .ok (.goto (-36), 3) := by decide +kernel
theorem dX10_name_157 : decode cX10_name 157 = .ok (.aload_n 0, 1) := by decide +kernel
theorem dX10_name_158 : decode cX10_name 158 = .ok (.getfield 75, 3) := by decide +kernel
theorem dX10_name_161 : decode cX10_name 161 = .ok (.iload 6, 2) := by decide +kernel
theorem dX10_name_163 : decode cX10_name 163 = .ok (.aload_n 0, 1) := by decide +kernel
theorem dX10_name_164 : decode cX10_name 164 = .ok (.getfield 173, 3) := by decide +kernel
theorem dX10_name_167 : decode cX10_name 167 = .ok (.iastore, 1) := by decide +kernel
theorem dX10_name_168 : decode cX10_name 168 = .ok (.iconst 0, 1) := by decide +kernel
theorem dX10_name_169 : decode cX10_name 169 = .ok (.istore 7, 2) := by decide +kernel
theorem dX10_name_171 : decode cX10_name 171 = .ok (.iload 7, 2) := by decide +kernel
theorem dX10_name_173 : decode cX10_name 173 = .ok (.aload_n 0, 1) := by decide +kernel
theorem dX10_name_174 : decode cX10_name 174 = .ok (.getfield 173, 3) := by decide +kernel
theorem dX10_name_177 : decode cX10_name 177 = .ok (.if_icmp .ge 29, 3) := by decide +kernel
theorem dX10_name_180 : decode cX10_name 180 = .ok (.aload_n 0, 1) := by decide +kernel
theorem dX10_name_181 : decode cX10_name 181 = .ok (.getfield 72, 3) := by decide +kernel
theorem dX10_name_184 : decode cX10_name 184 = .ok (.bipush 21, 2) := by decide +kernel
theorem dX10_name_186 : decode cX10_name 186 = .ok (.iload 6, 2) := by decide +kernel
theorem dX10_name_188 : decode cX10_name 188 = .ok (.imul, 1) := by decide +kernel
theorem dX10_name_189 : decode cX10_name 189 = .ok (.iload 7, 2) := by decide +kernel
theorem dX10_name_191 : decode cX10_name 191 = .ok (.iadd, 1) := by decide +kernel
theorem dX10_name_192 : decode cX10_name 192 = .ok (.aload_n 0, 1) := by decide +kernel
theorem dX10_name_193 : decode cX10_name 193 = .ok (.getfield 99, 3) := by decide +kernel
theorem dX10_name_196 : decode cX10_name 196 = .ok (.iload 7, 2) := by decide +kernel
theorem dX10_name_198 : decode cX10_name 198 = .ok (.iaload, 1) := by decide +kernel
theorem dX10_name_199 : decode cX10_name 199 = .ok (.iastore, 1) := by decide +kernel
theorem dX10_name_200 : decode cX10_name 200 = .ok (.iinc 7 1, 3) := by decide +kernel
theorem dX10_name_203 : decode cX10_name 203 = .ok (.goto (-32), 3) := by decide +kernel
theorem dX10_name_206 : decode cX10_name 206 = .ok (.iinc 3 1, 3) := by decide +kernel
theorem dX10_name_209 : decode cX10_name 209 = .ok (.iload 5, 2) := by decide +kernel
theorem dX10_name_211 : decode cX10_name 211 = .ok (.iconst 1, 1) := by decide +kernel
theorem dX10_name_212 : decode cX10_name 212 = .ok (.iadd, 1) := by decide +kernel
theorem dX10_name_213 : decode cX10_name 213 = .ok (.istore 4, 2) := by decide +kernel
theorem dX10_name_215 : decode cX10_name 215 = .ok (.iinc 5 1, 3) := by decide +kernel
theorem dX10_name_218 : decode cX10_name 218 = .ok (.goto (-172), 3) := by decide +kernel
theorem dX10_name_221 : decode cX10_name 221 = .ok (.aload_n 0, 1) := by decide +kernel
theorem dX10_name_222 : decode cX10_name 222 = .ok (.iconst 0, 1) := by decide +kernel
theorem dX10_name_223 : decode cX10_name 223 = .ok (.putfield 129, 3) := by decide +kernel
theorem dX10_name_226 : decode cX10_name 226 = .ok (.aload_n 0, 1) := by decide +kernel
theorem dX10_name_227 : decode cX10_name 227 = .ok (.getfield 60, 3) := by decide +kernel
theorem dX10_name_230 : decode cX10_name 230 = .ok (.aload_n 0, 1) := by decide +kernel
theorem dX10_name_231 : decode cX10_name 231 = .ok (.getfield 189, 3) := by decide +kernel
theorem dX10_name_234 : decode cX10_name 234 = .ok (.iload_n 1, 1) := by decide +kernel
theorem dX10_name_235 : decode cX10_name 235 = .ok (.iastore, 1) := by decide +kernel
theorem dX10_name_236 : decode cX10_name 236 = .ok (.aload_n 0, 1) := by decide +kernel
theorem dX10_name_237 : decode cX10_name 237 = .ok (.getfield 63, 3) := by decide +kernel
theorem dX10_name_240 : decode cX10_name 240 = .ok (.aload_n 0, 1) := by decide +kernel
theorem dX10_name_241 : decode cX10_name 241 = .ok (.getfield 189, 3) := by decide +kernel
theorem dX10_name_244 : decode cX10_name 244 = .ok (.iload_n 3, 1) := by decide +kernel
theorem dX10_name_245 : decode cX10_name 245 = .ok (.iastore, 1) := by decide +kernel
theorem dX10_name_246 : decode cX10_name 246 = .ok (.aload_n 0, 1) := by decide +kernel
theorem dX10_name_247 : decode cX10_name 247 = .ok (.dup, 1) := by decide +kernel
theorem dX10_name_248 : decode cX10_name 248 = .ok (.getfield 189, 3) := by decide +kernel
theorem dX10_name_251 : decode cX10_name 251 = .ok (.iconst 1, 1) := by decide +kernel
theorem dX10_name_252 : decode cX10_name 252 = .ok (.iadd, 1) := by decide +kernel
theorem dX10_name_253 : decode cX10_name 253 = .ok (.putfield 189, 3) := by decide +kernel
theorem dX10_name_256 : decode cX10_name 256 = .ok (.aload_n 0, 1) := by decide +kernel
theorem dX10_name_257 : decode cX10_name 257 = .ok (.getfield 189, 3) := by decide +kernel
theorem dX10_name_260 : decode cX10_name 260 = .ok (.iconst 1, 1) := by decide +kernel
theorem dX10_name_261 : decode cX10_name 261 = .ok (.isub, 1) := by decide +kernel
theorem dX10_name_262 : decode cX10_name 262 = .ok (.ireturn, 1) := by decide +kernel
theorem dX10_costOf_0 : decode cX10_costOf 0 = .ok (.iload_n 3, 1) := by decide +kernel
theorem dX10_costOf_1 : decode cX10_costOf 1 = .ok (.invokestatic 179, 3) := by decide +kernel
theorem dX10_costOf_4 : decode cX10_costOf 4 = .ok (.ifCond .eq 30, 3) := by decide +kernel
theorem dX10_costOf_7 : decode cX10_costOf 7 = .ok (.aload_n 0, 1) := by decide +kernel
theorem dX10_costOf_8 : decode cX10_costOf 8 = .ok (.iload_n 1, 1) := by decide +kernel
theorem dX10_costOf_9 : decode cX10_costOf 9 = .ok (.iload_n 3, 1) := by decide +kernel
theorem dX10_costOf_10 : decode cX10_costOf 10 = .ok (.aload_n 0, 1) := by decide +kernel
theorem dX10_costOf_11 : decode cX10_costOf 11 = .ok (.getfield 72, 3) := by decide +kernel
theorem dX10_costOf_14 : decode cX10_costOf 14 = .ok (.bipush 21, 2) := by decide +kernel
theorem dX10_costOf_16 : decode cX10_costOf 16 = .ok (.iload_n 2, 1) := by decide +kernel
theorem dX10_costOf_17 : decode cX10_costOf 17 = .ok (.imul, 1) := by decide +kernel
theorem dX10_costOf_18 : decode cX10_costOf 18 = .ok (.aload_n 0, 1) := by decide +kernel
theorem dX10_costOf_19 : decode cX10_costOf 19 = .ok (.getfield 75, 3) := by decide +kernel
theorem dX10_costOf_22 : decode cX10_costOf 22 = .ok (.iload_n 2, 1) := by decide +kernel
theorem dX10_costOf_23 : decode cX10_costOf 23 = .ok (.iaload, 1) := by decide +kernel
theorem dX10_costOf_24 : decode cX10_costOf 24 = .ok (.invokevirtual 185, 3) := by decide +kernel
theorem dX10_costOf_27 : decode cX10_costOf 27 = .ok (.ifCond .lt 7, 3) := by decide +kernel
theorem dX10_costOf_30 : decode cX10_costOf 30 = .ok (.iconst 1, 1) := by decide +kernel
theorem dX10_costOf_31 : decode cX10_costOf 31 = .ok (.goto 4, 3) := by decide +kernel
theorem dX10_costOf_34 : decode cX10_costOf 34 = .ok (.iconst 0, 1) := by decide +kernel
theorem dX10_costOf_35 : decode cX10_costOf 35 = .ok (.istore 4, 2) := by decide +kernel
theorem dX10_costOf_37 : decode cX10_costOf 37 = .ok (.iload_n 3, 1) := by decide +kernel
theorem dX10_costOf_38 : decode cX10_costOf 38 = .ok (.ifCond .eq 13, 3) := by decide +kernel
theorem dX10_costOf_41 : decode cX10_costOf 41 = .ok (.iload_n 3, 1) := by decide +kernel
theorem dX10_costOf_42 : decode cX10_costOf 42 = .ok (.iconst 2, 1) := by decide +kernel
theorem dX10_costOf_43 : decode cX10_costOf 43 = .ok (.if_icmp .eq 8, 3) := by decide +kernel
theorem dX10_costOf_46 : decode cX10_costOf 46 = .ok (.iload_n 3, 1) := by decide +kernel
theorem dX10_costOf_47 : decode cX10_costOf 47 = .ok (.iconst 3, 1) := by decide +kernel
theorem dX10_costOf_48 : decode cX10_costOf 48 = .ok (.if_icmp .ne 14, 3) := by decide +kernel
theorem dX10_costOf_51 : decode cX10_costOf 51 = .ok (.iload 4, 2) := by decide +kernel
theorem dX10_costOf_53 : decode cX10_costOf 53 = .ok (.ifCond .eq 7, 3) := by decide +kernel
theorem dX10_costOf_56 : decode cX10_costOf 56 = .ok (.iconst 0, 1) := by decide +kernel
theorem dX10_costOf_57 : decode cX10_costOf 57 = .ok (.goto 4, 3) := by decide +kernel
theorem dX10_costOf_60 : decode cX10_costOf 60 = .ok (.iconst (-1), 1) := by decide +kernel
theorem dX10_costOf_61 : decode cX10_costOf 61 = .ok (.ireturn, 1) := by decide +kernel
theorem dX10_costOf_62 : decode cX10_costOf 62 = .ok (.iload_n 3, 1) := by decide +kernel
theorem dX10_costOf_63 : decode cX10_costOf 63 = .ok (.bipush 6, 2) := by decide +kernel
theorem dX10_costOf_65 : decode cX10_costOf 65 = .ok (.if_icmp .ne 19, 3) := by decide +kernel
theorem dX10_costOf_68 : decode cX10_costOf 68 = .ok (.aload_n 0, 1) := by decide +kernel
theorem dX10_costOf_69 : decode cX10_costOf 69 = .ok (.getfield 75, 3) := by decide +kernel
theorem dX10_costOf_72 : decode cX10_costOf 72 = .ok (.iload_n 2, 1) := by decide +kernel
theorem dX10_costOf_73 : decode cX10_costOf 73 = .ok (.iaload, 1) := by decide +kernel
theorem dX10_costOf_74 : decode cX10_costOf 74 = .ok (.iconst 1, 1) := by decide +kernel
theorem dX10_costOf_75 : decode cX10_costOf 75 = .ok (.if_icmp .ne 7, 3) := by decide +kernel
theorem dX10_costOf_78 : decode cX10_costOf 78 = .ok (.iconst 0, 1) := by decide +kernel
theorem dX10_costOf_79 : decode cX10_costOf 79 = .ok (.goto 4, 3) := by decide +kernel
theorem dX10_costOf_82 : decode cX10_costOf 82 = .ok (.iconst (-1), 1) := by decide +kernel
theorem dX10_costOf_83 : decode cX10_costOf 83 = .ok (.ireturn, 1) := by decide +kernel
theorem dX10_costOf_84 : decode cX10_costOf 84 = .ok (.iload_n 3, 1) := by decide +kernel
theorem dX10_costOf_85 : decode cX10_costOf 85 = .ok (.iconst 5, 1) := by decide +kernel
theorem dX10_costOf_86 : decode cX10_costOf 86 = .ok (.if_icmp .ne 112, 3) := by decide +kernel
theorem dX10_costOf_89 : decode cX10_costOf 89 = .ok (.aload_n 0, 1) := by decide +kernel
theorem dX10_costOf_90 : decode cX10_costOf 90 = .ok (.getfield 75, 3) := by decide +kernel
theorem dX10_costOf_93 : decode cX10_costOf 93 = .ok (.iload_n 2, 1) := by decide +kernel
theorem dX10_costOf_94 : decode cX10_costOf 94 = .ok (.iaload, 1) := by decide +kernel
theorem dX10_costOf_95 : decode cX10_costOf 95 = .ok (.aload_n 0, 1) := by decide +kernel
theorem dX10_costOf_96 : decode cX10_costOf 96 = .ok (.getfield 50, 3) := by decide +kernel
theorem dX10_costOf_99 : decode cX10_costOf 99 = .ok (.iload_n 1, 1) := by decide +kernel
theorem dX10_costOf_100 : decode cX10_costOf 100 = .ok (.iaload, 1) := by decide +kernel
theorem dX10_costOf_101 : decode cX10_costOf 101 = .ok (.isub, 1) := by decide +kernel
theorem dX10_costOf_102 : decode cX10_costOf 102 = .ok (.istore 5, 2) := by decide +kernel
theorem dX10_costOf_104 : decode cX10_costOf 104 = .ok (.aload_n 0, 1) := by decide +kernel
theorem dX10_costOf_105 : decode cX10_costOf 105 = .ok (.getfield 50, 3) := by decide +kernel
theorem dX10_costOf_108 : decode cX10_costOf 108 = .ok (.iload_n 1, 1) := by decide +kernel
theorem dX10_costOf_109 : decode cX10_costOf 109 = .ok (.iaload, 1) := by decide +kernel
theorem dX10_costOf_110 : decode cX10_costOf 110 = .ok (.ifCond .eq 9, 3) := by decide +kernel
theorem dX10_costOf_113 : decode cX10_costOf 113 = .ok (.iload 5, 2) := by decide +kernel
theorem dX10_costOf_115 : decode cX10_costOf 115 = .ok (.iconst 1, 1) := by decide +kernel
theorem dX10_costOf_116 : decode cX10_costOf 116 = .ok (.if_icmp .ge 5, 3) := by decide +kernel
theorem dX10_costOf_119 : decode cX10_costOf 119 = .ok (.iconst (-1), 1) := by decide +kernel
theorem dX10_costOf_120 : decode cX10_costOf 120 = .ok (.ireturn, 1) := by decide +kernel
theorem dX10_costOf_121 : decode cX10_costOf 121 = .ok (.iconst 0, 1) := by decide +kernel
theorem dX10_costOf_122 : decode cX10_costOf 122 = .ok (.istore 6, 2) := by decide +kernel
theorem dX10_costOf_124 : decode cX10_costOf 124 = .ok (.iload 6, 2) := by decide +kernel
theorem dX10_costOf_126 : decode cX10_costOf 126 = .ok (.aload_n 0, 1) := by decide +kernel
theorem dX10_costOf_127 : decode cX10_costOf 127 = .ok (.getfield 50, 3) := by decide +kernel
theorem dX10_costOf_130 : decode cX10_costOf 130 = .ok (.iload_n 1, 1) := by decide +kernel
theorem dX10_costOf_131 : decode cX10_costOf 131 = .ok (.iaload, 1) := by decide +kernel
theorem dX10_costOf_132 : decode cX10_costOf 132 = .ok (.if_icmp .ge 41, 3) := by decide +kernel
theorem dX10_costOf_135 : decode cX10_costOf 135 = .ok (.aload_n 0, 1) := by decide +kernel
theorem dX10_costOf_136 : decode cX10_costOf 136 = .ok (.getfield 72, 3) := by decide +kernel
theorem dX10_costOf_139 : decode cX10_costOf 139 = .ok (.bipush 21, 2) := by decide +kernel
theorem dX10_costOf_141 : decode cX10_costOf 141 = .ok (.iload_n 2, 1) := by decide +kernel
theorem dX10_costOf_142 : decode cX10_costOf 142 = .ok (.imul, 1) := by decide +kernel
theorem dX10_costOf_143 : decode cX10_costOf 143 = .ok (.iload 5, 2) := by decide +kernel
theorem dX10_costOf_145 : decode cX10_costOf 145 = .ok (.iadd, 1) := by decide +kernel
theorem dX10_costOf_146 : decode cX10_costOf 146 = .ok (.iload 6, 2) := by decide +kernel
theorem dX10_costOf_148 : decode cX10_costOf 148 = .ok (.iadd, 1) := by decide +kernel
theorem dX10_costOf_149 : decode cX10_costOf 149 = .ok (.iaload, 1) := by decide +kernel
theorem dX10_costOf_150 : decode cX10_costOf 150 = .ok (.aload_n 0, 1) := by decide +kernel
theorem dX10_costOf_151 : decode cX10_costOf 151 = .ok (.getfield 53, 3) := by decide +kernel
theorem dX10_costOf_154 : decode cX10_costOf 154 = .ok (.bipush 6, 2) := by decide +kernel
theorem dX10_costOf_156 : decode cX10_costOf 156 = .ok (.iload_n 1, 1) := by decide +kernel
theorem dX10_costOf_157 : decode cX10_costOf 157 = .ok (.imul, 1) := by decide +kernel
theorem dX10_costOf_158 : decode cX10_costOf 158 = .ok (.iload 6, 2) := by decide +kernel
theorem dX10_costOf_160 : decode cX10_costOf 160 = .ok (.iadd, 1) := by decide +kernel
theorem dX10_costOf_161 : decode cX10_costOf 161 = .ok (.iaload, 1) := by decide +kernel
theorem dX10_costOf_162 : decode cX10_costOf 162 = .ok (.if_icmp .eq 5, 3) := by decide +kernel
theorem dX10_costOf_165 : decode cX10_costOf 165 = .ok (.iconst (-1), 1) := by decide +kernel
theorem dX10_costOf_166 : decode cX10_costOf 166 = .ok (.ireturn, 1) := by decide +kernel
theorem dX10_costOf_167 : decode cX10_costOf 167 = .ok (.iinc 6 1, 3) := by decide +kernel
theorem dX10_costOf_170 : decode cX10_costOf 170 = .ok (.goto (-46), 3) := by decide +kernel
theorem dX10_costOf_173 : decode cX10_costOf 173 = .ok (.aload_n 0, 1) := by decide +kernel
theorem dX10_costOf_174 : decode cX10_costOf 174 = .ok (.iload_n 1, 1) := by decide +kernel
theorem dX10_costOf_175 : decode cX10_costOf 175 = .ok (.iconst 1, 1) := by decide +kernel
theorem dX10_costOf_176 : decode cX10_costOf 176 = .ok (.aload_n 0, 1) := by decide +kernel
theorem dX10_costOf_177 : decode cX10_costOf 177 = .ok (.getfield 72, 3) := by decide +kernel
theorem dX10_costOf_180 : decode cX10_costOf 180 = .ok (.bipush 21, 2) := by decide +kernel
theorem dX10_costOf_182 : decode cX10_costOf 182 = .ok (.iload_n 2, 1) := by decide +kernel
theorem dX10_costOf_183 : decode cX10_costOf 183 = .ok (.imul, 1) := by decide +kernel
theorem dX10_costOf_184 : decode cX10_costOf 184 = .ok (.iload 5, 2) := by decide +kernel
theorem dX10_costOf_186 : decode cX10_costOf 186 = .ok (.invokevirtual 185, 3) := by decide +kernel
theorem dX10_costOf_189 : decode cX10_costOf 189 = .ok (.ifCond .lt 7, 3) := by decide +kernel
theorem dX10_costOf_192 : decode cX10_costOf 192 = .ok (.iconst 0, 1) := by decide +kernel
theorem dX10_costOf_193 : decode cX10_costOf 193 = .ok (.goto 4, 3) := by decide +kernel
theorem dX10_costOf_196 : decode cX10_costOf 196 = .ok (.iconst 3, 1) := by decide +kernel
theorem dX10_costOf_197 : decode cX10_costOf 197 = .ok (.ireturn, 1) := by decide +kernel
theorem dX10_costOf_198 : decode cX10_costOf 198 = .ok (.iload 4, 2) := by decide +kernel
theorem dX10_costOf_200 : decode cX10_costOf 200 = .ok (.ifCond .eq 5, 3) := by decide +kernel
theorem dX10_costOf_203 : decode cX10_costOf 203 = .ok (.iconst 0, 1) := by decide +kernel
theorem dX10_costOf_204 : decode cX10_costOf 204 = .ok (.ireturn, 1) := by decide +kernel
theorem dX10_costOf_205 : decode cX10_costOf 205 = .ok (.aload_n 0, 1) := by decide +kernel
theorem dX10_costOf_206 : decode cX10_costOf 206 = .ok (.iload_n 1, 1) := by decide +kernel
theorem dX10_costOf_207 : decode cX10_costOf 207 = .ok (.iconst 0, 1) := by decide +kernel
theorem dX10_costOf_208 : decode cX10_costOf 208 = .ok (.aload_n 0, 1) := by decide +kernel
theorem dX10_costOf_209 : decode cX10_costOf 209 = .ok (.getfield 72, 3) := by decide +kernel
theorem dX10_costOf_212 : decode cX10_costOf 212 = .ok (.bipush 21, 2) := by decide +kernel
theorem dX10_costOf_214 : decode cX10_costOf 214 = .ok (.iload_n 2, 1) := by decide +kernel
theorem dX10_costOf_215 : decode cX10_costOf 215 = .ok (.imul, 1) := by decide +kernel
theorem dX10_costOf_216 : decode cX10_costOf 216 = .ok (.aload_n 0, 1) := by decide +kernel
theorem dX10_costOf_217 : decode cX10_costOf 217 = .ok (.getfield 75, 3) := by decide +kernel
theorem dX10_costOf_220 : decode cX10_costOf 220 = .ok (.iload_n 2, 1) := by decide +kernel
theorem dX10_costOf_221 : decode cX10_costOf 221 = .ok (.iaload, 1) := by decide +kernel
theorem dX10_costOf_222 : decode cX10_costOf 222 = .ok (.invokevirtual 185, 3) := by decide +kernel
theorem dX10_costOf_225 : decode cX10_costOf 225 = .ok (.ifCond .ge 49, 3) := by decide +kernel
theorem dX10_costOf_228 : decode cX10_costOf 228 = .ok (.aload_n 0, 1) := by decide +kernel
theorem dX10_costOf_229 : decode cX10_costOf 229 = .ok (.iload_n 1, 1) := by decide +kernel
theorem dX10_costOf_230 : decode cX10_costOf 230 = .ok (.iconst 2, 1) := by decide +kernel
theorem dX10_costOf_231 : decode cX10_costOf 231 = .ok (.aload_n 0, 1) := by decide +kernel
theorem dX10_costOf_232 : decode cX10_costOf 232 = .ok (.getfield 72, 3) := by decide +kernel
theorem dX10_costOf_235 : decode cX10_costOf 235 = .ok (.bipush 21, 2) := by decide +kernel
theorem dX10_costOf_237 : decode cX10_costOf 237 = .ok (.iload_n 2, 1) := by decide +kernel
theorem dX10_costOf_238 : decode cX10_costOf 238 = .ok (.imul, 1) := by decide +kernel
theorem dX10_costOf_239 : decode cX10_costOf 239 = .ok (.aload_n 0, 1) := by decide +kernel
theorem dX10_costOf_240 : decode cX10_costOf 240 = .ok (.getfield 75, 3) := by decide +kernel
theorem dX10_costOf_243 : decode cX10_costOf 243 = .ok (.iload_n 2, 1) := by decide +kernel
theorem dX10_costOf_244 : decode cX10_costOf 244 = .ok (.iaload, 1) := by decide +kernel
theorem dX10_costOf_245 : decode cX10_costOf 245 = .ok (.invokevirtual 185, 3) := by decide +kernel
theorem dX10_costOf_248 : decode cX10_costOf 248 = .ok (.ifCond .ge 26, 3) := by decide +kernel
theorem dX10_costOf_251 : decode cX10_costOf 251 = .ok (.aload_n 0, 1) := by decide +kernel
theorem dX10_costOf_252 : decode cX10_costOf 252 = .ok (.iload_n 1, 1) := by decide +kernel
theorem dX10_costOf_253 : decode cX10_costOf 253 = .ok (.iconst 3, 1) := by decide +kernel
theorem dX10_costOf_254 : decode cX10_costOf 254 = .ok (.aload_n 0, 1) := by decide +kernel
theorem dX10_costOf_255 : decode cX10_costOf 255 = .ok (.getfield 72, 3) := by decide +kernel
theorem dX10_costOf_258 : decode cX10_costOf 258 = .ok (.bipush 21, 2) := by decide +kernel
theorem dX10_costOf_260 : decode cX10_costOf 260 = .ok (.iload_n 2, 1) := by decide +kernel
theorem dX10_costOf_261 : decode cX10_costOf 261 = .ok (.imul, 1) := by decide +kernel
theorem dX10_costOf_262 : decode cX10_costOf 262 = .ok (.aload_n 0, 1) := by decide +kernel
theorem dX10_costOf_263 : decode cX10_costOf 263 = .ok (.getfield 75, 3) := by decide +kernel
theorem dX10_costOf_266 : decode cX10_costOf 266 = .ok (.iload_n 2, 1) := by decide +kernel
theorem dX10_costOf_267 : decode cX10_costOf 267 = .ok (.iaload, 1) := by decide +kernel
theorem dX10_costOf_268 : decode cX10_costOf 268 = .ok (.invokevirtual 185, 3) := by decide +kernel
theorem dX10_costOf_271 : decode cX10_costOf 271 = .ok (.ifCond .lt 7, 3) := by decide +kernel
theorem dX10_costOf_274 : decode cX10_costOf 274 = .ok (.iconst 1, 1) := by decide +kernel
theorem dX10_costOf_275 : decode cX10_costOf 275 = .ok (.goto 4, 3) := by decide +kernel
theorem dX10_costOf_278 : decode cX10_costOf 278 = .ok (.iconst 0, 1) := by decide +kernel
theorem dX10_costOf_279 : decode cX10_costOf 279 = .ok (.istore 5, 2) := by decide +kernel
theorem dX10_costOf_281 : decode cX10_costOf 281 = .ok (.iload 5, 2) := by decide +kernel
theorem dX10_costOf_283 : decode cX10_costOf 283 = .ok (.ifCond .eq 7, 3) := by decide +kernel
theorem dX10_costOf_286 : decode cX10_costOf 286 = .ok (.iconst 5, 1) := by decide +kernel
theorem dX10_costOf_287 : decode cX10_costOf 287 = .ok (.goto 4, 3) := by decide +kernel
theorem dX10_costOf_290 : decode cX10_costOf 290 = .ok (.iconst 2, 1) := by decide +kernel
theorem dX10_costOf_291 : decode cX10_costOf 291 = .ok (.ireturn, 1) := by decide +kernel
theorem dX10_slips_0 : decode cX10_slips 0 = .ok (.iload_n 2, 1) := by decide +kernel
theorem dX10_slips_1 : decode cX10_slips 1 = .ok (.istore_n 3, 1) := by decide +kernel
theorem dX10_slips_2 : decode cX10_slips 2 = .ok (.iconst 0, 1) := by decide +kernel
theorem dX10_slips_3 : decode cX10_slips 3 = .ok (.istore 4, 2) := by decide +kernel
theorem dX10_slips_5 : decode cX10_slips 5 = .ok (.iload 4, 2) := by decide +kernel
theorem dX10_slips_7 : decode cX10_slips 7 = .ok (.aload_n 0, 1) := by decide +kernel
theorem dX10_slips_8 : decode cX10_slips 8 = .ok (.getfield 29, 3) := by decide +kernel
theorem dX10_slips_11 : decode cX10_slips 11 = .ok (.iload_n 1, 1) := by decide +kernel
theorem dX10_slips_12 : decode cX10_slips 12 = .ok (.iaload, 1) := by decide +kernel
theorem dX10_slips_13 : decode cX10_slips 13 = .ok (.if_icmp .ge 54, 3) := by decide +kernel
theorem dX10_slips_16 : decode cX10_slips 16 = .ok (.aload_n 0, 1) := by decide +kernel
theorem dX10_slips_17 : decode cX10_slips 17 = .ok (.getfield 35, 3) := by decide +kernel
theorem dX10_slips_20 : decode cX10_slips 20 = .ok (.bipush 8, 2) := by decide +kernel
theorem dX10_slips_22 : decode cX10_slips 22 = .ok (.iload_n 1, 1) := by decide +kernel
theorem dX10_slips_23 : decode cX10_slips 23 = .ok (.imul, 1) := by decide +kernel
theorem dX10_slips_24 : decode cX10_slips 24 = .ok (.iload 4, 2) := by decide +kernel
theorem dX10_slips_26 : decode cX10_slips 26 = .ok (.iadd, 1) := by decide +kernel
theorem dX10_slips_27 : decode cX10_slips 27 = .ok (.iaload, 1) := by decide +kernel
theorem dX10_slips_28 : decode cX10_slips 28 = .ok (.istore 5, 2) := by decide +kernel
theorem dX10_slips_30 : decode cX10_slips 30 = .ok (.iload_n 3, 1) := by decide +kernel
theorem dX10_slips_31 : decode cX10_slips 31 = .ok (.iload 4, 2) := by decide +kernel
theorem dX10_slips_33 : decode cX10_slips 33 = .ok (.ishr, 1) := by decide +kernel
theorem dX10_slips_34 : decode cX10_slips 34 = .ok (.iconst 1, 1) := by decide +kernel
theorem dX10_slips_35 : decode cX10_slips 35 = .ok (.iand, 1) := by decide +kernel
theorem dX10_slips_36 : decode cX10_slips 36 = .ok (.iconst 1, 1) := by decide +kernel
theorem dX10_slips_37 : decode cX10_slips 37 = .ok (.if_icmp .ne 24, 3) := by decide +kernel
theorem dX10_slips_40 : decode cX10_slips 40 = .ok (.iload 5, 2) := by decide +kernel
theorem dX10_slips_42 : decode cX10_slips 42 = .ok (.iconst 1, 1) := by decide +kernel
theorem dX10_slips_43 : decode cX10_slips 43 = .ok (.if_icmp .eq 9, 3) := by decide +kernel
theorem dX10_slips_46 : decode cX10_slips 46 = .ok (.iload 5, 2) := by decide +kernel
theorem dX10_slips_48 : decode cX10_slips 48 = .ok (.iconst 2, 1) := by decide +kernel
theorem dX10_slips_49 : decode cX10_slips 49 = .ok (.if_icmp .ne 12, 3) := by decide +kernel
theorem dX10_slips_52 : decode cX10_slips 52 = .ok (.iload_n 3, 1) := by decide +kernel
theorem dX10_slips_53 : decode cX10_slips 53 = .ok (.iconst 1, 1) := by decide +kernel
theorem dX10_slips_54 : decode cX10_slips 54 = .ok (.iload 4, 2) := by decide +kernel
theorem dX10_slips_56 : decode cX10_slips 56 = .ok (.iconst 1, 1) := by decide +kernel
theorem dX10_slips_57 : decode cX10_slips 57 = .ok (.iadd, 1) := by decide +kernel
theorem dX10_slips_58 : decode cX10_slips 58 = .ok (.ishl, 1) := by decide +kernel
theorem dX10_slips_59 : decode cX10_slips 59 = .ok (.ior, 1) := by decide +kernel
theorem dX10_slips_60 : decode cX10_slips 60 = .ok (.istore_n 3, 1) := by decide +kernel
theorem dX10_slips_61 : decode cX10_slips 61 = .ok (.iinc 4 1, 3) := by decide +kernel
theorem dX10_slips_64 : decode cX10_slips 64 = .ok (.goto (-59), 3) := by decide +kernel
theorem dX10_slips_67 : decode cX10_slips 67 = .ok (.iload_n 3, 1) := by decide +kernel
theorem dX10_slips_68 : decode cX10_slips 68 = .ok (.ireturn, 1) := by decide +kernel
theorem dX10_goes_0 : decode cX10_goes 0 = .ok (.iconst 0, 1) := by decide +kernel
theorem dX10_goes_1 : decode cX10_goes 1 = .ok (.istore 4, 2) := by decide +kernel
theorem dX10_goes_3 : decode cX10_goes 3 = .ok (.iconst 0, 1) := by decide +kernel
theorem dX10_goes_4 : decode cX10_goes 4 = .ok (.istore 5, 2) := by decide +kernel
theorem dX10_goes_6 : decode cX10_goes 6 = .ok (.iload 5, 2) := by decide +kernel
theorem dX10_goes_8 : decode cX10_goes 8 = .ok (.aload_n 0, 1) := by decide +kernel
theorem dX10_goes_9 : decode cX10_goes 9 = .ok (.getfield 29, 3) := by decide +kernel
theorem dX10_goes_12 : decode cX10_goes 12 = .ok (.iload_n 1, 1) := by decide +kernel
theorem dX10_goes_13 : decode cX10_goes 13 = .ok (.iaload, 1) := by decide +kernel
theorem dX10_goes_14 : decode cX10_goes 14 = .ok (.if_icmp .ge 95, 3) := by decide +kernel
theorem dX10_goes_17 : decode cX10_goes 17 = .ok (.iload_n 2, 1) := by decide +kernel
theorem dX10_goes_18 : decode cX10_goes 18 = .ok (.iload 5, 2) := by decide +kernel
theorem dX10_goes_20 : decode cX10_goes 20 = .ok (.ishr, 1) := by decide +kernel
theorem dX10_goes_21 : decode cX10_goes 21 = .ok (.iconst 1, 1) := by decide +kernel
theorem dX10_goes_22 : decode cX10_goes 22 = .ok (.iand, 1) := by decide +kernel
theorem dX10_goes_23 : decode cX10_goes 23 = .ok (.ifCond .eq 80, 3) := by decide +kernel
theorem dX10_goes_26 : decode cX10_goes 26 = .ok (.aload_n 0, 1) := by decide +kernel
theorem dX10_goes_27 : decode cX10_goes 27 = .ok (.getfield 32, 3) := by decide +kernel
theorem dX10_goes_30 : decode cX10_goes 30 = .ok (.bipush 8, 2) := by decide +kernel
theorem dX10_goes_32 : decode cX10_goes 32 = .ok (.iload_n 1, 1) := by decide +kernel
theorem dX10_goes_33 : decode cX10_goes 33 = .ok (.imul, 1) := by decide +kernel
theorem dX10_goes_34 : decode cX10_goes 34 = .ok (.iload 5, 2) := by decide +kernel
theorem dX10_goes_36 : decode cX10_goes 36 = .ok (.iadd, 1) := by decide +kernel
theorem dX10_goes_37 : decode cX10_goes 37 = .ok (.iaload, 1) := by decide +kernel
theorem dX10_goes_38 : decode cX10_goes 38 = .ok (.iload_n 3, 1) := by decide +kernel
theorem dX10_goes_39 : decode cX10_goes 39 = .ok (.if_icmp .eq 6, 3) := by decide +kernel
theorem dX10_goes_42 : decode cX10_goes 42 = .ok (.goto 61, 3) := by decide +kernel
theorem dX10_goes_45 : decode cX10_goes 45 = .ok (.aload_n 0, 1) := by decide +kernel
theorem dX10_goes_46 : decode cX10_goes 46 = .ok (.getfield 35, 3) := by decide +kernel
theorem dX10_goes_49 : decode cX10_goes 49 = .ok (.bipush 8, 2) := by decide +kernel
theorem dX10_goes_51 : decode cX10_goes 51 = .ok (.iload_n 1, 1) := by decide +kernel
theorem dX10_goes_52 : decode cX10_goes 52 = .ok (.imul, 1) := by decide +kernel
theorem dX10_goes_53 : decode cX10_goes 53 = .ok (.iload 5, 2) := by decide +kernel
theorem dX10_goes_55 : decode cX10_goes 55 = .ok (.iadd, 1) := by decide +kernel
theorem dX10_goes_56 : decode cX10_goes 56 = .ok (.iaload, 1) := by decide +kernel
theorem dX10_goes_57 : decode cX10_goes 57 = .ok (.istore 6, 2) := by decide +kernel
theorem dX10_goes_59 : decode cX10_goes 59 = .ok (.iload 4, 2) := by decide +kernel
theorem dX10_goes_61 : decode cX10_goes 61 = .ok (.iconst 1, 1) := by decide +kernel
theorem dX10_goes_62 : decode cX10_goes 62 = .ok (.iload 5, 2) := by decide +kernel
theorem dX10_goes_64 : decode cX10_goes 64 = .ok (.iconst 1, 1) := by decide +kernel
theorem dX10_goes_65 : decode cX10_goes 65 = .ok (.iadd, 1) := by decide +kernel
theorem dX10_goes_66 : decode cX10_goes 66 = .ok (.ishl, 1) := by decide +kernel
theorem dX10_goes_67 : decode cX10_goes 67 = .ok (.ior, 1) := by decide +kernel
theorem dX10_goes_68 : decode cX10_goes 68 = .ok (.istore 4, 2) := by decide +kernel
theorem dX10_goes_70 : decode cX10_goes 70 = .ok (.iload 6, 2) := by decide +kernel
theorem dX10_goes_72 : decode cX10_goes 72 = .ok (.iconst 2, 1) := by decide +kernel
theorem dX10_goes_73 : decode cX10_goes 73 = .ok (.if_icmp .ne 12, 3) := by decide +kernel
theorem dX10_goes_76 : decode cX10_goes 76 = .ok (.iload 4, 2) := by decide +kernel
theorem dX10_goes_78 : decode cX10_goes 78 = .ok (.iconst 1, 1) := by decide +kernel
theorem dX10_goes_79 : decode cX10_goes 79 = .ok (.iload 5, 2) := by decide +kernel
theorem dX10_goes_81 : decode cX10_goes 81 = .ok (.ishl, 1) := by decide +kernel
theorem dX10_goes_82 : decode cX10_goes 82 = .ok (.ior, 1) := by decide +kernel
theorem dX10_goes_83 : decode cX10_goes 83 = .ok (.istore 4, 2) := by decide +kernel
theorem dX10_goes_85 : decode cX10_goes 85 = .ok (.iload 6, 2) := by decide +kernel
theorem dX10_goes_87 : decode cX10_goes 87 = .ok (.iconst 3, 1) := by decide +kernel
theorem dX10_goes_88 : decode cX10_goes 88 = .ok (.if_icmp .ne 15, 3) := by decide +kernel
theorem dX10_goes_91 : decode cX10_goes 91 = .ok (.iload 4, 2) := by decide +kernel
theorem dX10_goes_93 : decode cX10_goes 93 = .ok (.iconst 1, 1) := by decide +kernel
theorem dX10_goes_94 : decode cX10_goes 94 = .ok (.iload 5, 2) := by decide +kernel
theorem dX10_goes_96 : decode cX10_goes 96 = .ok (.bipush 9, 2) := by decide +kernel
theorem dX10_goes_98 : decode cX10_goes 98 = .ok (.iadd, 1) := by decide +kernel
theorem dX10_goes_99 : decode cX10_goes 99 = .ok (.ishl, 1) := by decide +kernel
theorem dX10_goes_100 : decode cX10_goes 100 = .ok (.ior, 1) := by decide +kernel
theorem dX10_goes_101 : decode cX10_goes 101 = .ok (.istore 4, 2) := by decide +kernel
theorem dX10_goes_103 : decode cX10_goes 103 = .ok (.iinc 5 1, 3) := by decide +kernel
theorem dX10_goes_106 : decode cX10_goes 106 = .ok (.goto (-100), 3) := by decide +kernel
theorem dX10_goes_109 : decode cX10_goes 109 = .ok (.iconst 0, 1) := by decide +kernel
theorem dX10_goes_110 : decode cX10_goes 110 = .ok (.istore 5, 2) := by decide +kernel
theorem dX10_goes_112 : decode cX10_goes 112 = .ok (.iload 5, 2) := by decide +kernel
theorem dX10_goes_114 : decode cX10_goes 114 = .ok (.aload_n 0, 1) := by decide +kernel
theorem dX10_goes_115 : decode cX10_goes 115 = .ok (.getfield 29, 3) := by decide +kernel
theorem dX10_goes_118 : decode cX10_goes 118 = .ok (.iload_n 1, 1) := by decide +kernel
theorem dX10_goes_119 : decode cX10_goes 119 = .ok (.iaload, 1) := by decide +kernel
theorem dX10_goes_120 : decode cX10_goes 120 = .ok (.if_icmp .ge 57, 3) := by decide +kernel
theorem dX10_goes_123 : decode cX10_goes 123 = .ok (.iload_n 2, 1) := by decide +kernel
theorem dX10_goes_124 : decode cX10_goes 124 = .ok (.iload 5, 2) := by decide +kernel
theorem dX10_goes_126 : decode cX10_goes 126 = .ok (.bipush 9, 2) := by decide +kernel
theorem dX10_goes_128 : decode cX10_goes 128 = .ok (.iadd, 1) := by decide +kernel
theorem dX10_goes_129 : decode cX10_goes 129 = .ok (.ishr, 1) := by decide +kernel
theorem dX10_goes_130 : decode cX10_goes 130 = .ok (.iconst 1, 1) := by decide +kernel
theorem dX10_goes_131 : decode cX10_goes 131 = .ok (.iand, 1) := by decide +kernel
theorem dX10_goes_132 : decode cX10_goes 132 = .ok (.iconst 1, 1) := by decide +kernel
theorem dX10_goes_133 : decode cX10_goes 133 = .ok (.if_icmp .ne 38, 3) := by decide +kernel
theorem dX10_goes_136 : decode cX10_goes 136 = .ok (.aload_n 0, 1) := by decide +kernel
theorem dX10_goes_137 : decode cX10_goes 137 = .ok (.getfield 32, 3) := by decide +kernel
theorem dX10_goes_140 : decode cX10_goes 140 = .ok (.bipush 8, 2) := by decide +kernel
theorem dX10_goes_142 : decode cX10_goes 142 = .ok (.iload_n 1, 1) := by decide +kernel
theorem dX10_goes_143 : decode cX10_goes 143 = .ok (.imul, 1) := by decide +kernel
theorem dX10_goes_144 : decode cX10_goes 144 = .ok (.iload 5, 2) := by decide +kernel
theorem dX10_goes_146 : decode cX10_goes 146 = .ok (.iadd, 1) := by decide +kernel
theorem dX10_goes_147 : decode cX10_goes 147 = .ok (.iaload, 1) := by decide +kernel
theorem dX10_goes_148 : decode cX10_goes 148 = .ok (.iload_n 3, 1) := by decide +kernel
theorem dX10_goes_149 : decode cX10_goes 149 = .ok (.if_icmp .ne 22, 3) := by decide +kernel
theorem dX10_goes_152 : decode cX10_goes 152 = .ok (.iload 4, 2) := by decide +kernel
theorem dX10_goes_154 : decode cX10_goes 154 = .ok (.iconst 1, 1) := by decide +kernel
theorem dX10_goes_155 : decode cX10_goes 155 = .ok (.iload 5, 2) := by decide +kernel
theorem dX10_goes_157 : decode cX10_goes 157 = .ok (.bipush 9, 2) := by decide +kernel
theorem dX10_goes_159 : decode cX10_goes 159 = .ok (.iadd, 1) := by decide +kernel
theorem dX10_goes_160 : decode cX10_goes 160 = .ok (.ishl, 1) := by decide +kernel
theorem dX10_goes_161 : decode cX10_goes 161 = .ok (.iconst 1, 1) := by decide +kernel
theorem dX10_goes_162 : decode cX10_goes 162 = .ok (.iload 5, 2) := by decide +kernel
theorem dX10_goes_164 : decode cX10_goes 164 = .ok (.iconst 1, 1) := by decide +kernel
theorem dX10_goes_165 : decode cX10_goes 165 = .ok (.iadd, 1) := by decide +kernel
theorem dX10_goes_166 : decode cX10_goes 166 = .ok (.ishl, 1) := by decide +kernel
theorem dX10_goes_167 : decode cX10_goes 167 = .ok (.ior, 1) := by decide +kernel
theorem dX10_goes_168 : decode cX10_goes 168 = .ok (.ior, 1) := by decide +kernel
theorem dX10_goes_169 : decode cX10_goes 169 = .ok (.istore 4, 2) := by decide +kernel
theorem dX10_goes_171 : decode cX10_goes 171 = .ok (.iinc 5 1, 3) := by decide +kernel
theorem dX10_goes_174 : decode cX10_goes 174 = .ok (.goto (-62), 3) := by decide +kernel
theorem dX10_goes_177 : decode cX10_goes 177 = .ok (.iload 4, 2) := by decide +kernel
theorem dX10_goes_179 : decode cX10_goes 179 = .ok (.ireturn, 1) := by decide +kernel
theorem dX10_fill_0 : decode cX10_fill 0 = .ok (.aload_n 0, 1) := by decide +kernel
theorem dX10_fill_1 : decode cX10_fill 1 = .ok (.iconst 0, 1) := by decide +kernel
theorem dX10_fill_2 : decode cX10_fill 2 = .ok (.putfield 192, 3) := by decide +kernel
theorem dX10_fill_5 : decode cX10_fill 5 = .ok (.aload_n 0, 1) := by decide +kernel
theorem dX10_fill_6 : decode cX10_fill 6 = .ok (.getfield 60, 3) := by decide +kernel
theorem dX10_fill_9 : decode cX10_fill 9 = .ok (.iload_n 1, 1) := by decide +kernel
theorem dX10_fill_10 : decode cX10_fill 10 = .ok (.iaload, 1) := by decide +kernel
theorem dX10_fill_11 : decode cX10_fill 11 = .ok (.istore_n 2, 1) := by decide +kernel
theorem dX10_fill_12 : decode cX10_fill 12 = .ok (.aload_n 0, 1) := by decide +kernel
theorem dX10_fill_13 : decode cX10_fill 13 = .ok (.getfield 63, 3) := by decide +kernel
theorem dX10_fill_16 : decode cX10_fill 16 = .ok (.iload_n 1, 1) := by decide +kernel
theorem dX10_fill_17 : decode cX10_fill 17 = .ok (.iaload, 1) := by decide +kernel
theorem dX10_fill_18 : decode cX10_fill 18 = .ok (.istore_n 3, 1) := by decide +kernel
theorem dX10_fill_19 : decode cX10_fill 19 = .ok (.aload_n 0, 1) := by decide +kernel
theorem dX10_fill_20 : decode cX10_fill 20 = .ok (.getfield 25, 3) := by decide +kernel
theorem dX10_fill_23 : decode cX10_fill 23 = .ok (.iload_n 2, 1) := by decide +kernel
theorem dX10_fill_24 : decode cX10_fill 24 = .ok (.baload, 1) := by decide +kernel
theorem dX10_fill_25 : decode cX10_fill 25 = .ok (.ifCond .ne 4, 3) := by decide +kernel
theorem dX10_fill_28 : decode cX10_fill 28 = .ok (.return_, 1) := by decide +kernel
theorem dX10_fill_29 : decode cX10_fill 29 = .ok (.iconst 0, 1) := by decide +kernel
theorem dX10_fill_30 : decode cX10_fill 30 = .ok (.istore 4, 2) := by decide +kernel
theorem dX10_fill_32 : decode cX10_fill 32 = .ok (.iload 4, 2) := by decide +kernel
theorem dX10_fill_34 : decode cX10_fill 34 = .ok (.iload_n 3, 1) := by decide +kernel
theorem dX10_fill_35 : decode cX10_fill 35 = .ok (.if_icmp .ge 52, 3) := by decide +kernel
theorem dX10_fill_38 : decode cX10_fill 38 = .ok (.iconst 0, 1) := by decide +kernel
theorem dX10_fill_39 : decode cX10_fill 39 = .ok (.istore 5, 2) := by decide +kernel
theorem dX10_fill_41 : decode cX10_fill 41 = .ok (.iload 5, 2) := by decide +kernel
theorem dX10_fill_43 : decode cX10_fill 43 = .ok (.bipush 7, 2) := by decide +kernel
theorem dX10_fill_45 : decode cX10_fill 45 = .ok (.if_icmp .ge 36, 3) := by decide +kernel
theorem dX10_fill_48 : decode cX10_fill 48 = .ok (.aload_n 0, 1) := by decide +kernel
theorem dX10_fill_49 : decode cX10_fill 49 = .ok (.getfield 102, 3) := by decide +kernel
theorem dX10_fill_52 : decode cX10_fill 52 = .ok (.bipush 7, 2) := by decide +kernel
theorem dX10_fill_54 : decode cX10_fill 54 = .ok (.iload 4, 2) := by decide +kernel
theorem dX10_fill_56 : decode cX10_fill 56 = .ok (.imul, 1) := by decide +kernel
theorem dX10_fill_57 : decode cX10_fill 57 = .ok (.iload 5, 2) := by decide +kernel
theorem dX10_fill_59 : decode cX10_fill 59 = .ok (.iadd, 1) := by decide +kernel
theorem dX10_fill_60 : decode cX10_fill 60 = .ok (.aload_n 0, 1) := by decide +kernel
theorem dX10_fill_61 : decode cX10_fill 61 = .ok (.iload_n 2, 1) := by decide +kernel
theorem dX10_fill_62 : decode cX10_fill 62 = .ok (.bipush 8, 2) := by decide +kernel
theorem dX10_fill_64 : decode cX10_fill 64 = .ok (.iload_n 1, 1) := by decide +kernel
theorem dX10_fill_65 : decode cX10_fill 65 = .ok (.imul, 1) := by decide +kernel
theorem dX10_fill_66 : decode cX10_fill 66 = .ok (.iload 4, 2) := by decide +kernel
theorem dX10_fill_68 : decode cX10_fill 68 = .ok (.iadd, 1) := by decide +kernel
theorem dX10_fill_69 : decode cX10_fill 69 = .ok (.iload 5, 2) := by decide +kernel
theorem dX10_fill_71 : decode cX10_fill 71 = .ok (.invokevirtual 195, 3) := by decide +kernel
theorem dX10_fill_74 : decode cX10_fill 74 = .ok (.iastore, 1) := by decide +kernel
theorem dX10_fill_75 : decode cX10_fill 75 = .ok (.iinc 5 1, 3) := by decide +kernel
theorem dX10_fill_78 : decode cX10_fill 78 = .ok (.goto (-37), 3) := by decide +kernel
theorem dX10_fill_81 : decode cX10_fill 81 = .ok (.iinc 4 1, 3) := by decide +kernel
theorem dX10_fill_84 : decode cX10_fill 84 = .ok (.goto (-52), 3) := by decide +kernel
theorem dX10_fill_87 : decode cX10_fill 87 = .ok (.iconst 0, 1) := by decide +kernel
theorem dX10_fill_88 : decode cX10_fill 88 = .ok (.istore 4, 2) := by decide +kernel
theorem dX10_fill_90 : decode cX10_fill 90 = .ok (.iconst 0, 1) := by decide +kernel
theorem dX10_fill_91 : decode cX10_fill 91 = .ok (.istore 5, 2) := by decide +kernel
theorem dX10_fill_93 : decode cX10_fill 93 = .ok (.iconst 0, 1) := by decide +kernel
theorem dX10_fill_94 : decode cX10_fill 94 = .ok (.istore 6, 2) := by decide +kernel
theorem dX10_fill_96 : decode cX10_fill 96 = .ok (.aload_n 0, 1) := by decide +kernel
theorem dX10_fill_97 : decode cX10_fill 97 = .ok (.getfield 105, 3) := by decide +kernel
theorem dX10_fill_100 : decode cX10_fill 100 = .ok (.iconst 0, 1) := by decide +kernel
theorem dX10_fill_101 : decode cX10_fill 101 = .ok (.aload_n 0, 1) := by decide +kernel
theorem dX10_fill_102 : decode cX10_fill 102 = .ok (.iload_n 2, 1) := by decide +kernel
theorem dX10_fill_103 : decode cX10_fill 103 = .ok (.iconst 1, 1) := by decide +kernel
theorem dX10_fill_104 : decode cX10_fill 104 = .ok (.invokevirtual 199, 3) := by decide +kernel
theorem dX10_fill_107 : decode cX10_fill 107 = .ok (.iastore, 1) := by decide +kernel
theorem dX10_fill_108 : decode cX10_fill 108 = .ok (.iconst 0, 1) := by decide +kernel
theorem dX10_fill_109 : decode cX10_fill 109 = .ok (.istore 7, 2) := by decide +kernel
theorem dX10_fill_111 : decode cX10_fill 111 = .ok (.iload 4, 2) := by decide +kernel
theorem dX10_fill_113 : decode cX10_fill 113 = .ok (.ifCond .lt 232, 3) := by decide +kernel
theorem dX10_fill_116 : decode cX10_fill 116 = .ok (.iload 7, 2) := by decide +kernel
theorem dX10_fill_118 : decode cX10_fill 118 = .ok (.bipush 7, 2) := by decide +kernel
theorem dX10_fill_120 : decode cX10_fill 120 = .ok (.if_icmp .ne 48, 3) := by decide +kernel
theorem dX10_fill_123 : decode cX10_fill 123 = .ok (.iinc 4 (-1), 3) := by decide +kernel
theorem dX10_fill_126 : decode cX10_fill 126 = .ok (.iload 4, 2) := by decide +kernel
theorem dX10_fill_128 : decode cX10_fill 128 = .ok (.ifCond .lt (-17), 3) := by decide +kernel
theorem dX10_fill_131 : decode cX10_fill 131 = .ok (.iload 5, 2) := by decide +kernel
theorem dX10_fill_133 : decode cX10_fill 133 = .ok (.bipush 7, 2) := by decide +kernel
theorem dX10_fill_135 : decode cX10_fill 135 = .ok (.iand, 1) := by decide +kernel
theorem dX10_fill_136 : decode cX10_fill 136 = .ok (.istore 7, 2) := by decide +kernel
theorem dX10_fill_138 : decode cX10_fill 138 = .ok (.iload 5, 2) := by decide +kernel
theorem dX10_fill_140 : decode cX10_fill 140 = .ok (.iconst 3, 1) := by decide +kernel
theorem dX10_fill_141 : decode cX10_fill 141 = .ok (.ishr, 1) := by decide +kernel
theorem dX10_fill_142 : decode cX10_fill 142 = .ok (.istore 5, 2) := by decide +kernel
theorem dX10_fill_144 : decode cX10_fill 144 = .ok (.iload 6, 2) := by decide +kernel
theorem dX10_fill_146 : decode cX10_fill 146 = .ok (.aload_n 0, 1) := by decide +kernel
theorem dX10_fill_147 : decode cX10_fill 147 = .ok (.getfield 102, 3) := by decide +kernel
theorem dX10_fill_150 : decode cX10_fill 150 = .ok (.bipush 7, 2) := by decide +kernel
theorem dX10_fill_152 : decode cX10_fill 152 = .ok (.iload 4, 2) := by decide +kernel
theorem dX10_fill_154 : decode cX10_fill 154 = .ok (.imul, 1) := by decide +kernel
theorem dX10_fill_155 : decode cX10_fill 155 = .ok (.iload 7, 2) := by decide +kernel
theorem dX10_fill_157 : decode cX10_fill 157 = .ok (.iadd, 1) := by decide +kernel
theorem dX10_fill_158 : decode cX10_fill 158 = .ok (.iaload, 1) := by decide +kernel
theorem dX10_fill_159 : decode cX10_fill 159 = .ok (.isub, 1) := by decide +kernel
theorem dX10_fill_160 : decode cX10_fill 160 = .ok (.istore 6, 2) := by decide +kernel
theorem dX10_fill_162 : decode cX10_fill 162 = .ok (.iinc 7 1, 3) := by decide +kernel
theorem dX10_fill_165 : decode cX10_fill 165 = .ok (.goto (-54), 3) := by decide +kernel
theorem dX10_fill_168 : decode cX10_fill 168 = .ok (.aload_n 0, 1) := by decide +kernel
theorem dX10_fill_169 : decode cX10_fill 169 = .ok (.getfield 102, 3) := by decide +kernel
theorem dX10_fill_172 : decode cX10_fill 172 = .ok (.bipush 7, 2) := by decide +kernel
theorem dX10_fill_174 : decode cX10_fill 174 = .ok (.iload 4, 2) := by decide +kernel
theorem dX10_fill_176 : decode cX10_fill 176 = .ok (.imul, 1) := by decide +kernel
theorem dX10_fill_177 : decode cX10_fill 177 = .ok (.iload 7, 2) := by decide +kernel
theorem dX10_fill_179 : decode cX10_fill 179 = .ok (.iadd, 1) := by decide +kernel
theorem dX10_fill_180 : decode cX10_fill 180 = .ok (.iaload, 1) := by decide +kernel
theorem dX10_fill_181 : decode cX10_fill 181 = .ok (.ifCond .ge 7, 3) := by decide +kernel
theorem dX10_fill_184 : decode cX10_fill 184 = .ok (.iconst 0, 1) := by decide +kernel
theorem dX10_fill_185 : decode cX10_fill 185 = .ok (.goto 22, 3) := by decide +kernel
theorem dX10_fill_188 : decode cX10_fill 188 = .ok (.aload_n 0, 1) := by decide +kernel
theorem dX10_fill_189 : decode cX10_fill 189 = .ok (.iload_n 2, 1) := by decide +kernel
theorem dX10_fill_190 : decode cX10_fill 190 = .ok (.aload_n 0, 1) := by decide +kernel
theorem dX10_fill_191 : decode cX10_fill 191 = .ok (.iload_n 2, 1) := by decide +kernel
theorem dX10_fill_192 : decode cX10_fill 192 = .ok (.aload_n 0, 1) := by decide +kernel
theorem dX10_fill_193 : decode cX10_fill 193 = .ok (.getfield 105, 3) := by decide +kernel
theorem dX10_fill_196 : decode cX10_fill 196 = .ok (.iload 4, 2) := by decide +kernel
theorem dX10_fill_198 : decode cX10_fill 198 = .ok (.iaload, 1) := by decide +kernel
theorem dX10_fill_199 : decode cX10_fill 199 = .ok (.iload 7, 2) := by decide +kernel
theorem dX10_fill_201 : decode cX10_fill 201 = .ok (.invokevirtual 203, 3) := by decide +kernel
theorem dX10_fill_204 : decode cX10_fill 204 = .ok (.invokevirtual 199, 3) := by decide +kernel
theorem dX10_fill_207 : decode cX10_fill 207 = .ok (.istore 8, 2) := by decide +kernel
theorem dX10_fill_209 : decode cX10_fill 209 = .ok (.iload 8, 2) := by decide +kernel
theorem dX10_fill_211 : decode cX10_fill 211 = .ok (.ifCond .ne 9, 3) := by decide +kernel
theorem dX10_fill_214 : decode cX10_fill 214 = .ok (.iinc 7 1, 3) := by decide +kernel
theorem dX10_fill_217 : decode cX10_fill 217 = .ok (.goto (-106), 3) := by decide +kernel
theorem dX10_fill_220 : decode cX10_fill 220 = .ok (.iload 4, 2) := by decide +kernel
theorem dX10_fill_222 : decode cX10_fill 222 = .ok (.iload_n 3, 1) := by decide +kernel
theorem dX10_fill_223 : decode cX10_fill 223 = .ok (.iconst 1, 1) := by decide +kernel
theorem dX10_fill_224 : decode cX10_fill 224 = .ok (.isub, 1) := by decide +kernel
theorem dX10_fill_225 : decode cX10_fill 225 = .ok (.if_icmp .ne 75, 3) := by decide +kernel
theorem dX10_fill_228 : decode cX10_fill 228 = .ok (.iload 8, 2) := by decide +kernel
theorem dX10_fill_230 : decode cX10_fill 230 = .ok (.aload_n 0, 1) := by decide +kernel
theorem dX10_fill_231 : decode cX10_fill 231 = .ok (.getfield 29, 3) := by decide +kernel
theorem dX10_fill_234 : decode cX10_fill 234 = .ok (.iload_n 2, 1) := by decide +kernel
theorem dX10_fill_235 : decode cX10_fill 235 = .ok (.iaload, 1) := by decide +kernel
theorem dX10_fill_236 : decode cX10_fill 236 = .ok (.ishr, 1) := by decide +kernel
theorem dX10_fill_237 : decode cX10_fill 237 = .ok (.iconst 1, 1) := by decide +kernel
theorem dX10_fill_238 : decode cX10_fill 238 = .ok (.iand, 1) := by decide +kernel
theorem dX10_fill_239 : decode cX10_fill 239 = .ok (.iconst 1, 1) := by decide +kernel
theorem dX10_fill_240 : decode cX10_fill 240 = .ok (.if_icmp .ne 54, 3) := by decide +kernel
theorem dX10_fill_243 : decode cX10_fill 243 = .ok (.aload_n 0, 1) := by decide +kernel
theorem dX10_fill_244 : decode cX10_fill 244 = .ok (.getfield 108, 3) := by decide +kernel
theorem dX10_fill_247 : decode cX10_fill 247 = .ok (.aload_n 0, 1) := by decide +kernel
theorem dX10_fill_248 : decode cX10_fill 248 = .ok (.getfield 192, 3) := by decide +kernel
theorem dX10_fill_251 : decode cX10_fill 251 = .ok (.iload 5, 2) := by decide +kernel
theorem dX10_fill_253 : decode cX10_fill 253 = .ok (.iconst 3, 1) := by decide +kernel
theorem dX10_fill_254 : decode cX10_fill 254 = .ok (.ishl, 1) := by decide +kernel
theorem dX10_fill_255 : decode cX10_fill 255 = .ok (.iload 7, 2) := by decide +kernel
theorem dX10_fill_257 : decode cX10_fill 257 = .ok (.ior, 1) := by decide +kernel
theorem dX10_fill_258 : decode cX10_fill 258 = .ok (.iastore, 1) := by decide +kernel
theorem dX10_fill_259 : decode cX10_fill 259 = .ok (.aload_n 0, 1) := by decide +kernel
theorem dX10_fill_260 : decode cX10_fill 260 = .ok (.getfield 111, 3) := by decide +kernel
theorem dX10_fill_263 : decode cX10_fill 263 = .ok (.aload_n 0, 1) := by decide +kernel
theorem dX10_fill_264 : decode cX10_fill 264 = .ok (.getfield 192, 3) := by decide +kernel
theorem dX10_fill_267 : decode cX10_fill 267 = .ok (.iload 6, 2) := by decide +kernel
theorem dX10_fill_269 : decode cX10_fill 269 = .ok (.aload_n 0, 1) := by decide +kernel
theorem dX10_fill_270 : decode cX10_fill 270 = .ok (.getfield 102, 3) := by decide +kernel
theorem dX10_fill_273 : decode cX10_fill 273 = .ok (.bipush 7, 2) := by decide +kernel
theorem dX10_fill_275 : decode cX10_fill 275 = .ok (.iload 4, 2) := by decide +kernel
theorem dX10_fill_277 : decode cX10_fill 277 = .ok (.imul, 1) := by decide +kernel
theorem dX10_fill_278 : decode cX10_fill 278 = .ok (.iload 7, 2) := by decide +kernel
theorem dX10_fill_280 : decode cX10_fill 280 = .ok (.iadd, 1) := by decide +kernel
end
section
theorem dX10_fill_281 : decode cX10_fill 281 = .ok (.iaload, 1) := by decide +kernel
theorem dX10_fill_282 : decode cX10_fill 282 = .ok (.iadd, 1) := by decide +kernel
theorem dX10_fill_283 : decode cX10_fill 283 = .ok (.iastore, 1) := by decide +kernel
theorem dX10_fill_284 : decode cX10_fill 284 = .ok (.aload_n 0, 1) := by decide +kernel
theorem dX10_fill_285 : decode cX10_fill 285 = .ok (.dup, 1) := by decide +kernel
theorem dX10_fill_286 : decode cX10_fill 286 = .ok (.getfield 192, 3) := by decide +kernel
theorem dX10_fill_289 : decode cX10_fill 289 = .ok (.iconst 1, 1) := by decide +kernel
theorem dX10_fill_290 : decode cX10_fill 290 = .ok (.iadd, 1) := by decide +kernel
theorem dX10_fill_291 : decode cX10_fill 291 = .ok (.putfield 192, 3) := by decide +kernel
theorem dX10_fill_294 : decode cX10_fill 294 = .ok (.iinc 7 1, 3) := by decide +kernel
theorem dX10_fill_297 : decode cX10_fill 297 = .ok (.goto (-186), 3) := by decide +kernel
theorem dX10_fill_300 : decode cX10_fill 300 = .ok (.iload 6, 2) := by decide +kernel
theorem dX10_fill_302 : decode cX10_fill 302 = .ok (.aload_n 0, 1) := by decide +kernel
theorem dX10_fill_303 : decode cX10_fill 303 = .ok (.getfield 102, 3) := by decide +kernel
theorem dX10_fill_306 : decode cX10_fill 306 = .ok (.bipush 7, 2) := by decide +kernel
theorem dX10_fill_308 : decode cX10_fill 308 = .ok (.iload 4, 2) := by decide +kernel
theorem dX10_fill_310 : decode cX10_fill 310 = .ok (.imul, 1) := by decide +kernel
theorem dX10_fill_311 : decode cX10_fill 311 = .ok (.iload 7, 2) := by decide +kernel
theorem dX10_fill_313 : decode cX10_fill 313 = .ok (.iadd, 1) := by decide +kernel
theorem dX10_fill_314 : decode cX10_fill 314 = .ok (.iaload, 1) := by decide +kernel
theorem dX10_fill_315 : decode cX10_fill 315 = .ok (.iadd, 1) := by decide +kernel
theorem dX10_fill_316 : decode cX10_fill 316 = .ok (.istore 6, 2) := by decide +kernel
theorem dX10_fill_318 : decode cX10_fill 318 = .ok (.iload 5, 2) := by decide +kernel
theorem dX10_fill_320 : decode cX10_fill 320 = .ok (.iconst 3, 1) := by decide +kernel
theorem dX10_fill_321 : decode cX10_fill 321 = .ok (.ishl, 1) := by decide +kernel
theorem dX10_fill_322 : decode cX10_fill 322 = .ok (.iload 7, 2) := by decide +kernel
theorem dX10_fill_324 : decode cX10_fill 324 = .ok (.ior, 1) := by decide +kernel
theorem dX10_fill_325 : decode cX10_fill 325 = .ok (.istore 5, 2) := by decide +kernel
theorem dX10_fill_327 : decode cX10_fill 327 = .ok (.iinc 4 1, 3) := by decide +kernel
theorem dX10_fill_330 : decode cX10_fill 330 = .ok (.aload_n 0, 1) := by decide +kernel
theorem dX10_fill_331 : decode cX10_fill 331 = .ok (.getfield 105, 3) := by decide +kernel
theorem dX10_fill_334 : decode cX10_fill 334 = .ok (.iload 4, 2) := by decide +kernel
theorem dX10_fill_336 : decode cX10_fill 336 = .ok (.iload 8, 2) := by decide +kernel
theorem dX10_fill_338 : decode cX10_fill 338 = .ok (.iastore, 1) := by decide +kernel
theorem dX10_fill_339 : decode cX10_fill 339 = .ok (.iconst 0, 1) := by decide +kernel
theorem dX10_fill_340 : decode cX10_fill 340 = .ok (.istore 7, 2) := by decide +kernel
theorem dX10_fill_342 : decode cX10_fill 342 = .ok (.goto (-231), 3) := by decide +kernel
theorem dX10_fill_345 : decode cX10_fill 345 = .ok (.return_, 1) := by decide +kernel
theorem dX10_reading_0 : decode cX10_reading 0 = .ok (.aload_n 0, 1) := by decide +kernel
theorem dX10_reading_1 : decode cX10_reading 1 = .ok (.iload_n 1, 1) := by decide +kernel
theorem dX10_reading_2 : decode cX10_reading 2 = .ok (.invokevirtual 206, 3) := by decide +kernel
theorem dX10_reading_5 : decode cX10_reading 5 = .ok (.iload_n 2, 1) := by decide +kernel
theorem dX10_reading_6 : decode cX10_reading 6 = .ok (.ifCond .lt 11, 3) := by decide +kernel
theorem dX10_reading_9 : decode cX10_reading 9 = .ok (.iload_n 2, 1) := by decide +kernel
theorem dX10_reading_10 : decode cX10_reading 10 = .ok (.aload_n 0, 1) := by decide +kernel
theorem dX10_reading_11 : decode cX10_reading 11 = .ok (.getfield 192, 3) := by decide +kernel
theorem dX10_reading_14 : decode cX10_reading 14 = .ok (.if_icmp .lt 5, 3) := by decide +kernel
theorem dX10_reading_17 : decode cX10_reading 17 = .ok (.iconst (-1), 1) := by decide +kernel
theorem dX10_reading_18 : decode cX10_reading 18 = .ok (.ireturn, 1) := by decide +kernel
theorem dX10_reading_19 : decode cX10_reading 19 = .ok (.iload_n 2, 1) := by decide +kernel
theorem dX10_reading_20 : decode cX10_reading 20 = .ok (.istore_n 3, 1) := by decide +kernel
theorem dX10_reading_21 : decode cX10_reading 21 = .ok (.iconst 0, 1) := by decide +kernel
theorem dX10_reading_22 : decode cX10_reading 22 = .ok (.istore 4, 2) := by decide +kernel
theorem dX10_reading_24 : decode cX10_reading 24 = .ok (.iconst 0, 1) := by decide +kernel
theorem dX10_reading_25 : decode cX10_reading 25 = .ok (.istore 5, 2) := by decide +kernel
theorem dX10_reading_27 : decode cX10_reading 27 = .ok (.iload 5, 2) := by decide +kernel
theorem dX10_reading_29 : decode cX10_reading 29 = .ok (.aload_n 0, 1) := by decide +kernel
theorem dX10_reading_30 : decode cX10_reading 30 = .ok (.getfield 192, 3) := by decide +kernel
theorem dX10_reading_33 : decode cX10_reading 33 = .ok (.if_icmp .ge 35, 3) := by decide +kernel
theorem dX10_reading_36 : decode cX10_reading 36 = .ok (.aload_n 0, 1) := by decide +kernel
theorem dX10_reading_37 : decode cX10_reading 37 = .ok (.getfield 111, 3) := by decide +kernel
theorem dX10_reading_40 : decode cX10_reading 40 = .ok (.iload 5, 2) := by decide +kernel
theorem dX10_reading_42 : decode cX10_reading 42 = .ok (.iaload, 1) := by decide +kernel
theorem dX10_reading_43 : decode cX10_reading 43 = .ok (.iload 4, 2) := by decide +kernel
theorem dX10_reading_45 : decode cX10_reading 45 = .ok (.if_icmp .le 13, 3) := by decide +kernel
theorem dX10_reading_48 : decode cX10_reading 48 = .ok (.aload_n 0, 1) := by decide +kernel
theorem dX10_reading_49 : decode cX10_reading 49 = .ok (.getfield 111, 3) := by decide +kernel
theorem dX10_reading_52 : decode cX10_reading 52 = .ok (.iload 5, 2) := by decide +kernel
theorem dX10_reading_54 : decode cX10_reading 54 = .ok (.iaload, 1) := by decide +kernel
theorem dX10_reading_55 : decode cX10_reading 55 = .ok (.goto 5, 3) := by decide +kernel
theorem dX10_reading_58 : decode cX10_reading 58 = .ok (.iload 4, 2) := by decide +kernel
theorem dX10_reading_60 : decode cX10_reading 60 = .ok (.istore 4, 2) := by decide +kernel
theorem dX10_reading_62 : decode cX10_reading 62 = .ok (.iinc 5 1, 3) := by decide +kernel
theorem dX10_reading_65 : decode cX10_reading 65 = .ok (.goto (-38), 3) := by decide +kernel
theorem dX10_reading_68 : decode cX10_reading 68 = .ok (.iconst 0, 1) := by decide +kernel
theorem dX10_reading_69 : decode cX10_reading 69 = .ok (.istore 5, 2) := by decide +kernel
theorem dX10_reading_71 : decode cX10_reading 71 = .ok (.iload 5, 2) := by decide +kernel
theorem dX10_reading_73 : decode cX10_reading 73 = .ok (.iload 4, 2) := by decide +kernel
theorem dX10_reading_75 : decode cX10_reading 75 = .ok (.if_icmp .gt 52, 3) := by decide +kernel
theorem dX10_reading_78 : decode cX10_reading 78 = .ok (.iconst 0, 1) := by decide +kernel
theorem dX10_reading_79 : decode cX10_reading 79 = .ok (.istore 6, 2) := by decide +kernel
theorem dX10_reading_81 : decode cX10_reading 81 = .ok (.iload 6, 2) := by decide +kernel
theorem dX10_reading_83 : decode cX10_reading 83 = .ok (.aload_n 0, 1) := by decide +kernel
theorem dX10_reading_84 : decode cX10_reading 84 = .ok (.getfield 192, 3) := by decide +kernel
theorem dX10_reading_87 : decode cX10_reading 87 = .ok (.if_icmp .ge 34, 3) := by decide +kernel
theorem dX10_reading_90 : decode cX10_reading 90 = .ok (.aload_n 0, 1) := by decide +kernel
theorem dX10_reading_91 : decode cX10_reading 91 = .ok (.getfield 111, 3) := by decide +kernel
theorem dX10_reading_94 : decode cX10_reading 94 = .ok (.iload 6, 2) := by decide +kernel
theorem dX10_reading_96 : decode cX10_reading 96 = .ok (.iaload, 1) := by decide +kernel
theorem dX10_reading_97 : decode cX10_reading 97 = .ok (.iload 5, 2) := by decide +kernel
theorem dX10_reading_99 : decode cX10_reading 99 = .ok (.if_icmp .eq 6, 3) := by decide +kernel
theorem dX10_reading_102 : decode cX10_reading 102 = .ok (.goto 13, 3) := by decide +kernel
theorem dX10_reading_105 : decode cX10_reading 105 = .ok (.iload_n 3, 1) := by decide +kernel
theorem dX10_reading_106 : decode cX10_reading 106 = .ok (.ifCond .ne 6, 3) := by decide +kernel
theorem dX10_reading_109 : decode cX10_reading 109 = .ok (.iload 6, 2) := by decide +kernel
theorem dX10_reading_111 : decode cX10_reading 111 = .ok (.ireturn, 1) := by decide +kernel
theorem dX10_reading_112 : decode cX10_reading 112 = .ok (.iinc 3 (-1), 3) := by decide +kernel
theorem dX10_reading_115 : decode cX10_reading 115 = .ok (.iinc 6 1, 3) := by decide +kernel
theorem dX10_reading_118 : decode cX10_reading 118 = .ok (.goto (-37), 3) := by decide +kernel
theorem dX10_reading_121 : decode cX10_reading 121 = .ok (.iinc 5 1, 3) := by decide +kernel
theorem dX10_reading_124 : decode cX10_reading 124 = .ok (.goto (-53), 3) := by decide +kernel
theorem dX10_reading_127 : decode cX10_reading 127 = .ok (.iconst (-1), 1) := by decide +kernel
theorem dX10_reading_128 : decode cX10_reading 128 = .ok (.ireturn, 1) := by decide +kernel
theorem dX10_isName_0 : decode cX10_isName 0 = .ok (.iload_n 1, 1) := by decide +kernel
theorem dX10_isName_1 : decode cX10_isName 1 = .ok (.ifCond .lt 15, 3) := by decide +kernel
theorem dX10_isName_4 : decode cX10_isName 4 = .ok (.iload_n 1, 1) := by decide +kernel
theorem dX10_isName_5 : decode cX10_isName 5 = .ok (.aload_n 0, 1) := by decide +kernel
theorem dX10_isName_6 : decode cX10_isName 6 = .ok (.getfield 189, 3) := by decide +kernel
theorem dX10_isName_9 : decode cX10_isName 9 = .ok (.if_icmp .ge 7, 3) := by decide +kernel
theorem dX10_isName_12 : decode cX10_isName 12 = .ok (.iconst 1, 1) := by decide +kernel
theorem dX10_isName_13 : decode cX10_isName 13 = .ok (.goto 4, 3) := by decide +kernel
theorem dX10_isName_16 : decode cX10_isName 16 = .ok (.iconst 0, 1) := by decide +kernel
theorem dX10_isName_17 : decode cX10_isName 17 = .ok (.ireturn, 1) := by decide +kernel
theorem dX10_readings_0 : decode cX10_readings 0 = .ok (.aload_n 0, 1) := by decide +kernel
theorem dX10_readings_1 : decode cX10_readings 1 = .ok (.iconst 0, 1) := by decide +kernel
theorem dX10_readings_2 : decode cX10_readings 2 = .ok (.putfield 126, 3) := by decide +kernel
theorem dX10_readings_5 : decode cX10_readings 5 = .ok (.aload_n 0, 1) := by decide +kernel
theorem dX10_readings_6 : decode cX10_readings 6 = .ok (.iload_n 1, 1) := by decide +kernel
theorem dX10_readings_7 : decode cX10_readings 7 = .ok (.invokevirtual 210, 3) := by decide +kernel
theorem dX10_readings_10 : decode cX10_readings 10 = .ok (.ifCond .eq 7, 3) := by decide +kernel
theorem dX10_readings_13 : decode cX10_readings 13 = .ok (.iload_n 2, 1) := by decide +kernel
theorem dX10_readings_14 : decode cX10_readings 14 = .ok (.ifCond .ge 5, 3) := by decide +kernel
theorem dX10_readings_17 : decode cX10_readings 17 = .ok (.iconst (-1), 1) := by decide +kernel
theorem dX10_readings_18 : decode cX10_readings 18 = .ok (.ireturn, 1) := by decide +kernel
theorem dX10_readings_19 : decode cX10_readings 19 = .ok (.aload_n 0, 1) := by decide +kernel
theorem dX10_readings_20 : decode cX10_readings 20 = .ok (.iload_n 1, 1) := by decide +kernel
theorem dX10_readings_21 : decode cX10_readings 21 = .ok (.invokevirtual 206, 3) := by decide +kernel
theorem dX10_readings_24 : decode cX10_readings 24 = .ok (.iconst 0, 1) := by decide +kernel
theorem dX10_readings_25 : decode cX10_readings 25 = .ok (.istore_n 3, 1) := by decide +kernel
theorem dX10_readings_26 : decode cX10_readings 26 = .ok (.iconst 0, 1) := by decide +kernel
theorem dX10_readings_27 : decode cX10_readings 27 = .ok (.istore 4, 2) := by decide +kernel
theorem dX10_readings_29 : decode cX10_readings 29 = .ok (.iload 4, 2) := by decide +kernel
theorem dX10_readings_31 : decode cX10_readings 31 = .ok (.aload_n 0, 1) := by decide +kernel
theorem dX10_readings_32 : decode cX10_readings 32 = .ok (.getfield 192, 3) := by decide +kernel
theorem dX10_readings_35 : decode cX10_readings 35 = .ok (.if_icmp .ge 28, 3) := by decide +kernel
theorem dX10_readings_38 : decode cX10_readings 38 = .ok (.iload_n 3, 1) := by decide +kernel
theorem dX10_readings_39 : decode cX10_readings 39 = .ok (.aload_n 0, 1) := by decide +kernel
theorem dX10_readings_40 : decode cX10_readings 40 = .ok (.getfield 111, 3) := by decide +kernel
theorem dX10_readings_43 : decode cX10_readings 43 = .ok (.iload 4, 2) := by decide +kernel
theorem dX10_readings_45 : decode cX10_readings 45 = .ok (.iaload, 1) := by decide +kernel
theorem dX10_readings_46 : decode cX10_readings 46 = .ok (.iload_n 2, 1) := by decide +kernel
theorem dX10_readings_47 : decode cX10_readings 47 = .ok (.if_icmp .gt 7, 3) := by decide +kernel
theorem dX10_readings_50 : decode cX10_readings 50 = .ok (.iconst 1, 1) := by decide +kernel
theorem dX10_readings_51 : decode cX10_readings 51 = .ok (.goto 4, 3) := by decide +kernel
theorem dX10_readings_54 : decode cX10_readings 54 = .ok (.iconst 0, 1) := by decide +kernel
theorem dX10_readings_55 : decode cX10_readings 55 = .ok (.iadd, 1) := by decide +kernel
theorem dX10_readings_56 : decode cX10_readings 56 = .ok (.istore_n 3, 1) := by decide +kernel
theorem dX10_readings_57 : decode cX10_readings 57 = .ok (.iinc 4 1, 3) := by decide +kernel
theorem dX10_readings_60 : decode cX10_readings 60 = .ok (.goto (-31), 3) := by decide +kernel
theorem dX10_readings_63 : decode cX10_readings 63 = .ok (.iload_n 3, 1) := by decide +kernel
theorem dX10_readings_64 : decode cX10_readings 64 = .ok (.ireturn, 1) := by decide +kernel
theorem dX10_cost_0 : decode cX10_cost 0 = .ok (.aload_n 0, 1) := by decide +kernel
theorem dX10_cost_1 : decode cX10_cost 1 = .ok (.iconst 0, 1) := by decide +kernel
theorem dX10_cost_2 : decode cX10_cost 2 = .ok (.putfield 126, 3) := by decide +kernel
theorem dX10_cost_5 : decode cX10_cost 5 = .ok (.aload_n 0, 1) := by decide +kernel
theorem dX10_cost_6 : decode cX10_cost 6 = .ok (.iload_n 1, 1) := by decide +kernel
theorem dX10_cost_7 : decode cX10_cost 7 = .ok (.invokevirtual 210, 3) := by decide +kernel
theorem dX10_cost_10 : decode cX10_cost 10 = .ok (.ifCond .eq 12, 3) := by decide +kernel
theorem dX10_cost_13 : decode cX10_cost 13 = .ok (.aload_n 0, 1) := by decide +kernel
theorem dX10_cost_14 : decode cX10_cost 14 = .ok (.iload_n 1, 1) := by decide +kernel
theorem dX10_cost_15 : decode cX10_cost 15 = .ok (.iload_n 2, 1) := by decide +kernel
theorem dX10_cost_16 : decode cX10_cost 16 = .ok (.invokevirtual 213, 3) := by decide +kernel
theorem dX10_cost_19 : decode cX10_cost 19 = .ok (.goto 4, 3) := by decide +kernel
theorem dX10_cost_22 : decode cX10_cost 22 = .ok (.iconst (-1), 1) := by decide +kernel
theorem dX10_cost_23 : decode cX10_cost 23 = .ok (.istore_n 3, 1) := by decide +kernel
theorem dX10_cost_24 : decode cX10_cost 24 = .ok (.iload_n 3, 1) := by decide +kernel
theorem dX10_cost_25 : decode cX10_cost 25 = .ok (.ifCond .ge 7, 3) := by decide +kernel
theorem dX10_cost_28 : decode cX10_cost 28 = .ok (.iconst (-1), 1) := by decide +kernel
theorem dX10_cost_29 : decode cX10_cost 29 = .ok (.goto 9, 3) := by decide +kernel
theorem dX10_cost_32 : decode cX10_cost 32 = .ok (.aload_n 0, 1) := by decide +kernel
theorem dX10_cost_33 : decode cX10_cost 33 = .ok (.getfield 111, 3) := by decide +kernel
theorem dX10_cost_36 : decode cX10_cost 36 = .ok (.iload_n 3, 1) := by decide +kernel
theorem dX10_cost_37 : decode cX10_cost 37 = .ok (.iaload, 1) := by decide +kernel
theorem dX10_cost_38 : decode cX10_cost 38 = .ok (.ireturn, 1) := by decide +kernel
theorem dX10_kindIn_0 : decode cX10_kindIn 0 = .ok (.aload_n 0, 1) := by decide +kernel
theorem dX10_kindIn_1 : decode cX10_kindIn 1 = .ok (.getfield 108, 3) := by decide +kernel
theorem dX10_kindIn_4 : decode cX10_kindIn 4 = .ok (.iload_n 2, 1) := by decide +kernel
theorem dX10_kindIn_5 : decode cX10_kindIn 5 = .ok (.iaload, 1) := by decide +kernel
theorem dX10_kindIn_6 : decode cX10_kindIn 6 = .ok (.iconst 3, 1) := by decide +kernel
theorem dX10_kindIn_7 : decode cX10_kindIn 7 = .ok (.aload_n 0, 1) := by decide +kernel
theorem dX10_kindIn_8 : decode cX10_kindIn 8 = .ok (.getfield 63, 3) := by decide +kernel
theorem dX10_kindIn_11 : decode cX10_kindIn 11 = .ok (.iload_n 1, 1) := by decide +kernel
theorem dX10_kindIn_12 : decode cX10_kindIn 12 = .ok (.iaload, 1) := by decide +kernel
theorem dX10_kindIn_13 : decode cX10_kindIn 13 = .ok (.iconst 1, 1) := by decide +kernel
theorem dX10_kindIn_14 : decode cX10_kindIn 14 = .ok (.isub, 1) := by decide +kernel
theorem dX10_kindIn_15 : decode cX10_kindIn 15 = .ok (.iload_n 3, 1) := by decide +kernel
theorem dX10_kindIn_16 : decode cX10_kindIn 16 = .ok (.isub, 1) := by decide +kernel
theorem dX10_kindIn_17 : decode cX10_kindIn 17 = .ok (.imul, 1) := by decide +kernel
theorem dX10_kindIn_18 : decode cX10_kindIn 18 = .ok (.ishr, 1) := by decide +kernel
theorem dX10_kindIn_19 : decode cX10_kindIn 19 = .ok (.bipush 7, 2) := by decide +kernel
theorem dX10_kindIn_21 : decode cX10_kindIn 21 = .ok (.iand, 1) := by decide +kernel
theorem dX10_kindIn_22 : decode cX10_kindIn 22 = .ok (.ireturn, 1) := by decide +kernel
theorem dX10_kind_0 : decode cX10_kind 0 = .ok (.aload_n 0, 1) := by decide +kernel
theorem dX10_kind_1 : decode cX10_kind 1 = .ok (.iconst 0, 1) := by decide +kernel
theorem dX10_kind_2 : decode cX10_kind 2 = .ok (.putfield 126, 3) := by decide +kernel
theorem dX10_kind_5 : decode cX10_kind 5 = .ok (.aload_n 0, 1) := by decide +kernel
theorem dX10_kind_6 : decode cX10_kind 6 = .ok (.iload_n 1, 1) := by decide +kernel
theorem dX10_kind_7 : decode cX10_kind 7 = .ok (.invokevirtual 210, 3) := by decide +kernel
theorem dX10_kind_10 : decode cX10_kind 10 = .ok (.ifCond .eq 12, 3) := by decide +kernel
theorem dX10_kind_13 : decode cX10_kind 13 = .ok (.aload_n 0, 1) := by decide +kernel
theorem dX10_kind_14 : decode cX10_kind 14 = .ok (.iload_n 1, 1) := by decide +kernel
theorem dX10_kind_15 : decode cX10_kind 15 = .ok (.iload_n 2, 1) := by decide +kernel
theorem dX10_kind_16 : decode cX10_kind 16 = .ok (.invokevirtual 213, 3) := by decide +kernel
theorem dX10_kind_19 : decode cX10_kind 19 = .ok (.goto 4, 3) := by decide +kernel
theorem dX10_kind_22 : decode cX10_kind 22 = .ok (.iconst (-1), 1) := by decide +kernel
theorem dX10_kind_23 : decode cX10_kind 23 = .ok (.istore 4, 2) := by decide +kernel
theorem dX10_kind_25 : decode cX10_kind 25 = .ok (.iload 4, 2) := by decide +kernel
theorem dX10_kind_27 : decode cX10_kind 27 = .ok (.ifCond .lt 17, 3) := by decide +kernel
theorem dX10_kind_30 : decode cX10_kind 30 = .ok (.iload_n 3, 1) := by decide +kernel
theorem dX10_kind_31 : decode cX10_kind 31 = .ok (.ifCond .lt 13, 3) := by decide +kernel
theorem dX10_kind_34 : decode cX10_kind 34 = .ok (.iload_n 3, 1) := by decide +kernel
theorem dX10_kind_35 : decode cX10_kind 35 = .ok (.aload_n 0, 1) := by decide +kernel
theorem dX10_kind_36 : decode cX10_kind 36 = .ok (.getfield 63, 3) := by decide +kernel
theorem dX10_kind_39 : decode cX10_kind 39 = .ok (.iload_n 1, 1) := by decide +kernel
theorem dX10_kind_40 : decode cX10_kind 40 = .ok (.iaload, 1) := by decide +kernel
theorem dX10_kind_41 : decode cX10_kind 41 = .ok (.if_icmp .lt 7, 3) := by decide +kernel
theorem dX10_kind_44 : decode cX10_kind 44 = .ok (.iconst (-1), 1) := by decide +kernel
theorem dX10_kind_45 : decode cX10_kind 45 = .ok (.goto 11, 3) := by decide +kernel
theorem dX10_kind_48 : decode cX10_kind 48 = .ok (.aload_n 0, 1) := by decide +kernel
theorem dX10_kind_49 : decode cX10_kind 49 = .ok (.iload_n 1, 1) := by decide +kernel
theorem dX10_kind_50 : decode cX10_kind 50 = .ok (.iload 4, 2) := by decide +kernel
theorem dX10_kind_52 : decode cX10_kind 52 = .ok (.iload_n 3, 1) := by decide +kernel
theorem dX10_kind_53 : decode cX10_kind 53 = .ok (.invokevirtual 216, 3) := by decide +kernel
theorem dX10_kind_56 : decode cX10_kind 56 = .ok (.ireturn, 1) := by decide +kernel
theorem dX10_first_0 : decode cX10_first 0 = .ok (.aload_n 0, 1) := by decide +kernel
theorem dX10_first_1 : decode cX10_first 1 = .ok (.iload_n 1, 1) := by decide +kernel
theorem dX10_first_2 : decode cX10_first 2 = .ok (.iconst 0, 1) := by decide +kernel
theorem dX10_first_3 : decode cX10_first 3 = .ok (.invokevirtual 213, 3) := by decide +kernel
theorem dX10_first_6 : decode cX10_first 6 = .ok (.istore_n 2, 1) := by decide +kernel
theorem dX10_first_7 : decode cX10_first 7 = .ok (.aload_n 0, 1) := by decide +kernel
theorem dX10_first_8 : decode cX10_first 8 = .ok (.getfield 117, 3) := by decide +kernel
theorem dX10_first_11 : decode cX10_first 11 = .ok (.iload_n 1, 1) := by decide +kernel
theorem dX10_first_12 : decode cX10_first 12 = .ok (.iload_n 2, 1) := by decide +kernel
theorem dX10_first_13 : decode cX10_first 13 = .ok (.ifCond .lt 7, 3) := by decide +kernel
theorem dX10_first_16 : decode cX10_first 16 = .ok (.iconst 1, 1) := by decide +kernel
theorem dX10_first_17 : decode cX10_first 17 = .ok (.goto 4, 3) := by decide +kernel
theorem dX10_first_20 : decode cX10_first 20 = .ok (.iconst 0, 1) := by decide +kernel
theorem dX10_first_21 : decode cX10_first 21 = .ok (.bastore, 1) := by decide +kernel
theorem dX10_first_22 : decode cX10_first 22 = .ok (.iconst 0, 1) := by decide +kernel
theorem dX10_first_23 : decode cX10_first 23 = .ok (.istore_n 3, 1) := by decide +kernel
theorem dX10_first_24 : decode cX10_first 24 = .ok (.iload_n 3, 1) := by decide +kernel
theorem dX10_first_25 : decode cX10_first 25 = .ok (.aload_n 0, 1) := by decide +kernel
theorem dX10_first_26 : decode cX10_first 26 = .ok (.getfield 63, 3) := by decide +kernel
theorem dX10_first_29 : decode cX10_first 29 = .ok (.iload_n 1, 1) := by decide +kernel
theorem dX10_first_30 : decode cX10_first 30 = .ok (.iaload, 1) := by decide +kernel
theorem dX10_first_31 : decode cX10_first 31 = .ok (.if_icmp .ge 31, 3) := by decide +kernel
theorem dX10_first_34 : decode cX10_first 34 = .ok (.iload_n 2, 1) := by decide +kernel
theorem dX10_first_35 : decode cX10_first 35 = .ok (.ifCond .lt 27, 3) := by decide +kernel
theorem dX10_first_38 : decode cX10_first 38 = .ok (.aload_n 0, 1) := by decide +kernel
theorem dX10_first_39 : decode cX10_first 39 = .ok (.getfield 114, 3) := by decide +kernel
theorem dX10_first_42 : decode cX10_first 42 = .ok (.bipush 8, 2) := by decide +kernel
theorem dX10_first_44 : decode cX10_first 44 = .ok (.iload_n 1, 1) := by decide +kernel
theorem dX10_first_45 : decode cX10_first 45 = .ok (.imul, 1) := by decide +kernel
theorem dX10_first_46 : decode cX10_first 46 = .ok (.iload_n 3, 1) := by decide +kernel
theorem dX10_first_47 : decode cX10_first 47 = .ok (.iadd, 1) := by decide +kernel
theorem dX10_first_48 : decode cX10_first 48 = .ok (.aload_n 0, 1) := by decide +kernel
theorem dX10_first_49 : decode cX10_first 49 = .ok (.iload_n 1, 1) := by decide +kernel
theorem dX10_first_50 : decode cX10_first 50 = .ok (.iload_n 2, 1) := by decide +kernel
theorem dX10_first_51 : decode cX10_first 51 = .ok (.iload_n 3, 1) := by decide +kernel
theorem dX10_first_52 : decode cX10_first 52 = .ok (.invokevirtual 216, 3) := by decide +kernel
theorem dX10_first_55 : decode cX10_first 55 = .ok (.iastore, 1) := by decide +kernel
theorem dX10_first_56 : decode cX10_first 56 = .ok (.iinc 3 1, 3) := by decide +kernel
theorem dX10_first_59 : decode cX10_first 59 = .ok (.goto (-35), 3) := by decide +kernel
theorem dX10_first_62 : decode cX10_first 62 = .ok (.return_, 1) := by decide +kernel
theorem dX10_firstAll_0 : decode cX10_firstAll 0 = .ok (.iconst 0, 1) := by decide +kernel
theorem dX10_firstAll_1 : decode cX10_firstAll 1 = .ok (.istore_n 1, 1) := by decide +kernel
theorem dX10_firstAll_2 : decode cX10_firstAll 2 = .ok (.iload_n 1, 1) := by decide +kernel
theorem dX10_firstAll_3 : decode cX10_firstAll 3 = .ok (.aload_n 0, 1) := by decide +kernel
theorem dX10_firstAll_4 : decode cX10_firstAll 4 = .ok (.getfield 189, 3) := by decide +kernel
theorem dX10_firstAll_7 : decode cX10_firstAll 7 = .ok (.if_icmp .ge 14, 3) := by decide +kernel
theorem dX10_firstAll_10 : decode cX10_firstAll 10 = .ok (.aload_n 0, 1) := by decide +kernel
theorem dX10_firstAll_11 : decode cX10_firstAll 11 = .ok (.iload_n 1, 1) := by decide +kernel
theorem dX10_firstAll_12 : decode cX10_firstAll 12 = .ok (.invokevirtual 219, 3) := by decide +kernel
theorem dX10_firstAll_15 : decode cX10_firstAll 15 = .ok (.iinc 1 1, 3) := by decide +kernel
theorem dX10_firstAll_18 : decode cX10_firstAll 18 = .ok (.goto (-16), 3) := by decide +kernel
theorem dX10_firstAll_21 : decode cX10_firstAll 21 = .ok (.return_, 1) := by decide +kernel
theorem dX10_pick_0 : decode cX10_pick 0 = .ok (.aload_n 0, 1) := by decide +kernel
theorem dX10_pick_1 : decode cX10_pick 1 = .ok (.getfield 123, 3) := by decide +kernel
theorem dX10_pick_4 : decode cX10_pick 4 = .ok (.iload_n 1, 1) := by decide +kernel
theorem dX10_pick_5 : decode cX10_pick 5 = .ok (.iconst 0, 1) := by decide +kernel
theorem dX10_pick_6 : decode cX10_pick 6 = .ok (.iastore, 1) := by decide +kernel
theorem dX10_pick_7 : decode cX10_pick 7 = .ok (.aload_n 0, 1) := by decide +kernel
theorem dX10_pick_8 : decode cX10_pick 8 = .ok (.getfield 117, 3) := by decide +kernel
theorem dX10_pick_11 : decode cX10_pick 11 = .ok (.iload_n 1, 1) := by decide +kernel
theorem dX10_pick_12 : decode cX10_pick 12 = .ok (.baload, 1) := by decide +kernel
theorem dX10_pick_13 : decode cX10_pick 13 = .ok (.ifCond .ne 4, 3) := by decide +kernel
theorem dX10_pick_16 : decode cX10_pick 16 = .ok (.return_, 1) := by decide +kernel
theorem dX10_pick_17 : decode cX10_pick 17 = .ok (.aload_n 0, 1) := by decide +kernel
theorem dX10_pick_18 : decode cX10_pick 18 = .ok (.getfield 60, 3) := by decide +kernel
theorem dX10_pick_21 : decode cX10_pick 21 = .ok (.iload_n 1, 1) := by decide +kernel
theorem dX10_pick_22 : decode cX10_pick 22 = .ok (.iaload, 1) := by decide +kernel
theorem dX10_pick_23 : decode cX10_pick 23 = .ok (.istore_n 3, 1) := by decide +kernel
theorem dX10_pick_24 : decode cX10_pick 24 = .ok (.iload_n 2, 1) := by decide +kernel
theorem dX10_pick_25 : decode cX10_pick 25 = .ok (.ifCond .eq 12, 3) := by decide +kernel
theorem dX10_pick_28 : decode cX10_pick 28 = .ok (.aload_n 0, 1) := by decide +kernel
theorem dX10_pick_29 : decode cX10_pick 29 = .ok (.getfield 38, 3) := by decide +kernel
theorem dX10_pick_32 : decode cX10_pick 32 = .ok (.iload_n 3, 1) := by decide +kernel
theorem dX10_pick_33 : decode cX10_pick 33 = .ok (.iaload, 1) := by decide +kernel
theorem dX10_pick_34 : decode cX10_pick 34 = .ok (.goto 9, 3) := by decide +kernel
theorem dX10_pick_37 : decode cX10_pick 37 = .ok (.aload_n 0, 1) := by decide +kernel
theorem dX10_pick_38 : decode cX10_pick 38 = .ok (.getfield 44, 3) := by decide +kernel
theorem dX10_pick_41 : decode cX10_pick 41 = .ok (.iload_n 3, 1) := by decide +kernel
theorem dX10_pick_42 : decode cX10_pick 42 = .ok (.iaload, 1) := by decide +kernel
theorem dX10_pick_43 : decode cX10_pick 43 = .ok (.istore 4, 2) := by decide +kernel
theorem dX10_pick_45 : decode cX10_pick 45 = .ok (.iconst 0, 1) := by decide +kernel
theorem dX10_pick_46 : decode cX10_pick 46 = .ok (.istore 5, 2) := by decide +kernel
theorem dX10_pick_48 : decode cX10_pick 48 = .ok (.iload 5, 2) := by decide +kernel
theorem dX10_pick_50 : decode cX10_pick 50 = .ok (.iload 4, 2) := by decide +kernel
theorem dX10_pick_52 : decode cX10_pick 52 = .ok (.if_icmp .ge 115, 3) := by decide +kernel
theorem dX10_pick_55 : decode cX10_pick 55 = .ok (.iload_n 2, 1) := by decide +kernel
theorem dX10_pick_56 : decode cX10_pick 56 = .ok (.ifCond .eq 18, 3) := by decide +kernel
theorem dX10_pick_59 : decode cX10_pick 59 = .ok (.aload_n 0, 1) := by decide +kernel
theorem dX10_pick_60 : decode cX10_pick 60 = .ok (.getfield 41, 3) := by decide +kernel
theorem dX10_pick_63 : decode cX10_pick 63 = .ok (.bipush 7, 2) := by decide +kernel
theorem dX10_pick_65 : decode cX10_pick 65 = .ok (.iload_n 3, 1) := by decide +kernel
theorem dX10_pick_66 : decode cX10_pick 66 = .ok (.imul, 1) := by decide +kernel
theorem dX10_pick_67 : decode cX10_pick 67 = .ok (.iload 5, 2) := by decide +kernel
theorem dX10_pick_69 : decode cX10_pick 69 = .ok (.iadd, 1) := by decide +kernel
theorem dX10_pick_70 : decode cX10_pick 70 = .ok (.iaload, 1) := by decide +kernel
theorem dX10_pick_71 : decode cX10_pick 71 = .ok (.goto 15, 3) := by decide +kernel
theorem dX10_pick_74 : decode cX10_pick 74 = .ok (.aload_n 0, 1) := by decide +kernel
theorem dX10_pick_75 : decode cX10_pick 75 = .ok (.getfield 47, 3) := by decide +kernel
theorem dX10_pick_78 : decode cX10_pick 78 = .ok (.bipush 7, 2) := by decide +kernel
theorem dX10_pick_80 : decode cX10_pick 80 = .ok (.iload_n 3, 1) := by decide +kernel
theorem dX10_pick_81 : decode cX10_pick 81 = .ok (.imul, 1) := by decide +kernel
theorem dX10_pick_82 : decode cX10_pick 82 = .ok (.iload 5, 2) := by decide +kernel
theorem dX10_pick_84 : decode cX10_pick 84 = .ok (.iadd, 1) := by decide +kernel
theorem dX10_pick_85 : decode cX10_pick 85 = .ok (.iaload, 1) := by decide +kernel
theorem dX10_pick_86 : decode cX10_pick 86 = .ok (.istore 6, 2) := by decide +kernel
theorem dX10_pick_88 : decode cX10_pick 88 = .ok (.iconst 0, 1) := by decide +kernel
theorem dX10_pick_89 : decode cX10_pick 89 = .ok (.istore 7, 2) := by decide +kernel
theorem dX10_pick_91 : decode cX10_pick 91 = .ok (.iload 7, 2) := by decide +kernel
theorem dX10_pick_93 : decode cX10_pick 93 = .ok (.aload_n 0, 1) := by decide +kernel
theorem dX10_pick_94 : decode cX10_pick 94 = .ok (.getfield 63, 3) := by decide +kernel
theorem dX10_pick_97 : decode cX10_pick 97 = .ok (.iload_n 1, 1) := by decide +kernel
theorem dX10_pick_98 : decode cX10_pick 98 = .ok (.iaload, 1) := by decide +kernel
theorem dX10_pick_99 : decode cX10_pick 99 = .ok (.if_icmp .ge 62, 3) := by decide +kernel
theorem dX10_pick_102 : decode cX10_pick 102 = .ok (.aload_n 0, 1) := by decide +kernel
theorem dX10_pick_103 : decode cX10_pick 103 = .ok (.getfield 114, 3) := by decide +kernel
theorem dX10_pick_106 : decode cX10_pick 106 = .ok (.bipush 8, 2) := by decide +kernel
theorem dX10_pick_108 : decode cX10_pick 108 = .ok (.iload_n 1, 1) := by decide +kernel
theorem dX10_pick_109 : decode cX10_pick 109 = .ok (.imul, 1) := by decide +kernel
theorem dX10_pick_110 : decode cX10_pick 110 = .ok (.iload 7, 2) := by decide +kernel
theorem dX10_pick_112 : decode cX10_pick 112 = .ok (.iadd, 1) := by decide +kernel
theorem dX10_pick_113 : decode cX10_pick 113 = .ok (.iaload, 1) := by decide +kernel
theorem dX10_pick_114 : decode cX10_pick 114 = .ok (.iload 6, 2) := by decide +kernel
theorem dX10_pick_116 : decode cX10_pick 116 = .ok (.if_icmp .eq 6, 3) := by decide +kernel
theorem dX10_pick_119 : decode cX10_pick 119 = .ok (.goto 36, 3) := by decide +kernel
theorem dX10_pick_122 : decode cX10_pick 122 = .ok (.aload_n 0, 1) := by decide +kernel
theorem dX10_pick_123 : decode cX10_pick 123 = .ok (.getfield 120, 3) := by decide +kernel
theorem dX10_pick_126 : decode cX10_pick 126 = .ok (.bipush 8, 2) := by decide +kernel
theorem dX10_pick_128 : decode cX10_pick 128 = .ok (.iload_n 1, 1) := by decide +kernel
theorem dX10_pick_129 : decode cX10_pick 129 = .ok (.imul, 1) := by decide +kernel
theorem dX10_pick_130 : decode cX10_pick 130 = .ok (.aload_n 0, 1) := by decide +kernel
theorem dX10_pick_131 : decode cX10_pick 131 = .ok (.getfield 123, 3) := by decide +kernel
theorem dX10_pick_134 : decode cX10_pick 134 = .ok (.iload_n 1, 1) := by decide +kernel
theorem dX10_pick_135 : decode cX10_pick 135 = .ok (.iaload, 1) := by decide +kernel
theorem dX10_pick_136 : decode cX10_pick 136 = .ok (.iadd, 1) := by decide +kernel
theorem dX10_pick_137 : decode cX10_pick 137 = .ok (.bipush 8, 2) := by decide +kernel
theorem dX10_pick_139 : decode cX10_pick 139 = .ok (.iload_n 1, 1) := by decide +kernel
theorem dX10_pick_140 : decode cX10_pick 140 = .ok (.imul, 1) := by decide +kernel
theorem dX10_pick_141 : decode cX10_pick 141 = .ok (.iload 7, 2) := by decide +kernel
theorem dX10_pick_143 : decode cX10_pick 143 = .ok (.iadd, 1) := by decide +kernel
theorem dX10_pick_144 : decode cX10_pick 144 = .ok (.iastore, 1) := by decide +kernel
theorem dX10_pick_145 : decode cX10_pick 145 = .ok (.aload_n 0, 1) := by decide +kernel
theorem dX10_pick_146 : decode cX10_pick 146 = .ok (.getfield 123, 3) := by decide +kernel
theorem dX10_pick_149 : decode cX10_pick 149 = .ok (.iload_n 1, 1) := by decide +kernel
theorem dX10_pick_150 : decode cX10_pick 150 = .ok (.dup2, 1) := by decide +kernel
theorem dX10_pick_151 : decode cX10_pick 151 = .ok (.iaload, 1) := by decide +kernel
theorem dX10_pick_152 : decode cX10_pick 152 = .ok (.iconst 1, 1) := by decide +kernel
theorem dX10_pick_153 : decode cX10_pick 153 = .ok (.iadd, 1) := by decide +kernel
theorem dX10_pick_154 : decode cX10_pick 154 = .ok (.iastore, 1) := by decide +kernel
theorem dX10_pick_155 : decode cX10_pick 155 = .ok (.iinc 7 1, 3) := by decide +kernel
theorem dX10_pick_158 : decode cX10_pick 158 = .ok (.goto (-67), 3) := by decide +kernel
theorem dX10_pick_161 : decode cX10_pick 161 = .ok (.iinc 5 1, 3) := by decide +kernel
theorem dX10_pick_164 : decode cX10_pick 164 = .ok (.goto (-116), 3) := by decide +kernel
theorem dX10_pick_167 : decode cX10_pick 167 = .ok (.return_, 1) := by decide +kernel
theorem dX10_compare_0 : decode cX10_compare 0 = .ok (.iconst 0, 1) := by decide +kernel
theorem dX10_compare_1 : decode cX10_compare 1 = .ok (.istore_n 3, 1) := by decide +kernel
theorem dX10_compare_2 : decode cX10_compare 2 = .ok (.iload_n 3, 1) := by decide +kernel
theorem dX10_compare_3 : decode cX10_compare 3 = .ok (.aload_n 0, 1) := by decide +kernel
theorem dX10_compare_4 : decode cX10_compare 4 = .ok (.getfield 75, 3) := by decide +kernel
theorem dX10_compare_7 : decode cX10_compare 7 = .ok (.iload_n 1, 1) := by decide +kernel
theorem dX10_compare_8 : decode cX10_compare 8 = .ok (.iaload, 1) := by decide +kernel
theorem dX10_compare_9 : decode cX10_compare 9 = .ok (.if_icmp .ge 68, 3) := by decide +kernel
theorem dX10_compare_12 : decode cX10_compare 12 = .ok (.iload_n 3, 1) := by decide +kernel
theorem dX10_compare_13 : decode cX10_compare 13 = .ok (.aload_n 0, 1) := by decide +kernel
theorem dX10_compare_14 : decode cX10_compare 14 = .ok (.getfield 75, 3) := by decide +kernel
theorem dX10_compare_17 : decode cX10_compare 17 = .ok (.iload_n 2, 1) := by decide +kernel
theorem dX10_compare_18 : decode cX10_compare 18 = .ok (.iaload, 1) := by decide +kernel
theorem dX10_compare_19 : decode cX10_compare 19 = .ok (.if_icmp .ge 58, 3) := by decide +kernel
theorem dX10_compare_22 : decode cX10_compare 22 = .ok (.aload_n 0, 1) := by decide +kernel
theorem dX10_compare_23 : decode cX10_compare 23 = .ok (.getfield 72, 3) := by decide +kernel
theorem dX10_compare_26 : decode cX10_compare 26 = .ok (.bipush 21, 2) := by decide +kernel
theorem dX10_compare_28 : decode cX10_compare 28 = .ok (.iload_n 1, 1) := by decide +kernel
theorem dX10_compare_29 : decode cX10_compare 29 = .ok (.imul, 1) := by decide +kernel
theorem dX10_compare_30 : decode cX10_compare 30 = .ok (.iload_n 3, 1) := by decide +kernel
theorem dX10_compare_31 : decode cX10_compare 31 = .ok (.iadd, 1) := by decide +kernel
theorem dX10_compare_32 : decode cX10_compare 32 = .ok (.iaload, 1) := by decide +kernel
theorem dX10_compare_33 : decode cX10_compare 33 = .ok (.aload_n 0, 1) := by decide +kernel
theorem dX10_compare_34 : decode cX10_compare 34 = .ok (.getfield 72, 3) := by decide +kernel
theorem dX10_compare_37 : decode cX10_compare 37 = .ok (.bipush 21, 2) := by decide +kernel
theorem dX10_compare_39 : decode cX10_compare 39 = .ok (.iload_n 2, 1) := by decide +kernel
theorem dX10_compare_40 : decode cX10_compare 40 = .ok (.imul, 1) := by decide +kernel
theorem dX10_compare_41 : decode cX10_compare 41 = .ok (.iload_n 3, 1) := by decide +kernel
theorem dX10_compare_42 : decode cX10_compare 42 = .ok (.iadd, 1) := by decide +kernel
theorem dX10_compare_43 : decode cX10_compare 43 = .ok (.iaload, 1) := by decide +kernel
theorem dX10_compare_44 : decode cX10_compare 44 = .ok (.if_icmp .eq 27, 3) := by decide +kernel
theorem dX10_compare_47 : decode cX10_compare 47 = .ok (.aload_n 0, 1) := by decide +kernel
theorem dX10_compare_48 : decode cX10_compare 48 = .ok (.getfield 72, 3) := by decide +kernel
theorem dX10_compare_51 : decode cX10_compare 51 = .ok (.bipush 21, 2) := by decide +kernel
theorem dX10_compare_53 : decode cX10_compare 53 = .ok (.iload_n 1, 1) := by decide +kernel
theorem dX10_compare_54 : decode cX10_compare 54 = .ok (.imul, 1) := by decide +kernel
theorem dX10_compare_55 : decode cX10_compare 55 = .ok (.iload_n 3, 1) := by decide +kernel
theorem dX10_compare_56 : decode cX10_compare 56 = .ok (.iadd, 1) := by decide +kernel
theorem dX10_compare_57 : decode cX10_compare 57 = .ok (.iaload, 1) := by decide +kernel
theorem dX10_compare_58 : decode cX10_compare 58 = .ok (.aload_n 0, 1) := by decide +kernel
theorem dX10_compare_59 : decode cX10_compare 59 = .ok (.getfield 72, 3) := by decide +kernel
theorem dX10_compare_62 : decode cX10_compare 62 = .ok (.bipush 21, 2) := by decide +kernel
theorem dX10_compare_64 : decode cX10_compare 64 = .ok (.iload_n 2, 1) := by decide +kernel
theorem dX10_compare_65 : decode cX10_compare 65 = .ok (.imul, 1) := by decide +kernel
theorem dX10_compare_66 : decode cX10_compare 66 = .ok (.iload_n 3, 1) := by decide +kernel
theorem dX10_compare_67 : decode cX10_compare 67 = .ok (.iadd, 1) := by decide +kernel
theorem dX10_compare_68 : decode cX10_compare 68 = .ok (.iaload, 1) := by decide +kernel
theorem dX10_compare_69 : decode cX10_compare 69 = .ok (.isub, 1) := by decide +kernel
theorem dX10_compare_70 : decode cX10_compare 70 = .ok (.ireturn, 1) := by decide +kernel
theorem dX10_compare_71 : decode cX10_compare 71 = .ok (.iinc 3 1, 3) := by decide +kernel
theorem dX10_compare_74 : decode cX10_compare 74 = .ok (.goto (-72), 3) := by decide +kernel
theorem dX10_compare_77 : decode cX10_compare 77 = .ok (.aload_n 0, 1) := by decide +kernel
theorem dX10_compare_78 : decode cX10_compare 78 = .ok (.getfield 75, 3) := by decide +kernel
theorem dX10_compare_81 : decode cX10_compare 81 = .ok (.iload_n 1, 1) := by decide +kernel
theorem dX10_compare_82 : decode cX10_compare 82 = .ok (.iaload, 1) := by decide +kernel
theorem dX10_compare_83 : decode cX10_compare 83 = .ok (.aload_n 0, 1) := by decide +kernel
theorem dX10_compare_84 : decode cX10_compare 84 = .ok (.getfield 75, 3) := by decide +kernel
theorem dX10_compare_87 : decode cX10_compare 87 = .ok (.iload_n 2, 1) := by decide +kernel
theorem dX10_compare_88 : decode cX10_compare 88 = .ok (.iaload, 1) := by decide +kernel
theorem dX10_compare_89 : decode cX10_compare 89 = .ok (.isub, 1) := by decide +kernel
theorem dX10_compare_90 : decode cX10_compare 90 = .ok (.ireturn, 1) := by decide +kernel
theorem dX10_ahead_0 : decode cX10_ahead 0 = .ok (.aload_n 0, 1) := by decide +kernel
theorem dX10_ahead_1 : decode cX10_ahead 1 = .ok (.getfield 117, 3) := by decide +kernel
theorem dX10_ahead_4 : decode cX10_ahead 4 = .ok (.iload_n 1, 1) := by decide +kernel
theorem dX10_ahead_5 : decode cX10_ahead 5 = .ok (.baload, 1) := by decide +kernel
theorem dX10_ahead_6 : decode cX10_ahead 6 = .ok (.aload_n 0, 1) := by decide +kernel
theorem dX10_ahead_7 : decode cX10_ahead 7 = .ok (.getfield 117, 3) := by decide +kernel
theorem dX10_ahead_10 : decode cX10_ahead 10 = .ok (.iload_n 2, 1) := by decide +kernel
theorem dX10_ahead_11 : decode cX10_ahead 11 = .ok (.baload, 1) := by decide +kernel
theorem dX10_ahead_12 : decode cX10_ahead 12 = .ok (.if_icmp .eq 10, 3) := by decide +kernel
theorem dX10_ahead_15 : decode cX10_ahead 15 = .ok (.aload_n 0, 1) := by decide +kernel
theorem dX10_ahead_16 : decode cX10_ahead 16 = .ok (.getfield 117, 3) := by decide +kernel
theorem dX10_ahead_19 : decode cX10_ahead 19 = .ok (.iload_n 1, 1) := by decide +kernel
theorem dX10_ahead_20 : decode cX10_ahead 20 = .ok (.baload, 1) := by decide +kernel
theorem dX10_ahead_21 : decode cX10_ahead 21 = .ok (.ireturn, 1) := by decide +kernel
theorem dX10_ahead_22 : decode cX10_ahead 22 = .ok (.aload_n 0, 1) := by decide +kernel
theorem dX10_ahead_23 : decode cX10_ahead 23 = .ok (.getfield 117, 3) := by decide +kernel
theorem dX10_ahead_26 : decode cX10_ahead 26 = .ok (.iload_n 1, 1) := by decide +kernel
theorem dX10_ahead_27 : decode cX10_ahead 27 = .ok (.baload, 1) := by decide +kernel
theorem dX10_ahead_28 : decode cX10_ahead 28 = .ok (.ifCond .ne 14, 3) := by decide +kernel
theorem dX10_ahead_31 : decode cX10_ahead 31 = .ok (.iload_n 1, 1) := by decide +kernel
theorem dX10_ahead_32 : decode cX10_ahead 32 = .ok (.iload_n 2, 1) := by decide +kernel
theorem dX10_ahead_33 : decode cX10_ahead 33 = .ok (.if_icmp .ge 7, 3) := by decide +kernel
theorem dX10_ahead_36 : decode cX10_ahead 36 = .ok (.iconst 1, 1) := by decide +kernel
theorem dX10_ahead_37 : decode cX10_ahead 37 = .ok (.goto 4, 3) := by decide +kernel
theorem dX10_ahead_40 : decode cX10_ahead 40 = .ok (.iconst 0, 1) := by decide +kernel
theorem dX10_ahead_41 : decode cX10_ahead 41 = .ok (.ireturn, 1) := by decide +kernel
theorem dX10_ahead_42 : decode cX10_ahead 42 = .ok (.iconst 0, 1) := by decide +kernel
theorem dX10_ahead_43 : decode cX10_ahead 43 = .ok (.istore_n 3, 1) := by decide +kernel
theorem dX10_ahead_44 : decode cX10_ahead 44 = .ok (.iload_n 3, 1) := by decide +kernel
theorem dX10_ahead_45 : decode cX10_ahead 45 = .ok (.aload_n 0, 1) := by decide +kernel
theorem dX10_ahead_46 : decode cX10_ahead 46 = .ok (.getfield 123, 3) := by decide +kernel
theorem dX10_ahead_49 : decode cX10_ahead 49 = .ok (.iload_n 1, 1) := by decide +kernel
theorem dX10_ahead_50 : decode cX10_ahead 50 = .ok (.iaload, 1) := by decide +kernel
theorem dX10_ahead_51 : decode cX10_ahead 51 = .ok (.if_icmp .ge 63, 3) := by decide +kernel
theorem dX10_ahead_54 : decode cX10_ahead 54 = .ok (.iload_n 3, 1) := by decide +kernel
theorem dX10_ahead_55 : decode cX10_ahead 55 = .ok (.aload_n 0, 1) := by decide +kernel
theorem dX10_ahead_56 : decode cX10_ahead 56 = .ok (.getfield 123, 3) := by decide +kernel
theorem dX10_ahead_59 : decode cX10_ahead 59 = .ok (.iload_n 2, 1) := by decide +kernel
theorem dX10_ahead_60 : decode cX10_ahead 60 = .ok (.iaload, 1) := by decide +kernel
theorem dX10_ahead_61 : decode cX10_ahead 61 = .ok (.if_icmp .ge 53, 3) := by decide +kernel
theorem dX10_ahead_64 : decode cX10_ahead 64 = .ok (.aload_n 0, 1) := by decide +kernel
theorem dX10_ahead_65 : decode cX10_ahead 65 = .ok (.aload_n 0, 1) := by decide +kernel
theorem dX10_ahead_66 : decode cX10_ahead 66 = .ok (.getfield 120, 3) := by decide +kernel
theorem dX10_ahead_69 : decode cX10_ahead 69 = .ok (.bipush 8, 2) := by decide +kernel
theorem dX10_ahead_71 : decode cX10_ahead 71 = .ok (.iload_n 1, 1) := by decide +kernel
theorem dX10_ahead_72 : decode cX10_ahead 72 = .ok (.imul, 1) := by decide +kernel
theorem dX10_ahead_73 : decode cX10_ahead 73 = .ok (.iload_n 3, 1) := by decide +kernel
theorem dX10_ahead_74 : decode cX10_ahead 74 = .ok (.iadd, 1) := by decide +kernel
theorem dX10_ahead_75 : decode cX10_ahead 75 = .ok (.iaload, 1) := by decide +kernel
theorem dX10_ahead_76 : decode cX10_ahead 76 = .ok (.aload_n 0, 1) := by decide +kernel
theorem dX10_ahead_77 : decode cX10_ahead 77 = .ok (.getfield 120, 3) := by decide +kernel
theorem dX10_ahead_80 : decode cX10_ahead 80 = .ok (.bipush 8, 2) := by decide +kernel
theorem dX10_ahead_82 : decode cX10_ahead 82 = .ok (.iload_n 2, 1) := by decide +kernel
theorem dX10_ahead_83 : decode cX10_ahead 83 = .ok (.imul, 1) := by decide +kernel
theorem dX10_ahead_84 : decode cX10_ahead 84 = .ok (.iload_n 3, 1) := by decide +kernel
theorem dX10_ahead_85 : decode cX10_ahead 85 = .ok (.iadd, 1) := by decide +kernel
theorem dX10_ahead_86 : decode cX10_ahead 86 = .ok (.iaload, 1) := by decide +kernel
theorem dX10_ahead_87 : decode cX10_ahead 87 = .ok (.invokevirtual 222, 3) := by decide +kernel
theorem dX10_ahead_90 : decode cX10_ahead 90 = .ok (.istore 4, 2) := by decide +kernel
theorem dX10_ahead_92 : decode cX10_ahead 92 = .ok (.iload 4, 2) := by decide +kernel
theorem dX10_ahead_94 : decode cX10_ahead 94 = .ok (.ifCond .eq 14, 3) := by decide +kernel
theorem dX10_ahead_97 : decode cX10_ahead 97 = .ok (.iload 4, 2) := by decide +kernel
theorem dX10_ahead_99 : decode cX10_ahead 99 = .ok (.ifCond .ge 7, 3) := by decide +kernel
theorem dX10_ahead_102 : decode cX10_ahead 102 = .ok (.iconst 1, 1) := by decide +kernel
theorem dX10_ahead_103 : decode cX10_ahead 103 = .ok (.goto 4, 3) := by decide +kernel
theorem dX10_ahead_106 : decode cX10_ahead 106 = .ok (.iconst 0, 1) := by decide +kernel
theorem dX10_ahead_107 : decode cX10_ahead 107 = .ok (.ireturn, 1) := by decide +kernel
theorem dX10_ahead_108 : decode cX10_ahead 108 = .ok (.iinc 3 1, 3) := by decide +kernel
theorem dX10_ahead_111 : decode cX10_ahead 111 = .ok (.goto (-67), 3) := by decide +kernel
theorem dX10_ahead_114 : decode cX10_ahead 114 = .ok (.aload_n 0, 1) := by decide +kernel
theorem dX10_ahead_115 : decode cX10_ahead 115 = .ok (.getfield 123, 3) := by decide +kernel
theorem dX10_ahead_118 : decode cX10_ahead 118 = .ok (.iload_n 1, 1) := by decide +kernel
theorem dX10_ahead_119 : decode cX10_ahead 119 = .ok (.iaload, 1) := by decide +kernel
theorem dX10_ahead_120 : decode cX10_ahead 120 = .ok (.aload_n 0, 1) := by decide +kernel
theorem dX10_ahead_121 : decode cX10_ahead 121 = .ok (.getfield 123, 3) := by decide +kernel
theorem dX10_ahead_124 : decode cX10_ahead 124 = .ok (.iload_n 2, 1) := by decide +kernel
theorem dX10_ahead_125 : decode cX10_ahead 125 = .ok (.iaload, 1) := by decide +kernel
theorem dX10_ahead_126 : decode cX10_ahead 126 = .ok (.if_icmp .eq 26, 3) := by decide +kernel
theorem dX10_ahead_129 : decode cX10_ahead 129 = .ok (.aload_n 0, 1) := by decide +kernel
theorem dX10_ahead_130 : decode cX10_ahead 130 = .ok (.getfield 123, 3) := by decide +kernel
theorem dX10_ahead_133 : decode cX10_ahead 133 = .ok (.iload_n 1, 1) := by decide +kernel
theorem dX10_ahead_134 : decode cX10_ahead 134 = .ok (.iaload, 1) := by decide +kernel
theorem dX10_ahead_135 : decode cX10_ahead 135 = .ok (.aload_n 0, 1) := by decide +kernel
theorem dX10_ahead_136 : decode cX10_ahead 136 = .ok (.getfield 123, 3) := by decide +kernel
theorem dX10_ahead_139 : decode cX10_ahead 139 = .ok (.iload_n 2, 1) := by decide +kernel
theorem dX10_ahead_140 : decode cX10_ahead 140 = .ok (.iaload, 1) := by decide +kernel
theorem dX10_ahead_141 : decode cX10_ahead 141 = .ok (.if_icmp .ge 7, 3) := by decide +kernel
theorem dX10_ahead_144 : decode cX10_ahead 144 = .ok (.iconst 1, 1) := by decide +kernel
theorem dX10_ahead_145 : decode cX10_ahead 145 = .ok (.goto 17, 3) := by decide +kernel
theorem dX10_ahead_148 : decode cX10_ahead 148 = .ok (.iconst 0, 1) := by decide +kernel
theorem dX10_ahead_149 : decode cX10_ahead 149 = .ok (.goto 13, 3) := by decide +kernel
theorem dX10_ahead_152 : decode cX10_ahead 152 = .ok (.iload_n 1, 1) := by decide +kernel
theorem dX10_ahead_153 : decode cX10_ahead 153 = .ok (.iload_n 2, 1) := by decide +kernel
theorem dX10_ahead_154 : decode cX10_ahead 154 = .ok (.if_icmp .ge 7, 3) := by decide +kernel
theorem dX10_ahead_157 : decode cX10_ahead 157 = .ok (.iconst 1, 1) := by decide +kernel
theorem dX10_ahead_158 : decode cX10_ahead 158 = .ok (.goto 4, 3) := by decide +kernel
theorem dX10_ahead_161 : decode cX10_ahead 161 = .ok (.iconst 0, 1) := by decide +kernel
theorem dX10_ahead_162 : decode cX10_ahead 162 = .ok (.ireturn, 1) := by decide +kernel
theorem dX10_orderAll_0 : decode cX10_orderAll 0 = .ok (.aload_n 0, 1) := by decide +kernel
theorem dX10_orderAll_1 : decode cX10_orderAll 1 = .ok (.invokevirtual 225, 3) := by decide +kernel
theorem dX10_orderAll_4 : decode cX10_orderAll 4 = .ok (.iconst 0, 1) := by decide +kernel
theorem dX10_orderAll_5 : decode cX10_orderAll 5 = .ok (.istore_n 1, 1) := by decide +kernel
theorem dX10_orderAll_6 : decode cX10_orderAll 6 = .ok (.iload_n 1, 1) := by decide +kernel
theorem dX10_orderAll_7 : decode cX10_orderAll 7 = .ok (.aload_n 0, 1) := by decide +kernel
theorem dX10_orderAll_8 : decode cX10_orderAll 8 = .ok (.getfield 189, 3) := by decide +kernel
theorem dX10_orderAll_11 : decode cX10_orderAll 11 = .ok (.if_icmp .ge 15, 3) := by decide +kernel
theorem dX10_orderAll_14 : decode cX10_orderAll 14 = .ok (.aload_n 0, 1) := by decide +kernel
theorem dX10_orderAll_15 : decode cX10_orderAll 15 = .ok (.iload_n 1, 1) := by decide +kernel
theorem dX10_orderAll_16 : decode cX10_orderAll 16 = .ok (.iconst 1, 1) := by decide +kernel
theorem dX10_orderAll_17 : decode cX10_orderAll 17 = .ok (.invokevirtual 228, 3) := by decide +kernel
theorem dX10_orderAll_20 : decode cX10_orderAll 20 = .ok (.iinc 1 1, 3) := by decide +kernel
theorem dX10_orderAll_23 : decode cX10_orderAll 23 = .ok (.goto (-17), 3) := by decide +kernel
theorem dX10_orderAll_26 : decode cX10_orderAll 26 = .ok (.return_, 1) := by decide +kernel
theorem dX10_placeOf_0 : decode cX10_placeOf 0 = .ok (.iconst 0, 1) := by decide +kernel
theorem dX10_placeOf_1 : decode cX10_placeOf 1 = .ok (.istore_n 2, 1) := by decide +kernel
theorem dX10_placeOf_2 : decode cX10_placeOf 2 = .ok (.iconst 0, 1) := by decide +kernel
theorem dX10_placeOf_3 : decode cX10_placeOf 3 = .ok (.istore_n 3, 1) := by decide +kernel
theorem dX10_placeOf_4 : decode cX10_placeOf 4 = .ok (.iload_n 3, 1) := by decide +kernel
theorem dX10_placeOf_5 : decode cX10_placeOf 5 = .ok (.aload_n 0, 1) := by decide +kernel
theorem dX10_placeOf_6 : decode cX10_placeOf 6 = .ok (.getfield 189, 3) := by decide +kernel
theorem dX10_placeOf_9 : decode cX10_placeOf 9 = .ok (.if_icmp .ge 31, 3) := by decide +kernel
theorem dX10_placeOf_12 : decode cX10_placeOf 12 = .ok (.iload_n 2, 1) := by decide +kernel
theorem dX10_placeOf_13 : decode cX10_placeOf 13 = .ok (.iload_n 3, 1) := by decide +kernel
theorem dX10_placeOf_14 : decode cX10_placeOf 14 = .ok (.iload_n 1, 1) := by decide +kernel
theorem dX10_placeOf_15 : decode cX10_placeOf 15 = .ok (.if_icmp .eq 16, 3) := by decide +kernel
theorem dX10_placeOf_18 : decode cX10_placeOf 18 = .ok (.aload_n 0, 1) := by decide +kernel
theorem dX10_placeOf_19 : decode cX10_placeOf 19 = .ok (.iload_n 3, 1) := by decide +kernel
theorem dX10_placeOf_20 : decode cX10_placeOf 20 = .ok (.iload_n 1, 1) := by decide +kernel
theorem dX10_placeOf_21 : decode cX10_placeOf 21 = .ok (.invokevirtual 232, 3) := by decide +kernel
theorem dX10_placeOf_24 : decode cX10_placeOf 24 = .ok (.ifCond .eq 7, 3) := by decide +kernel
theorem dX10_placeOf_27 : decode cX10_placeOf 27 = .ok (.iconst 1, 1) := by decide +kernel
theorem dX10_placeOf_28 : decode cX10_placeOf 28 = .ok (.goto 4, 3) := by decide +kernel
theorem dX10_placeOf_31 : decode cX10_placeOf 31 = .ok (.iconst 0, 1) := by decide +kernel
theorem dX10_placeOf_32 : decode cX10_placeOf 32 = .ok (.iadd, 1) := by decide +kernel
theorem dX10_placeOf_33 : decode cX10_placeOf 33 = .ok (.istore_n 2, 1) := by decide +kernel
theorem dX10_placeOf_34 : decode cX10_placeOf 34 = .ok (.iinc 3 1, 3) := by decide +kernel
theorem dX10_placeOf_37 : decode cX10_placeOf 37 = .ok (.goto (-33), 3) := by decide +kernel
theorem dX10_placeOf_40 : decode cX10_placeOf 40 = .ok (.iload_n 2, 1) := by decide +kernel
theorem dX10_placeOf_41 : decode cX10_placeOf 41 = .ok (.ireturn, 1) := by decide +kernel
theorem dX10_signs_0 : decode cX10_signs 0 = .ok (.iload_n 2, 1) := by decide +kernel
theorem dX10_signs_1 : decode cX10_signs 1 = .ok (.iconst 1, 1) := by decide +kernel
theorem dX10_signs_2 : decode cX10_signs 2 = .ok (.if_icmp .ne 87, 3) := by decide +kernel
theorem dX10_signs_5 : decode cX10_signs 5 = .ok (.aload_n 0, 1) := by decide +kernel
theorem dX10_signs_6 : decode cX10_signs 6 = .ok (.getfield 63, 3) := by decide +kernel
theorem dX10_signs_9 : decode cX10_signs 9 = .ok (.iload_n 1, 1) := by decide +kernel
theorem dX10_signs_10 : decode cX10_signs 10 = .ok (.iaload, 1) := by decide +kernel
theorem dX10_signs_11 : decode cX10_signs 11 = .ok (.iconst 1, 1) := by decide +kernel
theorem dX10_signs_12 : decode cX10_signs 12 = .ok (.isub, 1) := by decide +kernel
theorem dX10_signs_13 : decode cX10_signs 13 = .ok (.istore_n 3, 1) := by decide +kernel
theorem dX10_signs_14 : decode cX10_signs 14 = .ok (.bipush 8, 2) := by decide +kernel
theorem dX10_signs_16 : decode cX10_signs 16 = .ok (.iload_n 1, 1) := by decide +kernel
theorem dX10_signs_17 : decode cX10_signs 17 = .ok (.imul, 1) := by decide +kernel
theorem dX10_signs_18 : decode cX10_signs 18 = .ok (.istore 4, 2) := by decide +kernel
theorem dX10_signs_20 : decode cX10_signs 20 = .ok (.iload 4, 2) := by decide +kernel
theorem dX10_signs_22 : decode cX10_signs 22 = .ok (.bipush 8, 2) := by decide +kernel
theorem dX10_signs_24 : decode cX10_signs 24 = .ok (.iload_n 1, 1) := by decide +kernel
theorem dX10_signs_25 : decode cX10_signs 25 = .ok (.imul, 1) := by decide +kernel
theorem dX10_signs_26 : decode cX10_signs 26 = .ok (.aload_n 0, 1) := by decide +kernel
theorem dX10_signs_27 : decode cX10_signs 27 = .ok (.getfield 63, 3) := by decide +kernel
theorem dX10_signs_30 : decode cX10_signs 30 = .ok (.iload_n 1, 1) := by decide +kernel
theorem dX10_signs_31 : decode cX10_signs 31 = .ok (.iaload, 1) := by decide +kernel
theorem dX10_signs_32 : decode cX10_signs 32 = .ok (.iadd, 1) := by decide +kernel
theorem dX10_signs_33 : decode cX10_signs 33 = .ok (.if_icmp .ge 54, 3) := by decide +kernel
theorem dX10_signs_36 : decode cX10_signs 36 = .ok (.iconst 0, 1) := by decide +kernel
theorem dX10_signs_37 : decode cX10_signs 37 = .ok (.istore 5, 2) := by decide +kernel
theorem dX10_signs_39 : decode cX10_signs 39 = .ok (.iload 5, 2) := by decide +kernel
theorem dX10_signs_41 : decode cX10_signs 41 = .ok (.aload_n 0, 1) := by decide +kernel
theorem dX10_signs_42 : decode cX10_signs 42 = .ok (.getfield 75, 3) := by decide +kernel
theorem dX10_signs_45 : decode cX10_signs 45 = .ok (.iload 4, 2) := by decide +kernel
theorem dX10_signs_47 : decode cX10_signs 47 = .ok (.iaload, 1) := by decide +kernel
theorem dX10_signs_48 : decode cX10_signs 48 = .ok (.if_icmp .ge 33, 3) := by decide +kernel
theorem dX10_signs_51 : decode cX10_signs 51 = .ok (.iload_n 3, 1) := by decide +kernel
theorem dX10_signs_52 : decode cX10_signs 52 = .ok (.aload_n 0, 1) := by decide +kernel
theorem dX10_signs_53 : decode cX10_signs 53 = .ok (.getfield 81, 3) := by decide +kernel
theorem dX10_signs_56 : decode cX10_signs 56 = .ok (.aload_n 0, 1) := by decide +kernel
theorem dX10_signs_57 : decode cX10_signs 57 = .ok (.getfield 72, 3) := by decide +kernel
theorem dX10_signs_60 : decode cX10_signs 60 = .ok (.bipush 21, 2) := by decide +kernel
theorem dX10_signs_62 : decode cX10_signs 62 = .ok (.iload 4, 2) := by decide +kernel
theorem dX10_signs_64 : decode cX10_signs 64 = .ok (.imul, 1) := by decide +kernel
theorem dX10_signs_65 : decode cX10_signs 65 = .ok (.iload 5, 2) := by decide +kernel
theorem dX10_signs_67 : decode cX10_signs 67 = .ok (.iadd, 1) := by decide +kernel
theorem dX10_signs_68 : decode cX10_signs 68 = .ok (.iaload, 1) := by decide +kernel
theorem dX10_signs_69 : decode cX10_signs 69 = .ok (.bipush 97, 2) := by decide +kernel
theorem dX10_signs_71 : decode cX10_signs 71 = .ok (.isub, 1) := by decide +kernel
theorem dX10_signs_72 : decode cX10_signs 72 = .ok (.iaload, 1) := by decide +kernel
theorem dX10_signs_73 : decode cX10_signs 73 = .ok (.iadd, 1) := by decide +kernel
theorem dX10_signs_74 : decode cX10_signs 74 = .ok (.istore_n 3, 1) := by decide +kernel
theorem dX10_signs_75 : decode cX10_signs 75 = .ok (.iinc 5 1, 3) := by decide +kernel
theorem dX10_signs_78 : decode cX10_signs 78 = .ok (.goto (-39), 3) := by decide +kernel
theorem dX10_signs_81 : decode cX10_signs 81 = .ok (.iinc 4 1, 3) := by decide +kernel
theorem dX10_signs_84 : decode cX10_signs 84 = .ok (.goto (-64), 3) := by decide +kernel
theorem dX10_signs_87 : decode cX10_signs 87 = .ok (.iload_n 3, 1) := by decide +kernel
theorem dX10_signs_88 : decode cX10_signs 88 = .ok (.ireturn, 1) := by decide +kernel
theorem dX10_signs_89 : decode cX10_signs 89 = .ok (.aload_n 0, 1) := by decide +kernel
theorem dX10_signs_90 : decode cX10_signs 90 = .ok (.iload_n 1, 1) := by decide +kernel
theorem dX10_signs_91 : decode cX10_signs 91 = .ok (.invokevirtual 219, 3) := by decide +kernel
theorem dX10_signs_94 : decode cX10_signs 94 = .ok (.aload_n 0, 1) := by decide +kernel
theorem dX10_signs_95 : decode cX10_signs 95 = .ok (.iload_n 1, 1) := by decide +kernel
theorem dX10_signs_96 : decode cX10_signs 96 = .ok (.iload_n 2, 1) := by decide +kernel
theorem dX10_signs_97 : decode cX10_signs 97 = .ok (.iconst 2, 1) := by decide +kernel
theorem dX10_signs_98 : decode cX10_signs 98 = .ok (.if_icmp .ne 7, 3) := by decide +kernel
theorem dX10_signs_101 : decode cX10_signs 101 = .ok (.iconst 1, 1) := by decide +kernel
theorem dX10_signs_102 : decode cX10_signs 102 = .ok (.goto 4, 3) := by decide +kernel
theorem dX10_signs_105 : decode cX10_signs 105 = .ok (.iconst 0, 1) := by decide +kernel
theorem dX10_signs_106 : decode cX10_signs 106 = .ok (.invokevirtual 228, 3) := by decide +kernel
theorem dX10_signs_109 : decode cX10_signs 109 = .ok (.aload_n 0, 1) := by decide +kernel
theorem dX10_signs_110 : decode cX10_signs 110 = .ok (.getfield 123, 3) := by decide +kernel
theorem dX10_signs_113 : decode cX10_signs 113 = .ok (.iload_n 1, 1) := by decide +kernel
theorem dX10_signs_114 : decode cX10_signs 114 = .ok (.iaload, 1) := by decide +kernel
theorem dX10_signs_115 : decode cX10_signs 115 = .ok (.ifCond .le 14, 3) := by decide +kernel
theorem dX10_signs_118 : decode cX10_signs 118 = .ok (.aload_n 0, 1) := by decide +kernel
theorem dX10_signs_119 : decode cX10_signs 119 = .ok (.getfield 123, 3) := by decide +kernel
theorem dX10_signs_122 : decode cX10_signs 122 = .ok (.iload_n 1, 1) := by decide +kernel
theorem dX10_signs_123 : decode cX10_signs 123 = .ok (.iaload, 1) := by decide +kernel
theorem dX10_signs_124 : decode cX10_signs 124 = .ok (.iconst 1, 1) := by decide +kernel
theorem dX10_signs_125 : decode cX10_signs 125 = .ok (.isub, 1) := by decide +kernel
theorem dX10_signs_126 : decode cX10_signs 126 = .ok (.goto 4, 3) := by decide +kernel
theorem dX10_signs_129 : decode cX10_signs 129 = .ok (.iconst 0, 1) := by decide +kernel
theorem dX10_signs_130 : decode cX10_signs 130 = .ok (.istore_n 3, 1) := by decide +kernel
theorem dX10_signs_131 : decode cX10_signs 131 = .ok (.iconst 0, 1) := by decide +kernel
theorem dX10_signs_132 : decode cX10_signs 132 = .ok (.istore 4, 2) := by decide +kernel
theorem dX10_signs_134 : decode cX10_signs 134 = .ok (.iload 4, 2) := by decide +kernel
theorem dX10_signs_136 : decode cX10_signs 136 = .ok (.aload_n 0, 1) := by decide +kernel
theorem dX10_signs_137 : decode cX10_signs 137 = .ok (.getfield 123, 3) := by decide +kernel
theorem dX10_signs_140 : decode cX10_signs 140 = .ok (.iload_n 1, 1) := by decide +kernel
theorem dX10_signs_141 : decode cX10_signs 141 = .ok (.iaload, 1) := by decide +kernel
theorem dX10_signs_142 : decode cX10_signs 142 = .ok (.if_icmp .ge 54, 3) := by decide +kernel
theorem dX10_signs_145 : decode cX10_signs 145 = .ok (.iload_n 3, 1) := by decide +kernel
theorem dX10_signs_146 : decode cX10_signs 146 = .ok (.iload_n 2, 1) := by decide +kernel
theorem dX10_signs_147 : decode cX10_signs 147 = .ok (.iconst 2, 1) := by decide +kernel
theorem dX10_signs_148 : decode cX10_signs 148 = .ok (.if_icmp .ne 23, 3) := by decide +kernel
theorem dX10_signs_151 : decode cX10_signs 151 = .ok (.aload_n 0, 1) := by decide +kernel
theorem dX10_signs_152 : decode cX10_signs 152 = .ok (.getfield 75, 3) := by decide +kernel
theorem dX10_signs_155 : decode cX10_signs 155 = .ok (.aload_n 0, 1) := by decide +kernel
theorem dX10_signs_156 : decode cX10_signs 156 = .ok (.getfield 120, 3) := by decide +kernel
theorem dX10_signs_159 : decode cX10_signs 159 = .ok (.bipush 8, 2) := by decide +kernel
theorem dX10_signs_161 : decode cX10_signs 161 = .ok (.iload_n 1, 1) := by decide +kernel
theorem dX10_signs_162 : decode cX10_signs 162 = .ok (.imul, 1) := by decide +kernel
theorem dX10_signs_163 : decode cX10_signs 163 = .ok (.iload 4, 2) := by decide +kernel
theorem dX10_signs_165 : decode cX10_signs 165 = .ok (.iadd, 1) := by decide +kernel
theorem dX10_signs_166 : decode cX10_signs 166 = .ok (.iaload, 1) := by decide +kernel
theorem dX10_signs_167 : decode cX10_signs 167 = .ok (.iaload, 1) := by decide +kernel
theorem dX10_signs_168 : decode cX10_signs 168 = .ok (.goto 20, 3) := by decide +kernel
theorem dX10_signs_171 : decode cX10_signs 171 = .ok (.aload_n 0, 1) := by decide +kernel
theorem dX10_signs_172 : decode cX10_signs 172 = .ok (.getfield 69, 3) := by decide +kernel
theorem dX10_signs_175 : decode cX10_signs 175 = .ok (.aload_n 0, 1) := by decide +kernel
theorem dX10_signs_176 : decode cX10_signs 176 = .ok (.getfield 120, 3) := by decide +kernel
theorem dX10_signs_179 : decode cX10_signs 179 = .ok (.bipush 8, 2) := by decide +kernel
theorem dX10_signs_181 : decode cX10_signs 181 = .ok (.iload_n 1, 1) := by decide +kernel
theorem dX10_signs_182 : decode cX10_signs 182 = .ok (.imul, 1) := by decide +kernel
theorem dX10_signs_183 : decode cX10_signs 183 = .ok (.iload 4, 2) := by decide +kernel
theorem dX10_signs_185 : decode cX10_signs 185 = .ok (.iadd, 1) := by decide +kernel
theorem dX10_signs_186 : decode cX10_signs 186 = .ok (.iaload, 1) := by decide +kernel
theorem dX10_signs_187 : decode cX10_signs 187 = .ok (.iaload, 1) := by decide +kernel
theorem dX10_signs_188 : decode cX10_signs 188 = .ok (.iadd, 1) := by decide +kernel
theorem dX10_signs_189 : decode cX10_signs 189 = .ok (.istore_n 3, 1) := by decide +kernel
theorem dX10_signs_190 : decode cX10_signs 190 = .ok (.iinc 4 1, 3) := by decide +kernel
theorem dX10_signs_193 : decode cX10_signs 193 = .ok (.goto (-59), 3) := by decide +kernel
theorem dX10_signs_196 : decode cX10_signs 196 = .ok (.iload_n 3, 1) := by decide +kernel
theorem dX10_signs_197 : decode cX10_signs 197 = .ok (.ireturn, 1) := by decide +kernel
theorem dX10_fails_0 : decode cX10_fails 0 = .ok (.aload_n 0, 1) := by decide +kernel
theorem dX10_fails_1 : decode cX10_fails 1 = .ok (.iload_n 1, 1) := by decide +kernel
theorem dX10_fails_2 : decode cX10_fails 2 = .ok (.putfield 126, 3) := by decide +kernel
theorem dX10_fails_5 : decode cX10_fails 5 = .ok (.iconst 0, 1) := by decide +kernel
theorem dX10_fails_6 : decode cX10_fails 6 = .ok (.ireturn, 1) := by decide +kernel
theorem dX10_look_0 : decode cX10_look 0 = .ok (.aload_n 0, 1) := by decide +kernel
theorem dX10_look_1 : decode cX10_look 1 = .ok (.iconst 0, 1) := by decide +kernel
theorem dX10_look_2 : decode cX10_look 2 = .ok (.putfield 126, 3) := by decide +kernel
theorem dX10_look_5 : decode cX10_look 5 = .ok (.aload_n 0, 1) := by decide +kernel
theorem dX10_look_6 : decode cX10_look 6 = .ok (.iload_n 1, 1) := by decide +kernel
theorem dX10_look_7 : decode cX10_look 7 = .ok (.invokevirtual 210, 3) := by decide +kernel
theorem dX10_look_10 : decode cX10_look 10 = .ok (.ifCond .ne 9, 3) := by decide +kernel
theorem dX10_look_13 : decode cX10_look 13 = .ok (.aload_n 0, 1) := by decide +kernel
theorem dX10_look_14 : decode cX10_look 14 = .ok (.iconst 1, 1) := by decide +kernel
theorem dX10_look_15 : decode cX10_look 15 = .ok (.invokevirtual 235, 3) := by decide +kernel
theorem dX10_look_18 : decode cX10_look 18 = .ok (.ireturn, 1) := by decide +kernel
theorem dX10_look_19 : decode cX10_look 19 = .ok (.iload_n 2, 1) := by decide +kernel
theorem dX10_look_20 : decode cX10_look 20 = .ok (.tableswitch 96 0 5 #[40, 47, 54, 64, 82, 89], 40) := by decide +kernel
theorem dX10_look_60 : decode cX10_look 60 = .ok (.aload_n 0, 1) := by decide +kernel
theorem dX10_look_61 : decode cX10_look 61 = .ok (.getfield 60, 3) := by decide +kernel
theorem dX10_look_64 : decode cX10_look 64 = .ok (.iload_n 1, 1) := by decide +kernel
theorem dX10_look_65 : decode cX10_look 65 = .ok (.iaload, 1) := by decide +kernel
theorem dX10_look_66 : decode cX10_look 66 = .ok (.ireturn, 1) := by decide +kernel
theorem dX10_look_67 : decode cX10_look 67 = .ok (.aload_n 0, 1) := by decide +kernel
theorem dX10_look_68 : decode cX10_look 68 = .ok (.getfield 63, 3) := by decide +kernel
theorem dX10_look_71 : decode cX10_look 71 = .ok (.iload_n 1, 1) := by decide +kernel
theorem dX10_look_72 : decode cX10_look 72 = .ok (.iaload, 1) := by decide +kernel
theorem dX10_look_73 : decode cX10_look 73 = .ok (.ireturn, 1) := by decide +kernel
theorem dX10_look_74 : decode cX10_look 74 = .ok (.aload_n 0, 1) := by decide +kernel
theorem dX10_look_75 : decode cX10_look 75 = .ok (.invokevirtual 238, 3) := by decide +kernel
theorem dX10_look_78 : decode cX10_look 78 = .ok (.aload_n 0, 1) := by decide +kernel
theorem dX10_look_79 : decode cX10_look 79 = .ok (.iload_n 1, 1) := by decide +kernel
theorem dX10_look_80 : decode cX10_look 80 = .ok (.invokevirtual 241, 3) := by decide +kernel
theorem dX10_look_83 : decode cX10_look 83 = .ok (.ireturn, 1) := by decide +kernel
theorem dX10_look_84 : decode cX10_look 84 = .ok (.aload_n 0, 1) := by decide +kernel
theorem dX10_look_85 : decode cX10_look 85 = .ok (.iload_n 1, 1) := by decide +kernel
theorem dX10_look_86 : decode cX10_look 86 = .ok (.invokevirtual 219, 3) := by decide +kernel
theorem dX10_look_89 : decode cX10_look 89 = .ok (.aload_n 0, 1) := by decide +kernel
theorem dX10_look_90 : decode cX10_look 90 = .ok (.iload_n 1, 1) := by decide +kernel
theorem dX10_look_91 : decode cX10_look 91 = .ok (.iconst 1, 1) := by decide +kernel
theorem dX10_look_92 : decode cX10_look 92 = .ok (.invokevirtual 228, 3) := by decide +kernel
theorem dX10_look_95 : decode cX10_look 95 = .ok (.aload_n 0, 1) := by decide +kernel
theorem dX10_look_96 : decode cX10_look 96 = .ok (.getfield 123, 3) := by decide +kernel
theorem dX10_look_99 : decode cX10_look 99 = .ok (.iload_n 1, 1) := by decide +kernel
theorem dX10_look_100 : decode cX10_look 100 = .ok (.iaload, 1) := by decide +kernel
theorem dX10_look_101 : decode cX10_look 101 = .ok (.ireturn, 1) := by decide +kernel
theorem dX10_look_102 : decode cX10_look 102 = .ok (.aload_n 0, 1) := by decide +kernel
theorem dX10_look_103 : decode cX10_look 103 = .ok (.iload_n 1, 1) := by decide +kernel
theorem dX10_look_104 : decode cX10_look 104 = .ok (.iconst 0, 1) := by decide +kernel
theorem dX10_look_105 : decode cX10_look 105 = .ok (.invokevirtual 244, 3) := by decide +kernel
theorem dX10_look_108 : decode cX10_look 108 = .ok (.ireturn, 1) := by decide +kernel
theorem dX10_look_109 : decode cX10_look 109 = .ok (.aload_n 0, 1) := by decide +kernel
theorem dX10_look_110 : decode cX10_look 110 = .ok (.iload_n 1, 1) := by decide +kernel
theorem dX10_look_111 : decode cX10_look 111 = .ok (.iconst 1, 1) := by decide +kernel
theorem dX10_look_112 : decode cX10_look 112 = .ok (.invokevirtual 244, 3) := by decide +kernel
theorem dX10_look_115 : decode cX10_look 115 = .ok (.ireturn, 1) := by decide +kernel
theorem dX10_look_116 : decode cX10_look 116 = .ok (.aload_n 0, 1) := by decide +kernel
theorem dX10_look_117 : decode cX10_look 117 = .ok (.iconst 2, 1) := by decide +kernel
theorem dX10_look_118 : decode cX10_look 118 = .ok (.invokevirtual 235, 3) := by decide +kernel
theorem dX10_look_121 : decode cX10_look 121 = .ok (.ireturn, 1) := by decide +kernel
theorem dX10_order_0 : decode cX10_order 0 = .ok (.aload_n 0, 1) := by decide +kernel
theorem dX10_order_1 : decode cX10_order 1 = .ok (.iconst 0, 1) := by decide +kernel
theorem dX10_order_2 : decode cX10_order 2 = .ok (.putfield 126, 3) := by decide +kernel
theorem dX10_order_5 : decode cX10_order 5 = .ok (.iload_n 1, 1) := by decide +kernel
theorem dX10_order_6 : decode cX10_order 6 = .ok (.ifCond .lt 11, 3) := by decide +kernel
theorem dX10_order_9 : decode cX10_order 9 = .ok (.iload_n 1, 1) := by decide +kernel
theorem dX10_order_10 : decode cX10_order 10 = .ok (.aload_n 0, 1) := by decide +kernel
theorem dX10_order_11 : decode cX10_order 11 = .ok (.getfield 189, 3) := by decide +kernel
theorem dX10_order_14 : decode cX10_order 14 = .ok (.if_icmp .lt 5, 3) := by decide +kernel
theorem dX10_order_17 : decode cX10_order 17 = .ok (.iconst (-1), 1) := by decide +kernel
theorem dX10_order_18 : decode cX10_order 18 = .ok (.ireturn, 1) := by decide +kernel
theorem dX10_order_19 : decode cX10_order 19 = .ok (.aload_n 0, 1) := by decide +kernel
theorem dX10_order_20 : decode cX10_order 20 = .ok (.invokevirtual 238, 3) := by decide +kernel
theorem dX10_order_23 : decode cX10_order 23 = .ok (.iconst 0, 1) := by decide +kernel
theorem dX10_order_24 : decode cX10_order 24 = .ok (.istore_n 2, 1) := by decide +kernel
theorem dX10_order_25 : decode cX10_order 25 = .ok (.iload_n 2, 1) := by decide +kernel
theorem dX10_order_26 : decode cX10_order 26 = .ok (.aload_n 0, 1) := by decide +kernel
theorem dX10_order_27 : decode cX10_order 27 = .ok (.getfield 189, 3) := by decide +kernel
theorem dX10_order_30 : decode cX10_order 30 = .ok (.if_icmp .ge 20, 3) := by decide +kernel
theorem dX10_order_33 : decode cX10_order 33 = .ok (.aload_n 0, 1) := by decide +kernel
theorem dX10_order_34 : decode cX10_order 34 = .ok (.iload_n 2, 1) := by decide +kernel
theorem dX10_order_35 : decode cX10_order 35 = .ok (.invokevirtual 241, 3) := by decide +kernel
theorem dX10_order_38 : decode cX10_order 38 = .ok (.iload_n 1, 1) := by decide +kernel
theorem dX10_order_39 : decode cX10_order 39 = .ok (.if_icmp .ne 5, 3) := by decide +kernel
theorem dX10_order_42 : decode cX10_order 42 = .ok (.iload_n 2, 1) := by decide +kernel
theorem dX10_order_43 : decode cX10_order 43 = .ok (.ireturn, 1) := by decide +kernel
theorem dX10_order_44 : decode cX10_order 44 = .ok (.iinc 2 1, 3) := by decide +kernel
theorem dX10_order_47 : decode cX10_order 47 = .ok (.goto (-22), 3) := by decide +kernel
theorem dX10_order_50 : decode cX10_order 50 = .ok (.iconst (-1), 1) := by decide +kernel
theorem dX10_order_51 : decode cX10_order 51 = .ok (.ireturn, 1) := by decide +kernel
theorem dX10_over_0 : decode cX10_over 0 = .ok (.iload_n 2, 1) := by decide +kernel
theorem dX10_over_1 : decode cX10_over 1 = .ok (.istore_n 3, 1) := by decide +kernel
theorem dX10_over_2 : decode cX10_over 2 = .ok (.bipush 8, 2) := by decide +kernel
theorem dX10_over_4 : decode cX10_over 4 = .ok (.iload_n 1, 1) := by decide +kernel
theorem dX10_over_5 : decode cX10_over 5 = .ok (.imul, 1) := by decide +kernel
theorem dX10_over_6 : decode cX10_over 6 = .ok (.istore 4, 2) := by decide +kernel
theorem dX10_over_8 : decode cX10_over 8 = .ok (.iload 4, 2) := by decide +kernel
theorem dX10_over_10 : decode cX10_over 10 = .ok (.bipush 8, 2) := by decide +kernel
theorem dX10_over_12 : decode cX10_over 12 = .ok (.iload_n 1, 1) := by decide +kernel
theorem dX10_over_13 : decode cX10_over 13 = .ok (.imul, 1) := by decide +kernel
theorem dX10_over_14 : decode cX10_over 14 = .ok (.aload_n 0, 1) := by decide +kernel
theorem dX10_over_15 : decode cX10_over 15 = .ok (.getfield 63, 3) := by decide +kernel
theorem dX10_over_18 : decode cX10_over 18 = .ok (.iload_n 1, 1) := by decide +kernel
theorem dX10_over_19 : decode cX10_over 19 = .ok (.iaload, 1) := by decide +kernel
theorem dX10_over_20 : decode cX10_over 20 = .ok (.iadd, 1) := by decide +kernel
theorem dX10_over_21 : decode cX10_over 21 = .ok (.if_icmp .ge 100, 3) := by decide +kernel
theorem dX10_over_24 : decode cX10_over 24 = .ok (.iload 4, 2) := by decide +kernel
theorem dX10_over_26 : decode cX10_over 26 = .ok (.bipush 8, 2) := by decide +kernel
theorem dX10_over_28 : decode cX10_over 28 = .ok (.iload_n 1, 1) := by decide +kernel
theorem dX10_over_29 : decode cX10_over 29 = .ok (.imul, 1) := by decide +kernel
theorem dX10_over_30 : decode cX10_over 30 = .ok (.if_icmp .le 13, 3) := by decide +kernel
theorem dX10_over_33 : decode cX10_over 33 = .ok (.iload_n 3, 1) := by decide +kernel
theorem dX10_over_34 : decode cX10_over 34 = .ok (.ifCond .ne 6, 3) := by decide +kernel
theorem dX10_over_37 : decode cX10_over 37 = .ok (.bipush 32, 2) := by decide +kernel
theorem dX10_over_39 : decode cX10_over 39 = .ok (.ireturn, 1) := by decide +kernel
theorem dX10_over_40 : decode cX10_over 40 = .ok (.iinc 3 (-1), 3) := by decide +kernel
theorem dX10_over_43 : decode cX10_over 43 = .ok (.iconst 0, 1) := by decide +kernel
theorem dX10_over_44 : decode cX10_over 44 = .ok (.istore 5, 2) := by decide +kernel
theorem dX10_over_46 : decode cX10_over 46 = .ok (.iload 5, 2) := by decide +kernel
theorem dX10_over_48 : decode cX10_over 48 = .ok (.aload_n 0, 1) := by decide +kernel
theorem dX10_over_49 : decode cX10_over 49 = .ok (.getfield 75, 3) := by decide +kernel
theorem dX10_over_52 : decode cX10_over 52 = .ok (.iload 4, 2) := by decide +kernel
theorem dX10_over_54 : decode cX10_over 54 = .ok (.iaload, 1) := by decide +kernel
theorem dX10_over_55 : decode cX10_over 55 = .ok (.if_icmp .ge 60, 3) := by decide +kernel
theorem dX10_over_58 : decode cX10_over 58 = .ok (.aload_n 0, 1) := by decide +kernel
theorem dX10_over_59 : decode cX10_over 59 = .ok (.getfield 72, 3) := by decide +kernel
theorem dX10_over_62 : decode cX10_over 62 = .ok (.bipush 21, 2) := by decide +kernel
theorem dX10_over_64 : decode cX10_over 64 = .ok (.iload 4, 2) := by decide +kernel
theorem dX10_over_66 : decode cX10_over 66 = .ok (.imul, 1) := by decide +kernel
theorem dX10_over_67 : decode cX10_over 67 = .ok (.iload 5, 2) := by decide +kernel
theorem dX10_over_69 : decode cX10_over 69 = .ok (.iadd, 1) := by decide +kernel
theorem dX10_over_70 : decode cX10_over 70 = .ok (.iaload, 1) := by decide +kernel
theorem dX10_over_71 : decode cX10_over 71 = .ok (.bipush 97, 2) := by decide +kernel
theorem dX10_over_73 : decode cX10_over 73 = .ok (.isub, 1) := by decide +kernel
theorem dX10_over_74 : decode cX10_over 74 = .ok (.istore 6, 2) := by decide +kernel
theorem dX10_over_76 : decode cX10_over 76 = .ok (.iload_n 3, 1) := by decide +kernel
theorem dX10_over_77 : decode cX10_over 77 = .ok (.aload_n 0, 1) := by decide +kernel
theorem dX10_over_78 : decode cX10_over 78 = .ok (.getfield 81, 3) := by decide +kernel
theorem dX10_over_81 : decode cX10_over 81 = .ok (.iload 6, 2) := by decide +kernel
theorem dX10_over_83 : decode cX10_over 83 = .ok (.iaload, 1) := by decide +kernel
theorem dX10_over_84 : decode cX10_over 84 = .ok (.if_icmp .ge 15, 3) := by decide +kernel
theorem dX10_over_87 : decode cX10_over 87 = .ok (.aload_n 0, 1) := by decide +kernel
theorem dX10_over_88 : decode cX10_over 88 = .ok (.getfield 78, 3) := by decide +kernel
theorem dX10_over_91 : decode cX10_over 91 = .ok (.iconst 3, 1) := by decide +kernel
theorem dX10_over_92 : decode cX10_over 92 = .ok (.iload 6, 2) := by decide +kernel
theorem dX10_over_94 : decode cX10_over 94 = .ok (.imul, 1) := by decide +kernel
theorem dX10_over_95 : decode cX10_over 95 = .ok (.iload_n 3, 1) := by decide +kernel
theorem dX10_over_96 : decode cX10_over 96 = .ok (.iadd, 1) := by decide +kernel
theorem dX10_over_97 : decode cX10_over 97 = .ok (.iaload, 1) := by decide +kernel
theorem dX10_over_98 : decode cX10_over 98 = .ok (.ireturn, 1) := by decide +kernel
theorem dX10_over_99 : decode cX10_over 99 = .ok (.iload_n 3, 1) := by decide +kernel
theorem dX10_over_100 : decode cX10_over 100 = .ok (.aload_n 0, 1) := by decide +kernel
theorem dX10_over_101 : decode cX10_over 101 = .ok (.getfield 81, 3) := by decide +kernel
theorem dX10_over_104 : decode cX10_over 104 = .ok (.iload 6, 2) := by decide +kernel
theorem dX10_over_106 : decode cX10_over 106 = .ok (.iaload, 1) := by decide +kernel
theorem dX10_over_107 : decode cX10_over 107 = .ok (.isub, 1) := by decide +kernel
theorem dX10_over_108 : decode cX10_over 108 = .ok (.istore_n 3, 1) := by decide +kernel
theorem dX10_over_109 : decode cX10_over 109 = .ok (.iinc 5 1, 3) := by decide +kernel
theorem dX10_over_112 : decode cX10_over 112 = .ok (.goto (-66), 3) := by decide +kernel
theorem dX10_over_115 : decode cX10_over 115 = .ok (.iinc 4 1, 3) := by decide +kernel
theorem dX10_over_118 : decode cX10_over 118 = .ok (.goto (-110), 3) := by decide +kernel
theorem dX10_over_121 : decode cX10_over 121 = .ok (.iconst (-1), 1) := by decide +kernel
theorem dX10_over_122 : decode cX10_over 122 = .ok (.ireturn, 1) := by decide +kernel
theorem dX10_sign_0 : decode cX10_sign 0 = .ok (.aload_n 0, 1) := by decide +kernel
theorem dX10_sign_1 : decode cX10_sign 1 = .ok (.iconst 0, 1) := by decide +kernel
theorem dX10_sign_2 : decode cX10_sign 2 = .ok (.putfield 126, 3) := by decide +kernel
theorem dX10_sign_5 : decode cX10_sign 5 = .ok (.aload_n 0, 1) := by decide +kernel
theorem dX10_sign_6 : decode cX10_sign 6 = .ok (.iload_n 1, 1) := by decide +kernel
theorem dX10_sign_7 : decode cX10_sign 7 = .ok (.invokevirtual 210, 3) := by decide +kernel
theorem dX10_sign_10 : decode cX10_sign 10 = .ok (.ifCond .eq 16, 3) := by decide +kernel
theorem dX10_sign_13 : decode cX10_sign 13 = .ok (.iload_n 2, 1) := by decide +kernel
theorem dX10_sign_14 : decode cX10_sign 14 = .ok (.ifCond .lt 12, 3) := by decide +kernel
theorem dX10_sign_17 : decode cX10_sign 17 = .ok (.iload_n 2, 1) := by decide +kernel
theorem dX10_sign_18 : decode cX10_sign 18 = .ok (.iconst 2, 1) := by decide +kernel
theorem dX10_sign_19 : decode cX10_sign 19 = .ok (.if_icmp .gt 7, 3) := by decide +kernel
theorem dX10_sign_22 : decode cX10_sign 22 = .ok (.iload_n 3, 1) := by decide +kernel
theorem dX10_sign_23 : decode cX10_sign 23 = .ok (.ifCond .ge 5, 3) := by decide +kernel
theorem dX10_sign_26 : decode cX10_sign 26 = .ok (.iconst (-1), 1) := by decide +kernel
theorem dX10_sign_27 : decode cX10_sign 27 = .ok (.ireturn, 1) := by decide +kernel
theorem dX10_sign_28 : decode cX10_sign 28 = .ok (.iload_n 2, 1) := by decide +kernel
theorem dX10_sign_29 : decode cX10_sign 29 = .ok (.iconst 1, 1) := by decide +kernel
theorem dX10_sign_30 : decode cX10_sign 30 = .ok (.if_icmp .ne 10, 3) := by decide +kernel
theorem dX10_sign_33 : decode cX10_sign 33 = .ok (.aload_n 0, 1) := by decide +kernel
theorem dX10_sign_34 : decode cX10_sign 34 = .ok (.iload_n 1, 1) := by decide +kernel
theorem dX10_sign_35 : decode cX10_sign 35 = .ok (.iload_n 3, 1) := by decide +kernel
theorem dX10_sign_36 : decode cX10_sign 36 = .ok (.invokevirtual 247, 3) := by decide +kernel
theorem dX10_sign_39 : decode cX10_sign 39 = .ok (.ireturn, 1) := by decide +kernel
theorem dX10_sign_40 : decode cX10_sign 40 = .ok (.aload_n 0, 1) := by decide +kernel
theorem dX10_sign_41 : decode cX10_sign 41 = .ok (.iload_n 1, 1) := by decide +kernel
theorem dX10_sign_42 : decode cX10_sign 42 = .ok (.invokevirtual 219, 3) := by decide +kernel
theorem dX10_sign_45 : decode cX10_sign 45 = .ok (.aload_n 0, 1) := by decide +kernel
theorem dX10_sign_46 : decode cX10_sign 46 = .ok (.iload_n 1, 1) := by decide +kernel
theorem dX10_sign_47 : decode cX10_sign 47 = .ok (.iload_n 2, 1) := by decide +kernel
theorem dX10_sign_48 : decode cX10_sign 48 = .ok (.iconst 2, 1) := by decide +kernel
theorem dX10_sign_49 : decode cX10_sign 49 = .ok (.if_icmp .ne 7, 3) := by decide +kernel
theorem dX10_sign_52 : decode cX10_sign 52 = .ok (.iconst 1, 1) := by decide +kernel
theorem dX10_sign_53 : decode cX10_sign 53 = .ok (.goto 4, 3) := by decide +kernel
theorem dX10_sign_56 : decode cX10_sign 56 = .ok (.iconst 0, 1) := by decide +kernel
theorem dX10_sign_57 : decode cX10_sign 57 = .ok (.invokevirtual 228, 3) := by decide +kernel
theorem dX10_sign_60 : decode cX10_sign 60 = .ok (.iload_n 3, 1) := by decide +kernel
theorem dX10_sign_61 : decode cX10_sign 61 = .ok (.istore 4, 2) := by decide +kernel
theorem dX10_sign_63 : decode cX10_sign 63 = .ok (.iconst 0, 1) := by decide +kernel
theorem dX10_sign_64 : decode cX10_sign 64 = .ok (.istore 5, 2) := by decide +kernel
theorem dX10_sign_66 : decode cX10_sign 66 = .ok (.iload 5, 2) := by decide +kernel
theorem dX10_sign_68 : decode cX10_sign 68 = .ok (.aload_n 0, 1) := by decide +kernel
theorem dX10_sign_69 : decode cX10_sign 69 = .ok (.getfield 123, 3) := by decide +kernel
theorem dX10_sign_72 : decode cX10_sign 72 = .ok (.iload_n 1, 1) := by decide +kernel
theorem dX10_sign_73 : decode cX10_sign 73 = .ok (.iaload, 1) := by decide +kernel
theorem dX10_sign_74 : decode cX10_sign 74 = .ok (.if_icmp .ge 112, 3) := by decide +kernel
theorem dX10_sign_77 : decode cX10_sign 77 = .ok (.aload_n 0, 1) := by decide +kernel
theorem dX10_sign_78 : decode cX10_sign 78 = .ok (.getfield 120, 3) := by decide +kernel
theorem dX10_sign_81 : decode cX10_sign 81 = .ok (.bipush 8, 2) := by decide +kernel
theorem dX10_sign_83 : decode cX10_sign 83 = .ok (.iload_n 1, 1) := by decide +kernel
theorem dX10_sign_84 : decode cX10_sign 84 = .ok (.imul, 1) := by decide +kernel
theorem dX10_sign_85 : decode cX10_sign 85 = .ok (.iload 5, 2) := by decide +kernel
theorem dX10_sign_87 : decode cX10_sign 87 = .ok (.iadd, 1) := by decide +kernel
theorem dX10_sign_88 : decode cX10_sign 88 = .ok (.iaload, 1) := by decide +kernel
theorem dX10_sign_89 : decode cX10_sign 89 = .ok (.istore 6, 2) := by decide +kernel
theorem dX10_sign_91 : decode cX10_sign 91 = .ok (.iload 5, 2) := by decide +kernel
theorem dX10_sign_93 : decode cX10_sign 93 = .ok (.ifCond .le 14, 3) := by decide +kernel
theorem dX10_sign_96 : decode cX10_sign 96 = .ok (.iload 4, 2) := by decide +kernel
theorem dX10_sign_98 : decode cX10_sign 98 = .ok (.ifCond .ne 6, 3) := by decide +kernel
theorem dX10_sign_101 : decode cX10_sign 101 = .ok (.bipush 32, 2) := by decide +kernel
theorem dX10_sign_103 : decode cX10_sign 103 = .ok (.ireturn, 1) := by decide +kernel
theorem dX10_sign_104 : decode cX10_sign 104 = .ok (.iinc 4 (-1), 3) := by decide +kernel
theorem dX10_sign_107 : decode cX10_sign 107 = .ok (.iload_n 2, 1) := by decide +kernel
theorem dX10_sign_108 : decode cX10_sign 108 = .ok (.iconst 2, 1) := by decide +kernel
theorem dX10_sign_109 : decode cX10_sign 109 = .ok (.if_icmp .ne 13, 3) := by decide +kernel
theorem dX10_sign_112 : decode cX10_sign 112 = .ok (.aload_n 0, 1) := by decide +kernel
theorem dX10_sign_113 : decode cX10_sign 113 = .ok (.getfield 75, 3) := by decide +kernel
theorem dX10_sign_116 : decode cX10_sign 116 = .ok (.iload 6, 2) := by decide +kernel
theorem dX10_sign_118 : decode cX10_sign 118 = .ok (.iaload, 1) := by decide +kernel
theorem dX10_sign_119 : decode cX10_sign 119 = .ok (.goto 10, 3) := by decide +kernel
theorem dX10_sign_122 : decode cX10_sign 122 = .ok (.aload_n 0, 1) := by decide +kernel
theorem dX10_sign_123 : decode cX10_sign 123 = .ok (.getfield 69, 3) := by decide +kernel
theorem dX10_sign_126 : decode cX10_sign 126 = .ok (.iload 6, 2) := by decide +kernel
theorem dX10_sign_128 : decode cX10_sign 128 = .ok (.iaload, 1) := by decide +kernel
theorem dX10_sign_129 : decode cX10_sign 129 = .ok (.istore 7, 2) := by decide +kernel
theorem dX10_sign_131 : decode cX10_sign 131 = .ok (.iload 4, 2) := by decide +kernel
theorem dX10_sign_133 : decode cX10_sign 133 = .ok (.iload 7, 2) := by decide +kernel
theorem dX10_sign_135 : decode cX10_sign 135 = .ok (.if_icmp .ge 38, 3) := by decide +kernel
theorem dX10_sign_138 : decode cX10_sign 138 = .ok (.iload_n 2, 1) := by decide +kernel
theorem dX10_sign_139 : decode cX10_sign 139 = .ok (.iconst 2, 1) := by decide +kernel
theorem dX10_sign_140 : decode cX10_sign 140 = .ok (.if_icmp .ne 19, 3) := by decide +kernel
theorem dX10_sign_143 : decode cX10_sign 143 = .ok (.aload_n 0, 1) := by decide +kernel
theorem dX10_sign_144 : decode cX10_sign 144 = .ok (.getfield 72, 3) := by decide +kernel
theorem dX10_sign_147 : decode cX10_sign 147 = .ok (.bipush 21, 2) := by decide +kernel
theorem dX10_sign_149 : decode cX10_sign 149 = .ok (.iload 6, 2) := by decide +kernel
theorem dX10_sign_151 : decode cX10_sign 151 = .ok (.imul, 1) := by decide +kernel
theorem dX10_sign_152 : decode cX10_sign 152 = .ok (.iload 4, 2) := by decide +kernel
theorem dX10_sign_154 : decode cX10_sign 154 = .ok (.iadd, 1) := by decide +kernel
theorem dX10_sign_155 : decode cX10_sign 155 = .ok (.iaload, 1) := by decide +kernel
theorem dX10_sign_156 : decode cX10_sign 156 = .ok (.goto 16, 3) := by decide +kernel
theorem dX10_sign_159 : decode cX10_sign 159 = .ok (.aload_n 0, 1) := by decide +kernel
theorem dX10_sign_160 : decode cX10_sign 160 = .ok (.getfield 66, 3) := by decide +kernel
theorem dX10_sign_163 : decode cX10_sign 163 = .ok (.bipush 21, 2) := by decide +kernel
theorem dX10_sign_165 : decode cX10_sign 165 = .ok (.iload 6, 2) := by decide +kernel
theorem dX10_sign_167 : decode cX10_sign 167 = .ok (.imul, 1) := by decide +kernel
theorem dX10_sign_168 : decode cX10_sign 168 = .ok (.iload 4, 2) := by decide +kernel
theorem dX10_sign_170 : decode cX10_sign 170 = .ok (.iadd, 1) := by decide +kernel
theorem dX10_sign_171 : decode cX10_sign 171 = .ok (.iaload, 1) := by decide +kernel
theorem dX10_sign_172 : decode cX10_sign 172 = .ok (.ireturn, 1) := by decide +kernel
theorem dX10_sign_173 : decode cX10_sign 173 = .ok (.iload 4, 2) := by decide +kernel
theorem dX10_sign_175 : decode cX10_sign 175 = .ok (.iload 7, 2) := by decide +kernel
theorem dX10_sign_177 : decode cX10_sign 177 = .ok (.isub, 1) := by decide +kernel
theorem dX10_sign_178 : decode cX10_sign 178 = .ok (.istore 4, 2) := by decide +kernel
theorem dX10_sign_180 : decode cX10_sign 180 = .ok (.iinc 5 1, 3) := by decide +kernel
theorem dX10_sign_183 : decode cX10_sign 183 = .ok (.goto (-117), 3) := by decide +kernel
theorem dX10_sign_186 : decode cX10_sign 186 = .ok (.iconst (-1), 1) := by decide +kernel
theorem dX10_sign_187 : decode cX10_sign 187 = .ok (.ireturn, 1) := by decide +kernel
theorem dX10_wordOf_0 : decode cX10_wordOf 0 = .ok (.iload 4, 2) := by decide +kernel
theorem dX10_wordOf_2 : decode cX10_wordOf 2 = .ok (.istore 5, 2) := by decide +kernel
theorem dX10_wordOf_4 : decode cX10_wordOf 4 = .ok (.iconst 0, 1) := by decide +kernel
theorem dX10_wordOf_5 : decode cX10_wordOf 5 = .ok (.istore 6, 2) := by decide +kernel
theorem dX10_wordOf_7 : decode cX10_wordOf 7 = .ok (.iload 6, 2) := by decide +kernel
theorem dX10_wordOf_9 : decode cX10_wordOf 9 = .ok (.aload_n 0, 1) := by decide +kernel
theorem dX10_wordOf_10 : decode cX10_wordOf 10 = .ok (.getfield 63, 3) := by decide +kernel
theorem dX10_wordOf_13 : decode cX10_wordOf 13 = .ok (.iload_n 1, 1) := by decide +kernel
theorem dX10_wordOf_14 : decode cX10_wordOf 14 = .ok (.iaload, 1) := by decide +kernel
theorem dX10_wordOf_15 : decode cX10_wordOf 15 = .ok (.if_icmp .ge 54, 3) := by decide +kernel
theorem dX10_wordOf_18 : decode cX10_wordOf 18 = .ok (.aload_n 0, 1) := by decide +kernel
theorem dX10_wordOf_19 : decode cX10_wordOf 19 = .ok (.getfield 114, 3) := by decide +kernel
theorem dX10_wordOf_22 : decode cX10_wordOf 22 = .ok (.bipush 8, 2) := by decide +kernel
theorem dX10_wordOf_24 : decode cX10_wordOf 24 = .ok (.iload_n 1, 1) := by decide +kernel
theorem dX10_wordOf_25 : decode cX10_wordOf 25 = .ok (.imul, 1) := by decide +kernel
theorem dX10_wordOf_26 : decode cX10_wordOf 26 = .ok (.iload 6, 2) := by decide +kernel
theorem dX10_wordOf_28 : decode cX10_wordOf 28 = .ok (.iadd, 1) := by decide +kernel
theorem dX10_wordOf_29 : decode cX10_wordOf 29 = .ok (.iaload, 1) := by decide +kernel
theorem dX10_wordOf_30 : decode cX10_wordOf 30 = .ok (.istore 7, 2) := by decide +kernel
theorem dX10_wordOf_32 : decode cX10_wordOf 32 = .ok (.iload 7, 2) := by decide +kernel
theorem dX10_wordOf_34 : decode cX10_wordOf 34 = .ok (.iload_n 2, 1) := by decide +kernel
theorem dX10_wordOf_35 : decode cX10_wordOf 35 = .ok (.if_icmp .eq 12, 3) := by decide +kernel
theorem dX10_wordOf_38 : decode cX10_wordOf 38 = .ok (.iload 7, 2) := by decide +kernel
theorem dX10_wordOf_40 : decode cX10_wordOf 40 = .ok (.iload_n 3, 1) := by decide +kernel
theorem dX10_wordOf_41 : decode cX10_wordOf 41 = .ok (.if_icmp .eq 6, 3) := by decide +kernel
theorem dX10_wordOf_44 : decode cX10_wordOf 44 = .ok (.goto 19, 3) := by decide +kernel
theorem dX10_wordOf_47 : decode cX10_wordOf 47 = .ok (.iload 5, 2) := by decide +kernel
theorem dX10_wordOf_49 : decode cX10_wordOf 49 = .ok (.ifCond .ne 11, 3) := by decide +kernel
theorem dX10_wordOf_52 : decode cX10_wordOf 52 = .ok (.bipush 8, 2) := by decide +kernel
theorem dX10_wordOf_54 : decode cX10_wordOf 54 = .ok (.iload_n 1, 1) := by decide +kernel
theorem dX10_wordOf_55 : decode cX10_wordOf 55 = .ok (.imul, 1) := by decide +kernel
theorem dX10_wordOf_56 : decode cX10_wordOf 56 = .ok (.iload 6, 2) := by decide +kernel
theorem dX10_wordOf_58 : decode cX10_wordOf 58 = .ok (.iadd, 1) := by decide +kernel
theorem dX10_wordOf_59 : decode cX10_wordOf 59 = .ok (.ireturn, 1) := by decide +kernel
theorem dX10_wordOf_60 : decode cX10_wordOf 60 = .ok (.iinc 5 (-1), 3) := by decide +kernel
theorem dX10_wordOf_63 : decode cX10_wordOf 63 = .ok (.iinc 6 1, 3) := by decide +kernel
theorem dX10_wordOf_66 : decode cX10_wordOf 66 = .ok (.goto (-59), 3) := by decide +kernel
theorem dX10_wordOf_69 : decode cX10_wordOf 69 = .ok (.iconst (-1), 1) := by decide +kernel
theorem dX10_wordOf_70 : decode cX10_wordOf 70 = .ok (.ireturn, 1) := by decide +kernel
theorem dX10_agree_0 : decode cX10_agree 0 = .ok (.aload_n 0, 1) := by decide +kernel
theorem dX10_agree_1 : decode cX10_agree 1 = .ok (.iconst 0, 1) := by decide +kernel
theorem dX10_agree_2 : decode cX10_agree 2 = .ok (.putfield 126, 3) := by decide +kernel
theorem dX10_agree_5 : decode cX10_agree 5 = .ok (.aload_n 0, 1) := by decide +kernel
theorem dX10_agree_6 : decode cX10_agree 6 = .ok (.iload_n 1, 1) := by decide +kernel
theorem dX10_agree_7 : decode cX10_agree 7 = .ok (.invokevirtual 210, 3) := by decide +kernel
theorem dX10_agree_10 : decode cX10_agree 10 = .ok (.ifCond .eq 11, 3) := by decide +kernel
theorem dX10_agree_13 : decode cX10_agree 13 = .ok (.aload_n 0, 1) := by decide +kernel
theorem dX10_agree_14 : decode cX10_agree 14 = .ok (.iload_n 2, 1) := by decide +kernel
theorem dX10_agree_15 : decode cX10_agree 15 = .ok (.invokevirtual 210, 3) := by decide +kernel
theorem dX10_agree_18 : decode cX10_agree 18 = .ok (.ifCond .ne 5, 3) := by decide +kernel
theorem dX10_agree_21 : decode cX10_agree 21 = .ok (.iconst (-1), 1) := by decide +kernel
theorem dX10_agree_22 : decode cX10_agree 22 = .ok (.ireturn, 1) := by decide +kernel
theorem dX10_agree_23 : decode cX10_agree 23 = .ok (.aload_n 0, 1) := by decide +kernel
theorem dX10_agree_24 : decode cX10_agree 24 = .ok (.iload_n 1, 1) := by decide +kernel
theorem dX10_agree_25 : decode cX10_agree 25 = .ok (.invokevirtual 219, 3) := by decide +kernel
theorem dX10_agree_28 : decode cX10_agree 28 = .ok (.aload_n 0, 1) := by decide +kernel
theorem dX10_agree_29 : decode cX10_agree 29 = .ok (.iload_n 2, 1) := by decide +kernel
theorem dX10_agree_30 : decode cX10_agree 30 = .ok (.invokevirtual 219, 3) := by decide +kernel
theorem dX10_agree_33 : decode cX10_agree 33 = .ok (.aload_n 0, 1) := by decide +kernel
theorem dX10_agree_34 : decode cX10_agree 34 = .ok (.getfield 117, 3) := by decide +kernel
theorem dX10_agree_37 : decode cX10_agree 37 = .ok (.iload_n 1, 1) := by decide +kernel
theorem dX10_agree_38 : decode cX10_agree 38 = .ok (.baload, 1) := by decide +kernel
theorem dX10_agree_39 : decode cX10_agree 39 = .ok (.ifCond .eq 12, 3) := by decide +kernel
theorem dX10_agree_42 : decode cX10_agree 42 = .ok (.aload_n 0, 1) := by decide +kernel
theorem dX10_agree_43 : decode cX10_agree 43 = .ok (.getfield 117, 3) := by decide +kernel
theorem dX10_agree_46 : decode cX10_agree 46 = .ok (.iload_n 2, 1) := by decide +kernel
theorem dX10_agree_47 : decode cX10_agree 47 = .ok (.baload, 1) := by decide +kernel
theorem dX10_agree_48 : decode cX10_agree 48 = .ok (.ifCond .ne 5, 3) := by decide +kernel
theorem dX10_agree_51 : decode cX10_agree 51 = .ok (.iconst (-1), 1) := by decide +kernel
theorem dX10_agree_52 : decode cX10_agree 52 = .ok (.ireturn, 1) := by decide +kernel
theorem dX10_agree_53 : decode cX10_agree 53 = .ok (.aload_n 0, 1) := by decide +kernel
theorem dX10_agree_54 : decode cX10_agree 54 = .ok (.getfield 60, 3) := by decide +kernel
theorem dX10_agree_57 : decode cX10_agree 57 = .ok (.iload_n 1, 1) := by decide +kernel
theorem dX10_agree_58 : decode cX10_agree 58 = .ok (.iaload, 1) := by decide +kernel
theorem dX10_agree_59 : decode cX10_agree 59 = .ok (.aload_n 0, 1) := by decide +kernel
theorem dX10_agree_60 : decode cX10_agree 60 = .ok (.getfield 60, 3) := by decide +kernel
theorem dX10_agree_63 : decode cX10_agree 63 = .ok (.iload_n 2, 1) := by decide +kernel
theorem dX10_agree_64 : decode cX10_agree 64 = .ok (.iaload, 1) := by decide +kernel
theorem dX10_agree_65 : decode cX10_agree 65 = .ok (.if_icmp .eq 5, 3) := by decide +kernel
theorem dX10_agree_68 : decode cX10_agree 68 = .ok (.iconst 0, 1) := by decide +kernel
theorem dX10_agree_69 : decode cX10_agree 69 = .ok (.ireturn, 1) := by decide +kernel
theorem dX10_agree_70 : decode cX10_agree 70 = .ok (.iconst 0, 1) := by decide +kernel
theorem dX10_agree_71 : decode cX10_agree 71 = .ok (.istore_n 3, 1) := by decide +kernel
theorem dX10_agree_72 : decode cX10_agree 72 = .ok (.iload_n 3, 1) := by decide +kernel
theorem dX10_agree_73 : decode cX10_agree 73 = .ok (.bipush 8, 2) := by decide +kernel
theorem dX10_agree_75 : decode cX10_agree 75 = .ok (.if_icmp .ge 70, 3) := by decide +kernel
theorem dX10_agree_78 : decode cX10_agree 78 = .ok (.aload_n 0, 1) := by decide +kernel
theorem dX10_agree_79 : decode cX10_agree 79 = .ok (.iload_n 1, 1) := by decide +kernel
theorem dX10_agree_80 : decode cX10_agree 80 = .ok (.iconst 4, 1) := by decide +kernel
theorem dX10_agree_81 : decode cX10_agree 81 = .ok (.iconst 4, 1) := by decide +kernel
theorem dX10_agree_82 : decode cX10_agree 82 = .ok (.iload_n 3, 1) := by decide +kernel
theorem dX10_agree_83 : decode cX10_agree 83 = .ok (.invokevirtual 250, 3) := by decide +kernel
theorem dX10_agree_86 : decode cX10_agree 86 = .ok (.istore 4, 2) := by decide +kernel
theorem dX10_agree_88 : decode cX10_agree 88 = .ok (.aload_n 0, 1) := by decide +kernel
theorem dX10_agree_89 : decode cX10_agree 89 = .ok (.iload_n 2, 1) := by decide +kernel
theorem dX10_agree_90 : decode cX10_agree 90 = .ok (.iconst 4, 1) := by decide +kernel
theorem dX10_agree_91 : decode cX10_agree 91 = .ok (.iconst 4, 1) := by decide +kernel
theorem dX10_agree_92 : decode cX10_agree 92 = .ok (.iload_n 3, 1) := by decide +kernel
theorem dX10_agree_93 : decode cX10_agree 93 = .ok (.invokevirtual 250, 3) := by decide +kernel
theorem dX10_agree_96 : decode cX10_agree 96 = .ok (.istore 5, 2) := by decide +kernel
theorem dX10_agree_98 : decode cX10_agree 98 = .ok (.iload 4, 2) := by decide +kernel
theorem dX10_agree_100 : decode cX10_agree 100 = .ok (.ifCond .ge 7, 3) := by decide +kernel
theorem dX10_agree_103 : decode cX10_agree 103 = .ok (.iconst 1, 1) := by decide +kernel
theorem dX10_agree_104 : decode cX10_agree 104 = .ok (.goto 4, 3) := by decide +kernel
theorem dX10_agree_107 : decode cX10_agree 107 = .ok (.iconst 0, 1) := by decide +kernel
theorem dX10_agree_108 : decode cX10_agree 108 = .ok (.iload 5, 2) := by decide +kernel
theorem dX10_agree_110 : decode cX10_agree 110 = .ok (.ifCond .ge 7, 3) := by decide +kernel
theorem dX10_agree_113 : decode cX10_agree 113 = .ok (.iconst 1, 1) := by decide +kernel
theorem dX10_agree_114 : decode cX10_agree 114 = .ok (.goto 4, 3) := by decide +kernel
theorem dX10_agree_117 : decode cX10_agree 117 = .ok (.iconst 0, 1) := by decide +kernel
theorem dX10_agree_118 : decode cX10_agree 118 = .ok (.if_icmp .ne 19, 3) := by decide +kernel
theorem dX10_agree_121 : decode cX10_agree 121 = .ok (.iload 4, 2) := by decide +kernel
theorem dX10_agree_123 : decode cX10_agree 123 = .ok (.ifCond .lt 16, 3) := by decide +kernel
theorem dX10_agree_126 : decode cX10_agree 126 = .ok (.aload_n 0, 1) := by decide +kernel
theorem dX10_agree_127 : decode cX10_agree 127 = .ok (.iload 4, 2) := by decide +kernel
theorem dX10_agree_129 : decode cX10_agree 129 = .ok (.iload 5, 2) := by decide +kernel
theorem dX10_agree_131 : decode cX10_agree 131 = .ok (.invokevirtual 222, 3) := by decide +kernel
theorem dX10_agree_134 : decode cX10_agree 134 = .ok (.ifCond .eq 5, 3) := by decide +kernel
theorem dX10_agree_137 : decode cX10_agree 137 = .ok (.iconst 0, 1) := by decide +kernel
theorem dX10_agree_138 : decode cX10_agree 138 = .ok (.ireturn, 1) := by decide +kernel
theorem dX10_agree_139 : decode cX10_agree 139 = .ok (.iinc 3 1, 3) := by decide +kernel
theorem dX10_agree_142 : decode cX10_agree 142 = .ok (.goto (-70), 3) := by decide +kernel
theorem dX10_agree_145 : decode cX10_agree 145 = .ok (.iconst 0, 1) := by decide +kernel
theorem dX10_agree_146 : decode cX10_agree 146 = .ok (.istore_n 3, 1) := by decide +kernel
theorem dX10_agree_147 : decode cX10_agree 147 = .ok (.iload_n 3, 1) := by decide +kernel
theorem dX10_agree_148 : decode cX10_agree 148 = .ok (.bipush 8, 2) := by decide +kernel
theorem dX10_agree_150 : decode cX10_agree 150 = .ok (.if_icmp .ge 114, 3) := by decide +kernel
theorem dX10_agree_153 : decode cX10_agree 153 = .ok (.aload_n 0, 1) := by decide +kernel
theorem dX10_agree_154 : decode cX10_agree 154 = .ok (.iload_n 1, 1) := by decide +kernel
theorem dX10_agree_155 : decode cX10_agree 155 = .ok (.iconst 1, 1) := by decide +kernel
theorem dX10_agree_156 : decode cX10_agree 156 = .ok (.bipush 6, 2) := by decide +kernel
theorem dX10_agree_158 : decode cX10_agree 158 = .ok (.iload_n 3, 1) := by decide +kernel
theorem dX10_agree_159 : decode cX10_agree 159 = .ok (.invokevirtual 250, 3) := by decide +kernel
theorem dX10_agree_162 : decode cX10_agree 162 = .ok (.istore 4, 2) := by decide +kernel
theorem dX10_agree_164 : decode cX10_agree 164 = .ok (.aload_n 0, 1) := by decide +kernel
theorem dX10_agree_165 : decode cX10_agree 165 = .ok (.iload_n 2, 1) := by decide +kernel
theorem dX10_agree_166 : decode cX10_agree 166 = .ok (.iconst 1, 1) := by decide +kernel
theorem dX10_agree_167 : decode cX10_agree 167 = .ok (.bipush 6, 2) := by decide +kernel
theorem dX10_agree_169 : decode cX10_agree 169 = .ok (.iload_n 3, 1) := by decide +kernel
theorem dX10_agree_170 : decode cX10_agree 170 = .ok (.invokevirtual 250, 3) := by decide +kernel
theorem dX10_agree_173 : decode cX10_agree 173 = .ok (.istore 5, 2) := by decide +kernel
theorem dX10_agree_175 : decode cX10_agree 175 = .ok (.iload 4, 2) := by decide +kernel
theorem dX10_agree_177 : decode cX10_agree 177 = .ok (.ifCond .lt 81, 3) := by decide +kernel
theorem dX10_agree_180 : decode cX10_agree 180 = .ok (.iload 5, 2) := by decide +kernel
theorem dX10_agree_182 : decode cX10_agree 182 = .ok (.ifCond .lt 76, 3) := by decide +kernel
theorem dX10_agree_185 : decode cX10_agree 185 = .ok (.aload_n 0, 1) := by decide +kernel
theorem dX10_agree_186 : decode cX10_agree 186 = .ok (.iload 4, 2) := by decide +kernel
theorem dX10_agree_188 : decode cX10_agree 188 = .ok (.iload 5, 2) := by decide +kernel
theorem dX10_agree_190 : decode cX10_agree 190 = .ok (.invokevirtual 222, 3) := by decide +kernel
theorem dX10_agree_193 : decode cX10_agree 193 = .ok (.ifCond .ne 6, 3) := by decide +kernel
theorem dX10_agree_196 : decode cX10_agree 196 = .ok (.goto 62, 3) := by decide +kernel
theorem dX10_agree_199 : decode cX10_agree 199 = .ok (.aload_n 0, 1) := by decide +kernel
theorem dX10_agree_200 : decode cX10_agree 200 = .ok (.getfield 75, 3) := by decide +kernel
theorem dX10_agree_203 : decode cX10_agree 203 = .ok (.iload 4, 2) := by decide +kernel
theorem dX10_agree_205 : decode cX10_agree 205 = .ok (.iaload, 1) := by decide +kernel
theorem dX10_agree_206 : decode cX10_agree 206 = .ok (.iconst 1, 1) := by decide +kernel
theorem dX10_agree_207 : decode cX10_agree 207 = .ok (.if_icmp .eq 14, 3) := by decide +kernel
theorem dX10_agree_210 : decode cX10_agree 210 = .ok (.aload_n 0, 1) := by decide +kernel
theorem dX10_agree_211 : decode cX10_agree 211 = .ok (.getfield 75, 3) := by decide +kernel
theorem dX10_agree_214 : decode cX10_agree 214 = .ok (.iload 5, 2) := by decide +kernel
theorem dX10_agree_216 : decode cX10_agree 216 = .ok (.iaload, 1) := by decide +kernel
theorem dX10_agree_217 : decode cX10_agree 217 = .ok (.iconst 1, 1) := by decide +kernel
theorem dX10_agree_218 : decode cX10_agree 218 = .ok (.if_icmp .ne 30, 3) := by decide +kernel
theorem dX10_agree_221 : decode cX10_agree 221 = .ok (.aload_n 0, 1) := by decide +kernel
theorem dX10_agree_222 : decode cX10_agree 222 = .ok (.getfield 72, 3) := by decide +kernel
theorem dX10_agree_225 : decode cX10_agree 225 = .ok (.bipush 21, 2) := by decide +kernel
theorem dX10_agree_227 : decode cX10_agree 227 = .ok (.iload 4, 2) := by decide +kernel
theorem dX10_agree_229 : decode cX10_agree 229 = .ok (.imul, 1) := by decide +kernel
theorem dX10_agree_230 : decode cX10_agree 230 = .ok (.iaload, 1) := by decide +kernel
theorem dX10_agree_231 : decode cX10_agree 231 = .ok (.aload_n 0, 1) := by decide +kernel
theorem dX10_agree_232 : decode cX10_agree 232 = .ok (.getfield 72, 3) := by decide +kernel
theorem dX10_agree_235 : decode cX10_agree 235 = .ok (.bipush 21, 2) := by decide +kernel
theorem dX10_agree_237 : decode cX10_agree 237 = .ok (.iload 5, 2) := by decide +kernel
theorem dX10_agree_239 : decode cX10_agree 239 = .ok (.imul, 1) := by decide +kernel
theorem dX10_agree_240 : decode cX10_agree 240 = .ok (.iaload, 1) := by decide +kernel
theorem dX10_agree_241 : decode cX10_agree 241 = .ok (.if_icmp .ne 7, 3) := by decide +kernel
theorem dX10_agree_244 : decode cX10_agree 244 = .ok (.iconst 1, 1) := by decide +kernel
theorem dX10_agree_245 : decode cX10_agree 245 = .ok (.goto 4, 3) := by decide +kernel
theorem dX10_agree_248 : decode cX10_agree 248 = .ok (.iconst 0, 1) := by decide +kernel
theorem dX10_agree_249 : decode cX10_agree 249 = .ok (.istore 6, 2) := by decide +kernel
theorem dX10_agree_251 : decode cX10_agree 251 = .ok (.iload 6, 2) := by decide +kernel
theorem dX10_agree_253 : decode cX10_agree 253 = .ok (.ifCond .ne 5, 3) := by decide +kernel
theorem dX10_agree_256 : decode cX10_agree 256 = .ok (.iconst 0, 1) := by decide +kernel
theorem dX10_agree_257 : decode cX10_agree 257 = .ok (.ireturn, 1) := by decide +kernel
theorem dX10_agree_258 : decode cX10_agree 258 = .ok (.iinc 3 1, 3) := by decide +kernel
theorem dX10_agree_261 : decode cX10_agree 261 = .ok (.goto (-114), 3) := by decide +kernel
theorem dX10_agree_264 : decode cX10_agree 264 = .ok (.iconst 1, 1) := by decide +kernel
theorem dX10_agree_265 : decode cX10_agree 265 = .ok (.ireturn, 1) := by decide +kernel
theorem dX10_father_0 : decode cX10_father 0 = .ok (.aload_n 0, 1) := by decide +kernel
theorem dX10_father_1 : decode cX10_father 1 = .ok (.iconst 0, 1) := by decide +kernel
theorem dX10_father_2 : decode cX10_father 2 = .ok (.putfield 126, 3) := by decide +kernel
theorem dX10_father_5 : decode cX10_father 5 = .ok (.aload_n 0, 1) := by decide +kernel
theorem dX10_father_6 : decode cX10_father 6 = .ok (.iload_n 1, 1) := by decide +kernel
theorem dX10_father_7 : decode cX10_father 7 = .ok (.invokevirtual 210, 3) := by decide +kernel
theorem dX10_father_10 : decode cX10_father 10 = .ok (.ifCond .eq 31, 3) := by decide +kernel
theorem dX10_father_13 : decode cX10_father 13 = .ok (.aload_n 0, 1) := by decide +kernel
theorem dX10_father_14 : decode cX10_father 14 = .ok (.iload_n 2, 1) := by decide +kernel
theorem dX10_father_15 : decode cX10_father 15 = .ok (.invokevirtual 210, 3) := by decide +kernel
theorem dX10_father_18 : decode cX10_father 18 = .ok (.ifCond .eq 23, 3) := by decide +kernel
theorem dX10_father_21 : decode cX10_father 21 = .ok (.iload_n 1, 1) := by decide +kernel
theorem dX10_father_22 : decode cX10_father 22 = .ok (.iload_n 2, 1) := by decide +kernel
theorem dX10_father_23 : decode cX10_father 23 = .ok (.if_icmp .eq 18, 3) := by decide +kernel
theorem dX10_father_26 : decode cX10_father 26 = .ok (.aload_n 0, 1) := by decide +kernel
theorem dX10_father_27 : decode cX10_father 27 = .ok (.getfield 60, 3) := by decide +kernel
theorem dX10_father_30 : decode cX10_father 30 = .ok (.iload_n 1, 1) := by decide +kernel
theorem dX10_father_31 : decode cX10_father 31 = .ok (.iaload, 1) := by decide +kernel
theorem dX10_father_32 : decode cX10_father 32 = .ok (.aload_n 0, 1) := by decide +kernel
theorem dX10_father_33 : decode cX10_father 33 = .ok (.getfield 60, 3) := by decide +kernel
theorem dX10_father_36 : decode cX10_father 36 = .ok (.iload_n 2, 1) := by decide +kernel
theorem dX10_father_37 : decode cX10_father 37 = .ok (.iaload, 1) := by decide +kernel
theorem dX10_father_38 : decode cX10_father 38 = .ok (.if_icmp .eq 5, 3) := by decide +kernel
theorem dX10_father_41 : decode cX10_father 41 = .ok (.iconst (-1), 1) := by decide +kernel
theorem dX10_father_42 : decode cX10_father 42 = .ok (.ireturn, 1) := by decide +kernel
theorem dX10_father_43 : decode cX10_father 43 = .ok (.aload_n 0, 1) := by decide +kernel
theorem dX10_father_44 : decode cX10_father 44 = .ok (.iload_n 1, 1) := by decide +kernel
theorem dX10_father_45 : decode cX10_father 45 = .ok (.invokevirtual 219, 3) := by decide +kernel
theorem dX10_father_48 : decode cX10_father 48 = .ok (.aload_n 0, 1) := by decide +kernel
theorem dX10_father_49 : decode cX10_father 49 = .ok (.iload_n 2, 1) := by decide +kernel
theorem dX10_father_50 : decode cX10_father 50 = .ok (.invokevirtual 219, 3) := by decide +kernel
theorem dX10_father_53 : decode cX10_father 53 = .ok (.aload_n 0, 1) := by decide +kernel
theorem dX10_father_54 : decode cX10_father 54 = .ok (.getfield 117, 3) := by decide +kernel
theorem dX10_father_57 : decode cX10_father 57 = .ok (.iload_n 1, 1) := by decide +kernel
theorem dX10_father_58 : decode cX10_father 58 = .ok (.baload, 1) := by decide +kernel
theorem dX10_father_59 : decode cX10_father 59 = .ok (.ifCond .eq 14, 3) := by decide +kernel
theorem dX10_father_62 : decode cX10_father 62 = .ok (.aload_n 0, 1) := by decide +kernel
theorem dX10_father_63 : decode cX10_father 63 = .ok (.iload_n 1, 1) := by decide +kernel
theorem dX10_father_64 : decode cX10_father 64 = .ok (.iconst 5, 1) := by decide +kernel
theorem dX10_father_65 : decode cX10_father 65 = .ok (.iconst 5, 1) := by decide +kernel
theorem dX10_father_66 : decode cX10_father 66 = .ok (.iconst 0, 1) := by decide +kernel
theorem dX10_father_67 : decode cX10_father 67 = .ok (.invokevirtual 250, 3) := by decide +kernel
theorem dX10_father_70 : decode cX10_father 70 = .ok (.goto 4, 3) := by decide +kernel
theorem dX10_father_73 : decode cX10_father 73 = .ok (.iconst (-1), 1) := by decide +kernel
theorem dX10_father_74 : decode cX10_father 74 = .ok (.istore_n 3, 1) := by decide +kernel
theorem dX10_father_75 : decode cX10_father 75 = .ok (.aload_n 0, 1) := by decide +kernel
theorem dX10_father_76 : decode cX10_father 76 = .ok (.getfield 117, 3) := by decide +kernel
theorem dX10_father_79 : decode cX10_father 79 = .ok (.iload_n 2, 1) := by decide +kernel
theorem dX10_father_80 : decode cX10_father 80 = .ok (.baload, 1) := by decide +kernel
theorem dX10_father_81 : decode cX10_father 81 = .ok (.ifCond .eq 14, 3) := by decide +kernel
theorem dX10_father_84 : decode cX10_father 84 = .ok (.aload_n 0, 1) := by decide +kernel
theorem dX10_father_85 : decode cX10_father 85 = .ok (.iload_n 2, 1) := by decide +kernel
theorem dX10_father_86 : decode cX10_father 86 = .ok (.iconst 1, 1) := by decide +kernel
theorem dX10_father_87 : decode cX10_father 87 = .ok (.iconst 1, 1) := by decide +kernel
theorem dX10_father_88 : decode cX10_father 88 = .ok (.iconst 0, 1) := by decide +kernel
theorem dX10_father_89 : decode cX10_father 89 = .ok (.invokevirtual 250, 3) := by decide +kernel
theorem dX10_father_92 : decode cX10_father 92 = .ok (.goto 4, 3) := by decide +kernel
theorem dX10_father_95 : decode cX10_father 95 = .ok (.iconst (-1), 1) := by decide +kernel
theorem dX10_father_96 : decode cX10_father 96 = .ok (.istore 4, 2) := by decide +kernel
theorem dX10_father_98 : decode cX10_father 98 = .ok (.iload_n 3, 1) := by decide +kernel
theorem dX10_father_99 : decode cX10_father 99 = .ok (.ifCond .lt 8, 3) := by decide +kernel
theorem dX10_father_102 : decode cX10_father 102 = .ok (.iload 4, 2) := by decide +kernel
theorem dX10_father_104 : decode cX10_father 104 = .ok (.ifCond .ge 5, 3) := by decide +kernel
theorem dX10_father_107 : decode cX10_father 107 = .ok (.iconst (-1), 1) := by decide +kernel
theorem dX10_father_108 : decode cX10_father 108 = .ok (.ireturn, 1) := by decide +kernel
theorem dX10_father_109 : decode cX10_father 109 = .ok (.aload_n 0, 1) := by decide +kernel
theorem dX10_father_110 : decode cX10_father 110 = .ok (.getfield 60, 3) := by decide +kernel
theorem dX10_father_113 : decode cX10_father 113 = .ok (.iload_n 1, 1) := by decide +kernel
theorem dX10_father_114 : decode cX10_father 114 = .ok (.iaload, 1) := by decide +kernel
theorem dX10_father_115 : decode cX10_father 115 = .ok (.istore 5, 2) := by decide +kernel
theorem dX10_father_117 : decode cX10_father 117 = .ok (.aload_n 0, 1) := by decide +kernel
theorem dX10_father_118 : decode cX10_father 118 = .ok (.getfield 75, 3) := by decide +kernel
theorem dX10_father_121 : decode cX10_father 121 = .ok (.iload_n 3, 1) := by decide +kernel
theorem dX10_father_122 : decode cX10_father 122 = .ok (.iaload, 1) := by decide +kernel
theorem dX10_father_123 : decode cX10_father 123 = .ok (.aload_n 0, 1) := by decide +kernel
theorem dX10_father_124 : decode cX10_father 124 = .ok (.getfield 75, 3) := by decide +kernel
theorem dX10_father_127 : decode cX10_father 127 = .ok (.iload 4, 2) := by decide +kernel
theorem dX10_father_129 : decode cX10_father 129 = .ok (.iaload, 1) := by decide +kernel
theorem dX10_father_130 : decode cX10_father 130 = .ok (.aload_n 0, 1) := by decide +kernel
theorem dX10_father_131 : decode cX10_father 131 = .ok (.getfield 50, 3) := by decide +kernel
theorem dX10_father_134 : decode cX10_father 134 = .ok (.iload 5, 2) := by decide +kernel
theorem dX10_father_136 : decode cX10_father 136 = .ok (.iaload, 1) := by decide +kernel
theorem dX10_father_137 : decode cX10_father 137 = .ok (.iadd, 1) := by decide +kernel
theorem dX10_father_138 : decode cX10_father 138 = .ok (.if_icmp .eq 5, 3) := by decide +kernel
theorem dX10_father_141 : decode cX10_father 141 = .ok (.iconst 0, 1) := by decide +kernel
theorem dX10_father_142 : decode cX10_father 142 = .ok (.ireturn, 1) := by decide +kernel
theorem dX10_father_143 : decode cX10_father 143 = .ok (.iconst 0, 1) := by decide +kernel
theorem dX10_father_144 : decode cX10_father 144 = .ok (.istore 6, 2) := by decide +kernel
theorem dX10_father_146 : decode cX10_father 146 = .ok (.iload 6, 2) := by decide +kernel
theorem dX10_father_148 : decode cX10_father 148 = .ok (.aload_n 0, 1) := by decide +kernel
theorem dX10_father_149 : decode cX10_father 149 = .ok (.getfield 75, 3) := by decide +kernel
theorem dX10_father_152 : decode cX10_father 152 = .ok (.iload_n 3, 1) := by decide +kernel
theorem dX10_father_153 : decode cX10_father 153 = .ok (.iaload, 1) := by decide +kernel
theorem dX10_father_154 : decode cX10_father 154 = .ok (.if_icmp .ge 79, 3) := by decide +kernel
theorem dX10_father_157 : decode cX10_father 157 = .ok (.iload 6, 2) := by decide +kernel
theorem dX10_father_159 : decode cX10_father 159 = .ok (.aload_n 0, 1) := by decide +kernel
theorem dX10_father_160 : decode cX10_father 160 = .ok (.getfield 75, 3) := by decide +kernel
theorem dX10_father_163 : decode cX10_father 163 = .ok (.iload 4, 2) := by decide +kernel
theorem dX10_father_165 : decode cX10_father 165 = .ok (.iaload, 1) := by decide +kernel
theorem dX10_father_166 : decode cX10_father 166 = .ok (.if_icmp .ge 19, 3) := by decide +kernel
theorem dX10_father_169 : decode cX10_father 169 = .ok (.aload_n 0, 1) := by decide +kernel
theorem dX10_father_170 : decode cX10_father 170 = .ok (.getfield 72, 3) := by decide +kernel
theorem dX10_father_173 : decode cX10_father 173 = .ok (.bipush 21, 2) := by decide +kernel
theorem dX10_father_175 : decode cX10_father 175 = .ok (.iload 4, 2) := by decide +kernel
theorem dX10_father_177 : decode cX10_father 177 = .ok (.imul, 1) := by decide +kernel
theorem dX10_father_178 : decode cX10_father 178 = .ok (.iload 6, 2) := by decide +kernel
theorem dX10_father_180 : decode cX10_father 180 = .ok (.iadd, 1) := by decide +kernel
theorem dX10_father_181 : decode cX10_father 181 = .ok (.iaload, 1) := by decide +kernel
theorem dX10_father_182 : decode cX10_father 182 = .ok (.goto 24, 3) := by decide +kernel
theorem dX10_father_185 : decode cX10_father 185 = .ok (.aload_n 0, 1) := by decide +kernel
theorem dX10_father_186 : decode cX10_father 186 = .ok (.getfield 53, 3) := by decide +kernel
theorem dX10_father_189 : decode cX10_father 189 = .ok (.bipush 6, 2) := by decide +kernel
theorem dX10_father_191 : decode cX10_father 191 = .ok (.iload 5, 2) := by decide +kernel
theorem dX10_father_193 : decode cX10_father 193 = .ok (.imul, 1) := by decide +kernel
theorem dX10_father_194 : decode cX10_father 194 = .ok (.iload 6, 2) := by decide +kernel
theorem dX10_father_196 : decode cX10_father 196 = .ok (.iadd, 1) := by decide +kernel
theorem dX10_father_197 : decode cX10_father 197 = .ok (.aload_n 0, 1) := by decide +kernel
theorem dX10_father_198 : decode cX10_father 198 = .ok (.getfield 75, 3) := by decide +kernel
theorem dX10_father_201 : decode cX10_father 201 = .ok (.iload 4, 2) := by decide +kernel
theorem dX10_father_203 : decode cX10_father 203 = .ok (.iaload, 1) := by decide +kernel
theorem dX10_father_204 : decode cX10_father 204 = .ok (.isub, 1) := by decide +kernel
theorem dX10_father_205 : decode cX10_father 205 = .ok (.iaload, 1) := by decide +kernel
theorem dX10_father_206 : decode cX10_father 206 = .ok (.istore 7, 2) := by decide +kernel
theorem dX10_father_208 : decode cX10_father 208 = .ok (.aload_n 0, 1) := by decide +kernel
theorem dX10_father_209 : decode cX10_father 209 = .ok (.getfield 72, 3) := by decide +kernel
theorem dX10_father_212 : decode cX10_father 212 = .ok (.bipush 21, 2) := by decide +kernel
theorem dX10_father_214 : decode cX10_father 214 = .ok (.iload_n 3, 1) := by decide +kernel
theorem dX10_father_215 : decode cX10_father 215 = .ok (.imul, 1) := by decide +kernel
theorem dX10_father_216 : decode cX10_father 216 = .ok (.iload 6, 2) := by decide +kernel
theorem dX10_father_218 : decode cX10_father 218 = .ok (.iadd, 1) := by decide +kernel
theorem dX10_father_219 : decode cX10_father 219 = .ok (.iaload, 1) := by decide +kernel
theorem dX10_father_220 : decode cX10_father 220 = .ok (.iload 7, 2) := by decide +kernel
theorem dX10_father_222 : decode cX10_father 222 = .ok (.if_icmp .eq 5, 3) := by decide +kernel
theorem dX10_father_225 : decode cX10_father 225 = .ok (.iconst 0, 1) := by decide +kernel
theorem dX10_father_226 : decode cX10_father 226 = .ok (.ireturn, 1) := by decide +kernel
theorem dX10_father_227 : decode cX10_father 227 = .ok (.iinc 6 1, 3) := by decide +kernel
theorem dX10_father_230 : decode cX10_father 230 = .ok (.goto (-84), 3) := by decide +kernel
theorem dX10_father_233 : decode cX10_father 233 = .ok (.iconst 1, 1) := by decide +kernel
theorem dX10_father_234 : decode cX10_father 234 = .ok (.ireturn, 1) := by decide +kernel
theorem dX10_table_0 : decode cX10_table 0 = .ok (.aload_n 0, 1) := by decide +kernel
theorem dX10_table_1 : decode cX10_table 1 = .ok (.iconst 0, 1) := by decide +kernel
theorem dX10_table_2 : decode cX10_table 2 = .ok (.putfield 126, 3) := by decide +kernel
theorem dX10_table_5 : decode cX10_table 5 = .ok (.iload_n 1, 1) := by decide +kernel
theorem dX10_table_6 : decode cX10_table 6 = .ok (.ifCond .lt 26, 3) := by decide +kernel
end
section
theorem dX10_table_9 : decode cX10_table 9 = .ok (.iload_n 1, 1) := by decide +kernel
theorem dX10_table_10 : decode cX10_table 10 = .ok (.bipush 25, 2) := by decide +kernel
theorem dX10_table_12 : decode cX10_table 12 = .ok (.if_icmp .gt 20, 3) := by decide +kernel
theorem dX10_table_15 : decode cX10_table 15 = .ok (.iload_n 2, 1) := by decide +kernel
theorem dX10_table_16 : decode cX10_table 16 = .ok (.ifCond .lt 16, 3) := by decide +kernel
theorem dX10_table_19 : decode cX10_table 19 = .ok (.iload_n 2, 1) := by decide +kernel
theorem dX10_table_20 : decode cX10_table 20 = .ok (.iconst 3, 1) := by decide +kernel
theorem dX10_table_21 : decode cX10_table 21 = .ok (.if_icmp .gt 11, 3) := by decide +kernel
theorem dX10_table_24 : decode cX10_table 24 = .ok (.iload_n 2, 1) := by decide +kernel
theorem dX10_table_25 : decode cX10_table 25 = .ok (.aload_n 0, 1) := by decide +kernel
theorem dX10_table_26 : decode cX10_table 26 = .ok (.getfield 129, 3) := by decide +kernel
theorem dX10_table_29 : decode cX10_table 29 = .ok (.if_icmp .le 5, 3) := by decide +kernel
theorem dX10_table_32 : decode cX10_table 32 = .ok (.iconst 0, 1) := by decide +kernel
theorem dX10_table_33 : decode cX10_table 33 = .ok (.ireturn, 1) := by decide +kernel
theorem dX10_table_34 : decode cX10_table 34 = .ok (.iconst 0, 1) := by decide +kernel
theorem dX10_table_35 : decode cX10_table 35 = .ok (.istore_n 3, 1) := by decide +kernel
theorem dX10_table_36 : decode cX10_table 36 = .ok (.iload_n 3, 1) := by decide +kernel
theorem dX10_table_37 : decode cX10_table 37 = .ok (.iload_n 2, 1) := by decide +kernel
theorem dX10_table_38 : decode cX10_table 38 = .ok (.if_icmp .ge 33, 3) := by decide +kernel
theorem dX10_table_41 : decode cX10_table 41 = .ok (.aload_n 0, 1) := by decide +kernel
theorem dX10_table_42 : decode cX10_table 42 = .ok (.getfield 7, 3) := by decide +kernel
theorem dX10_table_45 : decode cX10_table 45 = .ok (.iload_n 3, 1) := by decide +kernel
theorem dX10_table_46 : decode cX10_table 46 = .ok (.iaload, 1) := by decide +kernel
theorem dX10_table_47 : decode cX10_table 47 = .ok (.bipush 97, 2) := by decide +kernel
theorem dX10_table_49 : decode cX10_table 49 = .ok (.if_icmp .lt 14, 3) := by decide +kernel
theorem dX10_table_52 : decode cX10_table 52 = .ok (.aload_n 0, 1) := by decide +kernel
theorem dX10_table_53 : decode cX10_table 53 = .ok (.getfield 7, 3) := by decide +kernel
theorem dX10_table_56 : decode cX10_table 56 = .ok (.iload_n 3, 1) := by decide +kernel
theorem dX10_table_57 : decode cX10_table 57 = .ok (.iaload, 1) := by decide +kernel
theorem dX10_table_58 : decode cX10_table 58 = .ok (.bipush 122, 2) := by decide +kernel
theorem dX10_table_60 : decode cX10_table 60 = .ok (.if_icmp .le 5, 3) := by decide +kernel
theorem dX10_table_63 : decode cX10_table 63 = .ok (.iconst 0, 1) := by decide +kernel
theorem dX10_table_64 : decode cX10_table 64 = .ok (.ireturn, 1) := by decide +kernel
theorem dX10_table_65 : decode cX10_table 65 = .ok (.iinc 3 1, 3) := by decide +kernel
theorem dX10_table_68 : decode cX10_table 68 = .ok (.goto (-32), 3) := by decide +kernel
theorem dX10_table_71 : decode cX10_table 71 = .ok (.iconst 0, 1) := by decide +kernel
theorem dX10_table_72 : decode cX10_table 72 = .ok (.istore_n 3, 1) := by decide +kernel
theorem dX10_table_73 : decode cX10_table 73 = .ok (.iload_n 3, 1) := by decide +kernel
theorem dX10_table_74 : decode cX10_table 74 = .ok (.iload_n 2, 1) := by decide +kernel
theorem dX10_table_75 : decode cX10_table 75 = .ok (.if_icmp .ge 25, 3) := by decide +kernel
theorem dX10_table_78 : decode cX10_table 78 = .ok (.aload_n 0, 1) := by decide +kernel
theorem dX10_table_79 : decode cX10_table 79 = .ok (.getfield 78, 3) := by decide +kernel
theorem dX10_table_82 : decode cX10_table 82 = .ok (.iconst 3, 1) := by decide +kernel
theorem dX10_table_83 : decode cX10_table 83 = .ok (.iload_n 1, 1) := by decide +kernel
theorem dX10_table_84 : decode cX10_table 84 = .ok (.imul, 1) := by decide +kernel
theorem dX10_table_85 : decode cX10_table 85 = .ok (.iload_n 3, 1) := by decide +kernel
theorem dX10_table_86 : decode cX10_table 86 = .ok (.iadd, 1) := by decide +kernel
theorem dX10_table_87 : decode cX10_table 87 = .ok (.aload_n 0, 1) := by decide +kernel
theorem dX10_table_88 : decode cX10_table 88 = .ok (.getfield 7, 3) := by decide +kernel
theorem dX10_table_91 : decode cX10_table 91 = .ok (.iload_n 3, 1) := by decide +kernel
theorem dX10_table_92 : decode cX10_table 92 = .ok (.iaload, 1) := by decide +kernel
theorem dX10_table_93 : decode cX10_table 93 = .ok (.iastore, 1) := by decide +kernel
theorem dX10_table_94 : decode cX10_table 94 = .ok (.iinc 3 1, 3) := by decide +kernel
theorem dX10_table_97 : decode cX10_table 97 = .ok (.goto (-24), 3) := by decide +kernel
theorem dX10_table_100 : decode cX10_table 100 = .ok (.aload_n 0, 1) := by decide +kernel
theorem dX10_table_101 : decode cX10_table 101 = .ok (.getfield 81, 3) := by decide +kernel
theorem dX10_table_104 : decode cX10_table 104 = .ok (.iload_n 1, 1) := by decide +kernel
theorem dX10_table_105 : decode cX10_table 105 = .ok (.iload_n 2, 1) := by decide +kernel
theorem dX10_table_106 : decode cX10_table 106 = .ok (.iastore, 1) := by decide +kernel
theorem dX10_table_107 : decode cX10_table 107 = .ok (.aload_n 0, 1) := by decide +kernel
theorem dX10_table_108 : decode cX10_table 108 = .ok (.iconst 0, 1) := by decide +kernel
theorem dX10_table_109 : decode cX10_table 109 = .ok (.putfield 129, 3) := by decide +kernel
theorem dX10_table_112 : decode cX10_table 112 = .ok (.iconst 1, 1) := by decide +kernel
theorem dX10_table_113 : decode cX10_table 113 = .ok (.ireturn, 1) := by decide +kernel
theorem dX10_alike_0 : decode cX10_alike 0 = .ok (.aload_n 0, 1) := by decide +kernel
theorem dX10_alike_1 : decode cX10_alike 1 = .ok (.getfield 63, 3) := by decide +kernel
theorem dX10_alike_4 : decode cX10_alike 4 = .ok (.iload_n 1, 1) := by decide +kernel
theorem dX10_alike_5 : decode cX10_alike 5 = .ok (.iaload, 1) := by decide +kernel
theorem dX10_alike_6 : decode cX10_alike 6 = .ok (.aload_n 0, 1) := by decide +kernel
theorem dX10_alike_7 : decode cX10_alike 7 = .ok (.getfield 63, 3) := by decide +kernel
theorem dX10_alike_10 : decode cX10_alike 10 = .ok (.iload_n 2, 1) := by decide +kernel
theorem dX10_alike_11 : decode cX10_alike 11 = .ok (.iaload, 1) := by decide +kernel
theorem dX10_alike_12 : decode cX10_alike 12 = .ok (.if_icmp .eq 5, 3) := by decide +kernel
theorem dX10_alike_15 : decode cX10_alike 15 = .ok (.iconst 0, 1) := by decide +kernel
theorem dX10_alike_16 : decode cX10_alike 16 = .ok (.ireturn, 1) := by decide +kernel
theorem dX10_alike_17 : decode cX10_alike 17 = .ok (.iconst 0, 1) := by decide +kernel
theorem dX10_alike_18 : decode cX10_alike 18 = .ok (.istore_n 3, 1) := by decide +kernel
theorem dX10_alike_19 : decode cX10_alike 19 = .ok (.iload_n 3, 1) := by decide +kernel
theorem dX10_alike_20 : decode cX10_alike 20 = .ok (.aload_n 0, 1) := by decide +kernel
theorem dX10_alike_21 : decode cX10_alike 21 = .ok (.getfield 63, 3) := by decide +kernel
theorem dX10_alike_24 : decode cX10_alike 24 = .ok (.iload_n 1, 1) := by decide +kernel
theorem dX10_alike_25 : decode cX10_alike 25 = .ok (.iaload, 1) := by decide +kernel
theorem dX10_alike_26 : decode cX10_alike 26 = .ok (.if_icmp .ge 30, 3) := by decide +kernel
theorem dX10_alike_29 : decode cX10_alike 29 = .ok (.aload_n 0, 1) := by decide +kernel
theorem dX10_alike_30 : decode cX10_alike 30 = .ok (.bipush 8, 2) := by decide +kernel
theorem dX10_alike_32 : decode cX10_alike 32 = .ok (.iload_n 1, 1) := by decide +kernel
theorem dX10_alike_33 : decode cX10_alike 33 = .ok (.imul, 1) := by decide +kernel
theorem dX10_alike_34 : decode cX10_alike 34 = .ok (.iload_n 3, 1) := by decide +kernel
theorem dX10_alike_35 : decode cX10_alike 35 = .ok (.iadd, 1) := by decide +kernel
theorem dX10_alike_36 : decode cX10_alike 36 = .ok (.bipush 8, 2) := by decide +kernel
theorem dX10_alike_38 : decode cX10_alike 38 = .ok (.iload_n 2, 1) := by decide +kernel
theorem dX10_alike_39 : decode cX10_alike 39 = .ok (.imul, 1) := by decide +kernel
theorem dX10_alike_40 : decode cX10_alike 40 = .ok (.iload_n 3, 1) := by decide +kernel
theorem dX10_alike_41 : decode cX10_alike 41 = .ok (.iadd, 1) := by decide +kernel
theorem dX10_alike_42 : decode cX10_alike 42 = .ok (.invokevirtual 222, 3) := by decide +kernel
theorem dX10_alike_45 : decode cX10_alike 45 = .ok (.ifCond .eq 5, 3) := by decide +kernel
theorem dX10_alike_48 : decode cX10_alike 48 = .ok (.iconst 0, 1) := by decide +kernel
theorem dX10_alike_49 : decode cX10_alike 49 = .ok (.ireturn, 1) := by decide +kernel
theorem dX10_alike_50 : decode cX10_alike 50 = .ok (.iinc 3 1, 3) := by decide +kernel
theorem dX10_alike_53 : decode cX10_alike 53 = .ok (.goto (-34), 3) := by decide +kernel
theorem dX10_alike_56 : decode cX10_alike 56 = .ok (.iconst 1, 1) := by decide +kernel
theorem dX10_alike_57 : decode cX10_alike 57 = .ok (.ireturn, 1) := by decide +kernel
theorem dX10_overAlike_0 : decode cX10_overAlike 0 = .ok (.aload_n 0, 1) := by decide +kernel
theorem dX10_overAlike_1 : decode cX10_overAlike 1 = .ok (.iload_n 1, 1) := by decide +kernel
theorem dX10_overAlike_2 : decode cX10_overAlike 2 = .ok (.iconst 1, 1) := by decide +kernel
theorem dX10_overAlike_3 : decode cX10_overAlike 3 = .ok (.invokevirtual 244, 3) := by decide +kernel
theorem dX10_overAlike_6 : decode cX10_overAlike 6 = .ok (.istore_n 3, 1) := by decide +kernel
theorem dX10_overAlike_7 : decode cX10_overAlike 7 = .ok (.aload_n 0, 1) := by decide +kernel
theorem dX10_overAlike_8 : decode cX10_overAlike 8 = .ok (.iload_n 2, 1) := by decide +kernel
theorem dX10_overAlike_9 : decode cX10_overAlike 9 = .ok (.iconst 1, 1) := by decide +kernel
theorem dX10_overAlike_10 : decode cX10_overAlike 10 = .ok (.invokevirtual 244, 3) := by decide +kernel
theorem dX10_overAlike_13 : decode cX10_overAlike 13 = .ok (.iload_n 3, 1) := by decide +kernel
theorem dX10_overAlike_14 : decode cX10_overAlike 14 = .ok (.if_icmp .eq 5, 3) := by decide +kernel
theorem dX10_overAlike_17 : decode cX10_overAlike 17 = .ok (.iconst 0, 1) := by decide +kernel
theorem dX10_overAlike_18 : decode cX10_overAlike 18 = .ok (.ireturn, 1) := by decide +kernel
theorem dX10_overAlike_19 : decode cX10_overAlike 19 = .ok (.iconst 0, 1) := by decide +kernel
theorem dX10_overAlike_20 : decode cX10_overAlike 20 = .ok (.istore 4, 2) := by decide +kernel
theorem dX10_overAlike_22 : decode cX10_overAlike 22 = .ok (.iload 4, 2) := by decide +kernel
theorem dX10_overAlike_24 : decode cX10_overAlike 24 = .ok (.iload_n 3, 1) := by decide +kernel
theorem dX10_overAlike_25 : decode cX10_overAlike 25 = .ok (.if_icmp .ge 28, 3) := by decide +kernel
theorem dX10_overAlike_28 : decode cX10_overAlike 28 = .ok (.aload_n 0, 1) := by decide +kernel
theorem dX10_overAlike_29 : decode cX10_overAlike 29 = .ok (.iload_n 1, 1) := by decide +kernel
theorem dX10_overAlike_30 : decode cX10_overAlike 30 = .ok (.iload 4, 2) := by decide +kernel
theorem dX10_overAlike_32 : decode cX10_overAlike 32 = .ok (.invokevirtual 247, 3) := by decide +kernel
theorem dX10_overAlike_35 : decode cX10_overAlike 35 = .ok (.aload_n 0, 1) := by decide +kernel
theorem dX10_overAlike_36 : decode cX10_overAlike 36 = .ok (.iload_n 2, 1) := by decide +kernel
theorem dX10_overAlike_37 : decode cX10_overAlike 37 = .ok (.iload 4, 2) := by decide +kernel
theorem dX10_overAlike_39 : decode cX10_overAlike 39 = .ok (.invokevirtual 247, 3) := by decide +kernel
theorem dX10_overAlike_42 : decode cX10_overAlike 42 = .ok (.if_icmp .eq 5, 3) := by decide +kernel
theorem dX10_overAlike_45 : decode cX10_overAlike 45 = .ok (.iconst 0, 1) := by decide +kernel
theorem dX10_overAlike_46 : decode cX10_overAlike 46 = .ok (.ireturn, 1) := by decide +kernel
theorem dX10_overAlike_47 : decode cX10_overAlike 47 = .ok (.iinc 4 1, 3) := by decide +kernel
theorem dX10_overAlike_50 : decode cX10_overAlike 50 = .ok (.goto (-28), 3) := by decide +kernel
theorem dX10_overAlike_53 : decode cX10_overAlike 53 = .ok (.iconst 1, 1) := by decide +kernel
theorem dX10_overAlike_54 : decode cX10_overAlike 54 = .ok (.ireturn, 1) := by decide +kernel
theorem dX10_fallen_0 : decode cX10_fallen 0 = .ok (.aload_n 0, 1) := by decide +kernel
theorem dX10_fallen_1 : decode cX10_fallen 1 = .ok (.iconst 0, 1) := by decide +kernel
theorem dX10_fallen_2 : decode cX10_fallen 2 = .ok (.putfield 126, 3) := by decide +kernel
theorem dX10_fallen_5 : decode cX10_fallen 5 = .ok (.iconst 0, 1) := by decide +kernel
theorem dX10_fallen_6 : decode cX10_fallen 6 = .ok (.istore_n 1, 1) := by decide +kernel
theorem dX10_fallen_7 : decode cX10_fallen 7 = .ok (.iconst 0, 1) := by decide +kernel
theorem dX10_fallen_8 : decode cX10_fallen 8 = .ok (.istore_n 2, 1) := by decide +kernel
theorem dX10_fallen_9 : decode cX10_fallen 9 = .ok (.iload_n 2, 1) := by decide +kernel
theorem dX10_fallen_10 : decode cX10_fallen 10 = .ok (.aload_n 0, 1) := by decide +kernel
theorem dX10_fallen_11 : decode cX10_fallen 11 = .ok (.getfield 189, 3) := by decide +kernel
theorem dX10_fallen_14 : decode cX10_fallen 14 = .ok (.if_icmp .ge 53, 3) := by decide +kernel
theorem dX10_fallen_17 : decode cX10_fallen 17 = .ok (.iload_n 2, 1) := by decide +kernel
theorem dX10_fallen_18 : decode cX10_fallen 18 = .ok (.iconst 1, 1) := by decide +kernel
theorem dX10_fallen_19 : decode cX10_fallen 19 = .ok (.iadd, 1) := by decide +kernel
theorem dX10_fallen_20 : decode cX10_fallen 20 = .ok (.istore_n 3, 1) := by decide +kernel
theorem dX10_fallen_21 : decode cX10_fallen 21 = .ok (.iload_n 3, 1) := by decide +kernel
theorem dX10_fallen_22 : decode cX10_fallen 22 = .ok (.aload_n 0, 1) := by decide +kernel
theorem dX10_fallen_23 : decode cX10_fallen 23 = .ok (.getfield 189, 3) := by decide +kernel
theorem dX10_fallen_26 : decode cX10_fallen 26 = .ok (.if_icmp .ge 35, 3) := by decide +kernel
theorem dX10_fallen_29 : decode cX10_fallen 29 = .ok (.iload_n 1, 1) := by decide +kernel
theorem dX10_fallen_30 : decode cX10_fallen 30 = .ok (.aload_n 0, 1) := by decide +kernel
theorem dX10_fallen_31 : decode cX10_fallen 31 = .ok (.iload_n 2, 1) := by decide +kernel
theorem dX10_fallen_32 : decode cX10_fallen 32 = .ok (.iload_n 3, 1) := by decide +kernel
theorem dX10_fallen_33 : decode cX10_fallen 33 = .ok (.invokevirtual 254, 3) := by decide +kernel
theorem dX10_fallen_36 : decode cX10_fallen 36 = .ok (.ifCond .ne 16, 3) := by decide +kernel
theorem dX10_fallen_39 : decode cX10_fallen 39 = .ok (.aload_n 0, 1) := by decide +kernel
theorem dX10_fallen_40 : decode cX10_fallen 40 = .ok (.iload_n 2, 1) := by decide +kernel
theorem dX10_fallen_41 : decode cX10_fallen 41 = .ok (.iload_n 3, 1) := by decide +kernel
theorem dX10_fallen_42 : decode cX10_fallen 42 = .ok (.invokevirtual 257, 3) := by decide +kernel
theorem dX10_fallen_45 : decode cX10_fallen 45 = .ok (.ifCond .eq 7, 3) := by decide +kernel
theorem dX10_fallen_48 : decode cX10_fallen 48 = .ok (.iconst 1, 1) := by decide +kernel
theorem dX10_fallen_49 : decode cX10_fallen 49 = .ok (.goto 4, 3) := by decide +kernel
theorem dX10_fallen_52 : decode cX10_fallen 52 = .ok (.iconst 0, 1) := by decide +kernel
theorem dX10_fallen_53 : decode cX10_fallen 53 = .ok (.iadd, 1) := by decide +kernel
theorem dX10_fallen_54 : decode cX10_fallen 54 = .ok (.istore_n 1, 1) := by decide +kernel
theorem dX10_fallen_55 : decode cX10_fallen 55 = .ok (.iinc 3 1, 3) := by decide +kernel
theorem dX10_fallen_58 : decode cX10_fallen 58 = .ok (.goto (-37), 3) := by decide +kernel
theorem dX10_fallen_61 : decode cX10_fallen 61 = .ok (.iinc 2 1, 3) := by decide +kernel
theorem dX10_fallen_64 : decode cX10_fallen 64 = .ok (.goto (-55), 3) := by decide +kernel
theorem dX10_fallen_67 : decode cX10_fallen 67 = .ok (.iload_n 1, 1) := by decide +kernel
theorem dX10_fallen_68 : decode cX10_fallen 68 = .ok (.ireturn, 1) := by decide +kernel
theorem dX10_count_0 : decode cX10_count 0 = .ok (.aload_n 0, 1) := by decide +kernel
theorem dX10_count_1 : decode cX10_count 1 = .ok (.iconst 0, 1) := by decide +kernel
theorem dX10_count_2 : decode cX10_count 2 = .ok (.putfield 126, 3) := by decide +kernel
theorem dX10_count_5 : decode cX10_count 5 = .ok (.iconst 0, 1) := by decide +kernel
theorem dX10_count_6 : decode cX10_count 6 = .ok (.istore_n 2, 1) := by decide +kernel
theorem dX10_count_7 : decode cX10_count 7 = .ok (.iload_n 1, 1) := by decide +kernel
theorem dX10_count_8 : decode cX10_count 8 = .ok (.tableswitch 71 0 2 #[28, 33, 38], 28) := by decide +kernel
theorem dX10_count_36 : decode cX10_count 36 = .ok (.aload_n 0, 1) := by decide +kernel
theorem dX10_count_37 : decode cX10_count 37 = .ok (.getfield 176, 3) := by decide +kernel
theorem dX10_count_40 : decode cX10_count 40 = .ok (.ireturn, 1) := by decide +kernel
theorem dX10_count_41 : decode cX10_count 41 = .ok (.aload_n 0, 1) := by decide +kernel
theorem dX10_count_42 : decode cX10_count 42 = .ok (.getfield 189, 3) := by decide +kernel
theorem dX10_count_45 : decode cX10_count 45 = .ok (.ireturn, 1) := by decide +kernel
theorem dX10_count_46 : decode cX10_count 46 = .ok (.iconst 0, 1) := by decide +kernel
theorem dX10_count_47 : decode cX10_count 47 = .ok (.istore_n 3, 1) := by decide +kernel
theorem dX10_count_48 : decode cX10_count 48 = .ok (.iload_n 3, 1) := by decide +kernel
theorem dX10_count_49 : decode cX10_count 49 = .ok (.bipush 6, 2) := by decide +kernel
theorem dX10_count_51 : decode cX10_count 51 = .ok (.if_icmp .ge 26, 3) := by decide +kernel
theorem dX10_count_54 : decode cX10_count 54 = .ok (.iload_n 2, 1) := by decide +kernel
theorem dX10_count_55 : decode cX10_count 55 = .ok (.aload_n 0, 1) := by decide +kernel
theorem dX10_count_56 : decode cX10_count 56 = .ok (.getfield 25, 3) := by decide +kernel
theorem dX10_count_59 : decode cX10_count 59 = .ok (.iload_n 3, 1) := by decide +kernel
theorem dX10_count_60 : decode cX10_count 60 = .ok (.baload, 1) := by decide +kernel
theorem dX10_count_61 : decode cX10_count 61 = .ok (.ifCond .eq 7, 3) := by decide +kernel
theorem dX10_count_64 : decode cX10_count 64 = .ok (.iconst 1, 1) := by decide +kernel
theorem dX10_count_65 : decode cX10_count 65 = .ok (.goto 4, 3) := by decide +kernel
theorem dX10_count_68 : decode cX10_count 68 = .ok (.iconst 0, 1) := by decide +kernel
theorem dX10_count_69 : decode cX10_count 69 = .ok (.iadd, 1) := by decide +kernel
theorem dX10_count_70 : decode cX10_count 70 = .ok (.istore_n 2, 1) := by decide +kernel
theorem dX10_count_71 : decode cX10_count 71 = .ok (.iinc 3 1, 3) := by decide +kernel
theorem dX10_count_74 : decode cX10_count 74 = .ok (.goto (-26), 3) := by decide +kernel
theorem dX10_count_77 : decode cX10_count 77 = .ok (.iload_n 2, 1) := by decide +kernel
theorem dX10_count_78 : decode cX10_count 78 = .ok (.ireturn, 1) := by decide +kernel
theorem dX10_count_79 : decode cX10_count 79 = .ok (.iconst (-1), 1) := by decide +kernel
theorem dX10_count_80 : decode cX10_count 80 = .ok (.ireturn, 1) := by decide +kernel
theorem dJ11_isValidCodePoint_9a6ad_0 : decode cJ11_isValidCodePoint_9a6ad 0 = .ok (.iload_n 0, 1) := by decide +kernel
theorem dJ11_isValidCodePoint_9a6ad_1 : decode cJ11_isValidCodePoint_9a6ad 1 = .ok (.bipush 16, 2) := by decide +kernel
theorem dJ11_isValidCodePoint_9a6ad_3 : decode cJ11_isValidCodePoint_9a6ad 3 = .ok (.iushr, 1) := by decide +kernel
theorem dJ11_isValidCodePoint_9a6ad_4 : decode cJ11_isValidCodePoint_9a6ad 4 = .ok (.istore_n 1, 1) := by decide +kernel
theorem dJ11_isValidCodePoint_9a6ad_5 : decode cJ11_isValidCodePoint_9a6ad 5 = .ok (.iload_n 1, 1) := by decide +kernel
theorem dJ11_isValidCodePoint_9a6ad_6 : decode cJ11_isValidCodePoint_9a6ad 6 = .ok (.bipush 17, 2) := by decide +kernel
theorem dJ11_isValidCodePoint_9a6ad_8 : decode cJ11_isValidCodePoint_9a6ad 8 = .ok (.if_icmp .ge 7, 3) := by decide +kernel
theorem dJ11_isValidCodePoint_9a6ad_11 : decode cJ11_isValidCodePoint_9a6ad 11 = .ok (.iconst 1, 1) := by decide +kernel
theorem dJ11_isValidCodePoint_9a6ad_12 : decode cJ11_isValidCodePoint_9a6ad 12 = .ok (.goto 4, 3) := by decide +kernel
theorem dJ11_isValidCodePoint_9a6ad_15 : decode cJ11_isValidCodePoint_9a6ad 15 = .ok (.iconst 0, 1) := by decide +kernel
theorem dJ11_isValidCodePoint_9a6ad_16 : decode cJ11_isValidCodePoint_9a6ad 16 = .ok (.ireturn, 1) := by decide +kernel
theorem dJ11_highSurrogate_5068e_0 : decode cJ11_highSurrogate_5068e 0 = .ok (.iload_n 0, 1) := by decide +kernel
theorem dJ11_highSurrogate_5068e_1 : decode cJ11_highSurrogate_5068e 1 = .ok (.bipush 10, 2) := by decide +kernel
theorem dJ11_highSurrogate_5068e_3 : decode cJ11_highSurrogate_5068e 3 = .ok (.iushr, 1) := by decide +kernel
theorem dJ11_highSurrogate_5068e_4 : decode cJ11_highSurrogate_5068e 4 = .ok (.ldc 110, 2) := by decide +kernel
theorem dJ11_highSurrogate_5068e_6 : decode cJ11_highSurrogate_5068e 6 = .ok (.iadd, 1) := by decide +kernel
theorem dJ11_highSurrogate_5068e_7 : decode cJ11_highSurrogate_5068e 7 = .ok (.i2c, 1) := by decide +kernel
theorem dJ11_highSurrogate_5068e_8 : decode cJ11_highSurrogate_5068e 8 = .ok (.ireturn, 1) := by decide +kernel
theorem dJ11_lowSurrogate_5068e_0 : decode cJ11_lowSurrogate_5068e 0 = .ok (.iload_n 0, 1) := by decide +kernel
theorem dJ11_lowSurrogate_5068e_1 : decode cJ11_lowSurrogate_5068e 1 = .ok (.sipush 1023, 3) := by decide +kernel
theorem dJ11_lowSurrogate_5068e_4 : decode cJ11_lowSurrogate_5068e 4 = .ok (.iand, 1) := by decide +kernel
theorem dJ11_lowSurrogate_5068e_5 : decode cJ11_lowSurrogate_5068e 5 = .ok (.ldc 76, 2) := by decide +kernel
theorem dJ11_lowSurrogate_5068e_7 : decode cJ11_lowSurrogate_5068e 7 = .ok (.iadd, 1) := by decide +kernel
theorem dJ11_lowSurrogate_5068e_8 : decode cJ11_lowSurrogate_5068e 8 = .ok (.i2c, 1) := by decide +kernel
theorem dJ11_lowSurrogate_5068e_9 : decode cJ11_lowSurrogate_5068e 9 = .ok (.ireturn, 1) := by decide +kernel
theorem dJ9_max_7cf53_0 : decode cJ9_max_7cf53 0 = .ok (.iload_n 0, 1) := by decide +kernel
theorem dJ9_max_7cf53_1 : decode cJ9_max_7cf53 1 = .ok (.iload_n 1, 1) := by decide +kernel
theorem dJ9_max_7cf53_2 : decode cJ9_max_7cf53 2 = .ok (.if_icmp .lt 7, 3) := by decide +kernel
theorem dJ9_max_7cf53_5 : decode cJ9_max_7cf53 5 = .ok (.iload_n 0, 1) := by decide +kernel
theorem dJ9_max_7cf53_6 : decode cJ9_max_7cf53 6 = .ok (.goto 4, 3) := by decide +kernel
theorem dJ9_max_7cf53_9 : decode cJ9_max_7cf53 9 = .ok (.iload_n 1, 1) := by decide +kernel
theorem dJ9_max_7cf53_10 : decode cJ9_max_7cf53 10 = .ok (.ireturn, 1) := by decide +kernel
theorem dJ9_min_7cf53_0 : decode cJ9_min_7cf53 0 = .ok (.iload_n 0, 1) := by decide +kernel
theorem dJ9_min_7cf53_1 : decode cJ9_min_7cf53 1 = .ok (.iload_n 1, 1) := by decide +kernel
theorem dJ9_min_7cf53_2 : decode cJ9_min_7cf53 2 = .ok (.if_icmp .gt 7, 3) := by decide +kernel
theorem dJ9_min_7cf53_5 : decode cJ9_min_7cf53 5 = .ok (.iload_n 0, 1) := by decide +kernel
theorem dJ9_min_7cf53_6 : decode cJ9_min_7cf53 6 = .ok (.goto 4, 3) := by decide +kernel
theorem dJ9_min_7cf53_9 : decode cJ9_min_7cf53 9 = .ok (.iload_n 1, 1) := by decide +kernel
theorem dJ9_min_7cf53_10 : decode cJ9_min_7cf53 10 = .ok (.ireturn, 1) := by decide +kernel
theorem dJ0_length_8abf5_0 : decode cJ0_length_8abf5 0 = .ok (.aload_n 0, 1) := by decide +kernel
theorem dJ0_length_8abf5_1 : decode cJ0_length_8abf5 1 = .ok (.getfield 9, 3) := by decide +kernel
theorem dJ0_length_8abf5_4 : decode cJ0_length_8abf5 4 = .ok (.arraylength, 1) := by decide +kernel
theorem dJ0_length_8abf5_5 : decode cJ0_length_8abf5 5 = .ok (.aload_n 0, 1) := by decide +kernel
theorem dJ0_length_8abf5_6 : decode cJ0_length_8abf5 6 = .ok (.invokevirtual 335, 3) := by decide +kernel
theorem dJ0_length_8abf5_9 : decode cJ0_length_8abf5 9 = .ok (.ishr, 1) := by decide +kernel
theorem dJ0_length_8abf5_10 : decode cJ0_length_8abf5 10 = .ok (.ireturn, 1) := by decide +kernel
theorem dJ0_indexOf_0f7a4_0 : decode cJ0_indexOf_0f7a4 0 = .ok (.aload_n 0, 1) := by decide +kernel
theorem dJ0_indexOf_0f7a4_1 : decode cJ0_indexOf_0f7a4 1 = .ok (.iload_n 1, 1) := by decide +kernel
theorem dJ0_indexOf_0f7a4_2 : decode cJ0_indexOf_0f7a4 2 = .ok (.iconst 0, 1) := by decide +kernel
theorem dJ0_indexOf_0f7a4_3 : decode cJ0_indexOf_0f7a4 3 = .ok (.invokevirtual 633, 3) := by decide +kernel
theorem dJ0_indexOf_0f7a4_6 : decode cJ0_indexOf_0f7a4 6 = .ok (.ireturn, 1) := by decide +kernel
theorem dJ0_indexOf_7cf53_0 : decode cJ0_indexOf_7cf53 0 = .ok (.aload_n 0, 1) := by decide +kernel
theorem dJ0_indexOf_7cf53_1 : decode cJ0_indexOf_7cf53 1 = .ok (.invokevirtual 492, 3) := by decide +kernel
theorem dJ0_indexOf_7cf53_4 : decode cJ0_indexOf_7cf53 4 = .ok (.ifCond .eq 19, 3) := by decide +kernel
theorem dJ0_indexOf_7cf53_7 : decode cJ0_indexOf_7cf53 7 = .ok (.aload_n 0, 1) := by decide +kernel
theorem dJ0_indexOf_7cf53_8 : decode cJ0_indexOf_7cf53 8 = .ok (.getfield 9, 3) := by decide +kernel
theorem dJ0_indexOf_7cf53_11 : decode cJ0_indexOf_7cf53 11 = .ok (.iload_n 1, 1) := by decide +kernel
theorem dJ0_indexOf_7cf53_12 : decode cJ0_indexOf_7cf53 12 = .ok (.iload_n 2, 1) := by decide +kernel
theorem dJ0_indexOf_7cf53_13 : decode cJ0_indexOf_7cf53 13 = .ok (.aload_n 0, 1) := by decide +kernel
theorem dJ0_indexOf_7cf53_14 : decode cJ0_indexOf_7cf53 14 = .ok (.invokevirtual 505, 3) := by decide +kernel
theorem dJ0_indexOf_7cf53_17 : decode cJ0_indexOf_7cf53 17 = .ok (.invokestatic 637, 3) := by decide +kernel
theorem dJ0_indexOf_7cf53_20 : decode cJ0_indexOf_7cf53 20 = .ok (.goto 16, 3) := by decide +kernel
theorem dJ0_indexOf_7cf53_23 : decode cJ0_indexOf_7cf53 23 = .ok (.aload_n 0, 1) := by decide +kernel
theorem dJ0_indexOf_7cf53_24 : decode cJ0_indexOf_7cf53 24 = .ok (.getfield 9, 3) := by decide +kernel
theorem dJ0_indexOf_7cf53_27 : decode cJ0_indexOf_7cf53 27 = .ok (.iload_n 1, 1) := by decide +kernel
theorem dJ0_indexOf_7cf53_28 : decode cJ0_indexOf_7cf53 28 = .ok (.iload_n 2, 1) := by decide +kernel
theorem dJ0_indexOf_7cf53_29 : decode cJ0_indexOf_7cf53 29 = .ok (.aload_n 0, 1) := by decide +kernel
theorem dJ0_indexOf_7cf53_30 : decode cJ0_indexOf_7cf53 30 = .ok (.invokevirtual 505, 3) := by decide +kernel
theorem dJ0_indexOf_7cf53_33 : decode cJ0_indexOf_7cf53 33 = .ok (.invokestatic 640, 3) := by decide +kernel
theorem dJ0_indexOf_7cf53_36 : decode cJ0_indexOf_7cf53 36 = .ok (.ireturn, 1) := by decide +kernel
theorem dJ0_coder_7d493_0 : decode cJ0_coder_7d493 0 = .ok (.getstatic 38, 3) := by decide +kernel
theorem dJ0_coder_7d493_3 : decode cJ0_coder_7d493 3 = .ok (.ifCond .eq 10, 3) := by decide +kernel
theorem dJ0_coder_7d493_6 : decode cJ0_coder_7d493 6 = .ok (.aload_n 0, 1) := by decide +kernel
theorem dJ0_coder_7d493_7 : decode cJ0_coder_7d493 7 = .ok (.getfield 15, 3) := by decide +kernel
theorem dJ0_coder_7d493_10 : decode cJ0_coder_7d493 10 = .ok (.goto 4, 3) := by decide +kernel
theorem dJ0_coder_7d493_13 : decode cJ0_coder_7d493 13 = .ok (.iconst 1, 1) := by decide +kernel
theorem dJ0_coder_7d493_14 : decode cJ0_coder_7d493 14 = .ok (.ireturn, 1) := by decide +kernel
theorem dJ0_isLatin1_aae02_0 : decode cJ0_isLatin1_aae02 0 = .ok (.getstatic 38, 3) := by decide +kernel
theorem dJ0_isLatin1_aae02_3 : decode cJ0_isLatin1_aae02 3 = .ok (.ifCond .eq 14, 3) := by decide +kernel
theorem dJ0_isLatin1_aae02_6 : decode cJ0_isLatin1_aae02 6 = .ok (.aload_n 0, 1) := by decide +kernel
theorem dJ0_isLatin1_aae02_7 : decode cJ0_isLatin1_aae02 7 = .ok (.getfield 15, 3) := by decide +kernel
theorem dJ0_isLatin1_aae02_10 : decode cJ0_isLatin1_aae02 10 = .ok (.ifCond .ne 7, 3) := by decide +kernel
theorem dJ0_isLatin1_aae02_13 : decode cJ0_isLatin1_aae02 13 = .ok (.iconst 1, 1) := by decide +kernel
theorem dJ0_isLatin1_aae02_14 : decode cJ0_isLatin1_aae02 14 = .ok (.goto 4, 3) := by decide +kernel
theorem dJ0_isLatin1_aae02_17 : decode cJ0_isLatin1_aae02 17 = .ok (.iconst 0, 1) := by decide +kernel
theorem dJ0_isLatin1_aae02_18 : decode cJ0_isLatin1_aae02 18 = .ok (.ireturn, 1) := by decide +kernel
theorem dJ0_checkBoundsBeginEnd_23922_0 : decode cJ0_checkBoundsBeginEnd_23922 0 = .ok (.iload_n 0, 1) := by decide +kernel
theorem dJ0_checkBoundsBeginEnd_23922_1 : decode cJ0_checkBoundsBeginEnd_23922 1 = .ok (.iload_n 1, 1) := by decide +kernel
theorem dJ0_checkBoundsBeginEnd_23922_2 : decode cJ0_checkBoundsBeginEnd_23922 2 = .ok (.iload_n 2, 1) := by decide +kernel
theorem dJ0_checkBoundsBeginEnd_23922_3 : decode cJ0_checkBoundsBeginEnd_23922 3 = .ok (.getstatic 1053, 3) := by decide +kernel
theorem dJ0_checkBoundsBeginEnd_23922_6 : decode cJ0_checkBoundsBeginEnd_23922 6 = .ok (.invokestatic 1062, 3) := by decide +kernel
theorem dJ0_checkBoundsBeginEnd_23922_9 : decode cJ0_checkBoundsBeginEnd_23922 9 = .ok (.pop, 1) := by decide +kernel
theorem dJ0_checkBoundsBeginEnd_23922_10 : decode cJ0_checkBoundsBeginEnd_23922 10 = .ok (.return_, 1) := by decide +kernel
theorem dJ1_canEncode_9a6ad_0 : decode cJ1_canEncode_9a6ad 0 = .ok (.iload_n 0, 1) := by decide +kernel
theorem dJ1_canEncode_9a6ad_1 : decode cJ1_canEncode_9a6ad 1 = .ok (.ifCond .lt 14, 3) := by decide +kernel
theorem dJ1_canEncode_9a6ad_4 : decode cJ1_canEncode_9a6ad 4 = .ok (.iload_n 0, 1) := by decide +kernel
theorem dJ1_canEncode_9a6ad_5 : decode cJ1_canEncode_9a6ad 5 = .ok (.sipush 255, 3) := by decide +kernel
theorem dJ1_canEncode_9a6ad_8 : decode cJ1_canEncode_9a6ad 8 = .ok (.if_icmp .gt 7, 3) := by decide +kernel
theorem dJ1_canEncode_9a6ad_11 : decode cJ1_canEncode_9a6ad 11 = .ok (.iconst 1, 1) := by decide +kernel
theorem dJ1_canEncode_9a6ad_12 : decode cJ1_canEncode_9a6ad 12 = .ok (.goto 4, 3) := by decide +kernel
theorem dJ1_canEncode_9a6ad_15 : decode cJ1_canEncode_9a6ad 15 = .ok (.iconst 0, 1) := by decide +kernel
theorem dJ1_canEncode_9a6ad_16 : decode cJ1_canEncode_9a6ad 16 = .ok (.ireturn, 1) := by decide +kernel
theorem dJ1_indexOf_4cfef_0 : decode cJ1_indexOf_4cfef 0 = .ok (.iload_n 1, 1) := by decide +kernel
theorem dJ1_indexOf_4cfef_1 : decode cJ1_indexOf_4cfef 1 = .ok (.invokestatic 88, 3) := by decide +kernel
theorem dJ1_indexOf_4cfef_4 : decode cJ1_indexOf_4cfef 4 = .ok (.ifCond .ne 5, 3) := by decide +kernel
theorem dJ1_indexOf_4cfef_7 : decode cJ1_indexOf_4cfef 7 = .ok (.iconst (-1), 1) := by decide +kernel
theorem dJ1_indexOf_4cfef_8 : decode cJ1_indexOf_4cfef 8 = .ok (.ireturn, 1) := by decide +kernel
theorem dJ1_indexOf_4cfef_9 : decode cJ1_indexOf_4cfef 9 = .ok (.iload_n 2, 1) := by decide +kernel
theorem dJ1_indexOf_4cfef_10 : decode cJ1_indexOf_4cfef 10 = .ok (.iconst 0, 1) := by decide +kernel
theorem dJ1_indexOf_4cfef_11 : decode cJ1_indexOf_4cfef 11 = .ok (.invokestatic 92, 3) := by decide +kernel
theorem dJ1_indexOf_4cfef_14 : decode cJ1_indexOf_4cfef 14 = .ok (.istore_n 2, 1) := by decide +kernel
theorem dJ1_indexOf_4cfef_15 : decode cJ1_indexOf_4cfef 15 = .ok (.iload_n 3, 1) := by decide +kernel
theorem dJ1_indexOf_4cfef_16 : decode cJ1_indexOf_4cfef 16 = .ok (.aload_n 0, 1) := by decide +kernel
theorem dJ1_indexOf_4cfef_17 : decode cJ1_indexOf_4cfef 17 = .ok (.arraylength, 1) := by decide +kernel
theorem dJ1_indexOf_4cfef_18 : decode cJ1_indexOf_4cfef 18 = .ok (.invokestatic 38, 3) := by decide +kernel
theorem dJ1_indexOf_4cfef_21 : decode cJ1_indexOf_4cfef 21 = .ok (.istore_n 3, 1) := by decide +kernel
theorem dJ1_indexOf_4cfef_22 : decode cJ1_indexOf_4cfef 22 = .ok (.iload_n 2, 1) := by decide +kernel
theorem dJ1_indexOf_4cfef_23 : decode cJ1_indexOf_4cfef 23 = .ok (.iload_n 3, 1) := by decide +kernel
theorem dJ1_indexOf_4cfef_24 : decode cJ1_indexOf_4cfef 24 = .ok (.if_icmp .lt 5, 3) := by decide +kernel
theorem dJ1_indexOf_4cfef_27 : decode cJ1_indexOf_4cfef 27 = .ok (.iconst (-1), 1) := by decide +kernel
theorem dJ1_indexOf_4cfef_28 : decode cJ1_indexOf_4cfef 28 = .ok (.ireturn, 1) := by decide +kernel
theorem dJ1_indexOf_4cfef_29 : decode cJ1_indexOf_4cfef 29 = .ok (.aload_n 0, 1) := by decide +kernel
theorem dJ1_indexOf_4cfef_30 : decode cJ1_indexOf_4cfef 30 = .ok (.iload_n 1, 1) := by decide +kernel
theorem dJ1_indexOf_4cfef_31 : decode cJ1_indexOf_4cfef 31 = .ok (.iload_n 2, 1) := by decide +kernel
theorem dJ1_indexOf_4cfef_32 : decode cJ1_indexOf_4cfef 32 = .ok (.iload_n 3, 1) := by decide +kernel
theorem dJ1_indexOf_4cfef_33 : decode cJ1_indexOf_4cfef 33 = .ok (.invokestatic 95, 3) := by decide +kernel
theorem dJ1_indexOf_4cfef_36 : decode cJ1_indexOf_4cfef 36 = .ok (.ireturn, 1) := by decide +kernel
theorem dJ1_indexOfChar_4cfef_0 : decode cJ1_indexOfChar_4cfef 0 = .ok (.iload_n 1, 1) := by decide +kernel
theorem dJ1_indexOfChar_4cfef_1 : decode cJ1_indexOfChar_4cfef 1 = .ok (.i2b, 1) := by decide +kernel
theorem dJ1_indexOfChar_4cfef_2 : decode cJ1_indexOfChar_4cfef 2 = .ok (.istore 4, 2) := by decide +kernel
theorem dJ1_indexOfChar_4cfef_4 : decode cJ1_indexOfChar_4cfef 4 = .ok (.iload_n 2, 1) := by decide +kernel
theorem dJ1_indexOfChar_4cfef_5 : decode cJ1_indexOfChar_4cfef 5 = .ok (.istore 5, 2) := by decide +kernel
theorem dJ1_indexOfChar_4cfef_7 : decode cJ1_indexOfChar_4cfef 7 = .ok (.iload 5, 2) := by decide +kernel
theorem dJ1_indexOfChar_4cfef_9 : decode cJ1_indexOfChar_4cfef 9 = .ok (.iload_n 3, 1) := by decide +kernel
theorem dJ1_indexOfChar_4cfef_10 : decode cJ1_indexOfChar_4cfef 10 = .ok (.if_icmp .ge 21, 3) := by decide +kernel
theorem dJ1_indexOfChar_4cfef_13 : decode cJ1_indexOfChar_4cfef 13 = .ok (.aload_n 0, 1) := by decide +kernel
theorem dJ1_indexOfChar_4cfef_14 : decode cJ1_indexOfChar_4cfef 14 = .ok (.iload 5, 2) := by decide +kernel
theorem dJ1_indexOfChar_4cfef_16 : decode cJ1_indexOfChar_4cfef 16 = .ok (.baload, 1) := by decide +kernel
theorem dJ1_indexOfChar_4cfef_17 : decode cJ1_indexOfChar_4cfef 17 = .ok (.iload 4, 2) := by decide +kernel
theorem dJ1_indexOfChar_4cfef_19 : decode cJ1_indexOfChar_4cfef 19 = .ok (.if_icmp .ne 6, 3) := by decide +kernel
theorem dJ1_indexOfChar_4cfef_22 : decode cJ1_indexOfChar_4cfef 22 = .ok (.iload 5, 2) := by decide +kernel
theorem dJ1_indexOfChar_4cfef_24 : decode cJ1_indexOfChar_4cfef 24 = .ok (.ireturn, 1) := by decide +kernel
theorem dJ1_indexOfChar_4cfef_25 : decode cJ1_indexOfChar_4cfef 25 = .ok (.iinc 5 1, 3) := by decide +kernel
theorem dJ1_indexOfChar_4cfef_28 : decode cJ1_indexOfChar_4cfef 28 = .ok (.goto (-21), 3) := by decide +kernel
theorem dJ1_indexOfChar_4cfef_31 : decode cJ1_indexOfChar_4cfef 31 = .ok (.iconst (-1), 1) := by decide +kernel
theorem dJ1_indexOfChar_4cfef_32 : decode cJ1_indexOfChar_4cfef 32 = .ok (.ireturn, 1) := by decide +kernel
theorem dJ2_getChar_3b067_0 : decode cJ2_getChar_3b067 0 = .ok (.getstatic 44, 3) := by decide +kernel
theorem dJ2_getChar_3b067_3 : decode cJ2_getChar_3b067 3 = .ok (.ifCond .ne 25, 3) := by decide +kernel
theorem dJ2_getChar_3b067_6 : decode cJ2_getChar_3b067 6 = .ok (.iload_n 1, 1) := by decide +kernel
theorem dJ2_getChar_3b067_7 : decode cJ2_getChar_3b067 7 = .ok (.ifCond .lt 11, 3) := by decide +kernel
theorem dJ2_getChar_3b067_10 : decode cJ2_getChar_3b067 10 = .ok (.iload_n 1, 1) := by decide +kernel
theorem dJ2_getChar_3b067_11 : decode cJ2_getChar_3b067 11 = .ok (.aload_n 0, 1) := by decide +kernel
theorem dJ2_getChar_3b067_12 : decode cJ2_getChar_3b067 12 = .ok (.invokestatic 48, 3) := by decide +kernel
theorem dJ2_getChar_3b067_15 : decode cJ2_getChar_3b067 15 = .ok (.if_icmp .lt 13, 3) := by decide +kernel
theorem dJ2_getChar_3b067_18 : decode cJ2_getChar_3b067 18 = .ok (.new 52, 3) := by decide +kernel
theorem dJ2_getChar_3b067_21 : decode cJ2_getChar_3b067 21 = .ok (.dup, 1) := by decide +kernel
theorem dJ2_getChar_3b067_22 : decode cJ2_getChar_3b067 22 = .ok (.ldc 54, 2) := by decide +kernel
theorem dJ2_getChar_3b067_24 : decode cJ2_getChar_3b067 24 = .ok (.invokespecial 56, 3) := by decide +kernel
theorem dJ2_getChar_3b067_27 : decode cJ2_getChar_3b067 27 = .ok (.athrow, 1) := by decide +kernel
theorem dJ2_getChar_3b067_28 : decode cJ2_getChar_3b067 28 = .ok (.iload_n 1, 1) := by decide +kernel
theorem dJ2_getChar_3b067_29 : decode cJ2_getChar_3b067 29 = .ok (.iconst 1, 1) := by decide +kernel
theorem dJ2_getChar_3b067_30 : decode cJ2_getChar_3b067 30 = .ok (.ishl, 1) := by decide +kernel
theorem dJ2_getChar_3b067_31 : decode cJ2_getChar_3b067 31 = .ok (.istore_n 1, 1) := by decide +kernel
theorem dJ2_getChar_3b067_32 : decode cJ2_getChar_3b067 32 = .ok (.aload_n 0, 1) := by decide +kernel
theorem dJ2_getChar_3b067_33 : decode cJ2_getChar_3b067 33 = .ok (.iload_n 1, 1) := by decide +kernel
theorem dJ2_getChar_3b067_34 : decode cJ2_getChar_3b067 34 = .ok (.iinc 1 1, 3) := by decide +kernel
theorem dJ2_getChar_3b067_37 : decode cJ2_getChar_3b067 37 = .ok (.baload, 1) := by decide +kernel
theorem dJ2_getChar_3b067_38 : decode cJ2_getChar_3b067 38 = .ok (.sipush 255, 3) := by decide +kernel
theorem dJ2_getChar_3b067_41 : decode cJ2_getChar_3b067 41 = .ok (.iand, 1) := by decide +kernel
theorem dJ2_getChar_3b067_42 : decode cJ2_getChar_3b067 42 = .ok (.getstatic 59, 3) := by decide +kernel
theorem dJ2_getChar_3b067_45 : decode cJ2_getChar_3b067 45 = .ok (.ishl, 1) := by decide +kernel
theorem dJ2_getChar_3b067_46 : decode cJ2_getChar_3b067 46 = .ok (.aload_n 0, 1) := by decide +kernel
theorem dJ2_getChar_3b067_47 : decode cJ2_getChar_3b067 47 = .ok (.iload_n 1, 1) := by decide +kernel
theorem dJ2_getChar_3b067_48 : decode cJ2_getChar_3b067 48 = .ok (.baload, 1) := by decide +kernel
theorem dJ2_getChar_3b067_49 : decode cJ2_getChar_3b067 49 = .ok (.sipush 255, 3) := by decide +kernel
theorem dJ2_getChar_3b067_52 : decode cJ2_getChar_3b067 52 = .ok (.iand, 1) := by decide +kernel
theorem dJ2_getChar_3b067_53 : decode cJ2_getChar_3b067 53 = .ok (.getstatic 63, 3) := by decide +kernel
theorem dJ2_getChar_3b067_56 : decode cJ2_getChar_3b067 56 = .ok (.ishl, 1) := by decide +kernel
theorem dJ2_getChar_3b067_57 : decode cJ2_getChar_3b067 57 = .ok (.ior, 1) := by decide +kernel
theorem dJ2_getChar_3b067_58 : decode cJ2_getChar_3b067 58 = .ok (.i2c, 1) := by decide +kernel
theorem dJ2_getChar_3b067_59 : decode cJ2_getChar_3b067 59 = .ok (.ireturn, 1) := by decide +kernel
theorem dJ2_length_9d52b_0 : decode cJ2_length_9d52b 0 = .ok (.aload_n 0, 1) := by decide +kernel
theorem dJ2_length_9d52b_1 : decode cJ2_length_9d52b 1 = .ok (.arraylength, 1) := by decide +kernel
theorem dJ2_length_9d52b_2 : decode cJ2_length_9d52b 2 = .ok (.iconst 1, 1) := by decide +kernel
theorem dJ2_length_9d52b_3 : decode cJ2_length_9d52b 3 = .ok (.ishr, 1) := by decide +kernel
theorem dJ2_length_9d52b_4 : decode cJ2_length_9d52b 4 = .ok (.ireturn, 1) := by decide +kernel
theorem dJ2_indexOf_4cfef_0 : decode cJ2_indexOf_4cfef 0 = .ok (.iload_n 2, 1) := by decide +kernel
theorem dJ2_indexOf_4cfef_1 : decode cJ2_indexOf_4cfef 1 = .ok (.iconst 0, 1) := by decide +kernel
theorem dJ2_indexOf_4cfef_2 : decode cJ2_indexOf_4cfef 2 = .ok (.invokestatic 224, 3) := by decide +kernel
theorem dJ2_indexOf_4cfef_5 : decode cJ2_indexOf_4cfef 5 = .ok (.istore_n 2, 1) := by decide +kernel
theorem dJ2_indexOf_4cfef_6 : decode cJ2_indexOf_4cfef 6 = .ok (.iload_n 3, 1) := by decide +kernel
theorem dJ2_indexOf_4cfef_7 : decode cJ2_indexOf_4cfef 7 = .ok (.aload_n 0, 1) := by decide +kernel
theorem dJ2_indexOf_4cfef_8 : decode cJ2_indexOf_4cfef 8 = .ok (.arraylength, 1) := by decide +kernel
theorem dJ2_indexOf_4cfef_9 : decode cJ2_indexOf_4cfef 9 = .ok (.iconst 1, 1) := by decide +kernel
theorem dJ2_indexOf_4cfef_10 : decode cJ2_indexOf_4cfef 10 = .ok (.ishr, 1) := by decide +kernel
theorem dJ2_indexOf_4cfef_11 : decode cJ2_indexOf_4cfef 11 = .ok (.invokestatic 183, 3) := by decide +kernel
theorem dJ2_indexOf_4cfef_14 : decode cJ2_indexOf_4cfef 14 = .ok (.istore_n 3, 1) := by decide +kernel
theorem dJ2_indexOf_4cfef_15 : decode cJ2_indexOf_4cfef 15 = .ok (.iload_n 2, 1) := by decide +kernel
theorem dJ2_indexOf_4cfef_16 : decode cJ2_indexOf_4cfef 16 = .ok (.iload_n 3, 1) := by decide +kernel
theorem dJ2_indexOf_4cfef_17 : decode cJ2_indexOf_4cfef 17 = .ok (.if_icmp .lt 5, 3) := by decide +kernel
theorem dJ2_indexOf_4cfef_20 : decode cJ2_indexOf_4cfef 20 = .ok (.iconst (-1), 1) := by decide +kernel
theorem dJ2_indexOf_4cfef_21 : decode cJ2_indexOf_4cfef 21 = .ok (.ireturn, 1) := by decide +kernel
theorem dJ2_indexOf_4cfef_22 : decode cJ2_indexOf_4cfef 22 = .ok (.iload_n 1, 1) := by decide +kernel
theorem dJ2_indexOf_4cfef_23 : decode cJ2_indexOf_4cfef 23 = .ok (.ldc 227, 2) := by decide +kernel
theorem dJ2_indexOf_4cfef_25 : decode cJ2_indexOf_4cfef 25 = .ok (.if_icmp .ge 11, 3) := by decide +kernel
theorem dJ2_indexOf_4cfef_28 : decode cJ2_indexOf_4cfef 28 = .ok (.aload_n 0, 1) := by decide +kernel
theorem dJ2_indexOf_4cfef_29 : decode cJ2_indexOf_4cfef 29 = .ok (.iload_n 1, 1) := by decide +kernel
theorem dJ2_indexOf_4cfef_30 : decode cJ2_indexOf_4cfef 30 = .ok (.iload_n 2, 1) := by decide +kernel
theorem dJ2_indexOf_4cfef_31 : decode cJ2_indexOf_4cfef 31 = .ok (.iload_n 3, 1) := by decide +kernel
theorem dJ2_indexOf_4cfef_32 : decode cJ2_indexOf_4cfef 32 = .ok (.invokestatic 228, 3) := by decide +kernel
theorem dJ2_indexOf_4cfef_35 : decode cJ2_indexOf_4cfef 35 = .ok (.ireturn, 1) := by decide +kernel
theorem dJ2_indexOf_4cfef_36 : decode cJ2_indexOf_4cfef 36 = .ok (.aload_n 0, 1) := by decide +kernel
theorem dJ2_indexOf_4cfef_37 : decode cJ2_indexOf_4cfef 37 = .ok (.iload_n 1, 1) := by decide +kernel
theorem dJ2_indexOf_4cfef_38 : decode cJ2_indexOf_4cfef 38 = .ok (.iload_n 2, 1) := by decide +kernel
theorem dJ2_indexOf_4cfef_39 : decode cJ2_indexOf_4cfef 39 = .ok (.iload_n 3, 1) := by decide +kernel
theorem dJ2_indexOf_4cfef_40 : decode cJ2_indexOf_4cfef 40 = .ok (.invokestatic 232, 3) := by decide +kernel
theorem dJ2_indexOf_4cfef_43 : decode cJ2_indexOf_4cfef 43 = .ok (.ireturn, 1) := by decide +kernel
theorem dJ2_indexOfChar_4cfef_0 : decode cJ2_indexOfChar_4cfef 0 = .ok (.iload_n 2, 1) := by decide +kernel
theorem dJ2_indexOfChar_4cfef_1 : decode cJ2_indexOfChar_4cfef 1 = .ok (.iload_n 3, 1) := by decide +kernel
theorem dJ2_indexOfChar_4cfef_2 : decode cJ2_indexOfChar_4cfef 2 = .ok (.aload_n 0, 1) := by decide +kernel
theorem dJ2_indexOfChar_4cfef_3 : decode cJ2_indexOfChar_4cfef 3 = .ok (.invokestatic 96, 3) := by decide +kernel
theorem dJ2_indexOfChar_4cfef_6 : decode cJ2_indexOfChar_4cfef 6 = .ok (.aload_n 0, 1) := by decide +kernel
theorem dJ2_indexOfChar_4cfef_7 : decode cJ2_indexOfChar_4cfef 7 = .ok (.iload_n 1, 1) := by decide +kernel
theorem dJ2_indexOfChar_4cfef_8 : decode cJ2_indexOfChar_4cfef 8 = .ok (.iload_n 2, 1) := by decide +kernel
theorem dJ2_indexOfChar_4cfef_9 : decode cJ2_indexOfChar_4cfef 9 = .ok (.iload_n 3, 1) := by decide +kernel
theorem dJ2_indexOfChar_4cfef_10 : decode cJ2_indexOfChar_4cfef 10 = .ok (.invokestatic 244, 3) := by decide +kernel
theorem dJ2_indexOfChar_4cfef_13 : decode cJ2_indexOfChar_4cfef 13 = .ok (.ireturn, 1) := by decide +kernel
theorem dJ2_indexOfCharUnsafe_4cfef_0 : decode cJ2_indexOfCharUnsafe_4cfef 0 = .ok (.iload_n 2, 1) := by decide +kernel
theorem dJ2_indexOfCharUnsafe_4cfef_1 : decode cJ2_indexOfCharUnsafe_4cfef 1 = .ok (.istore 4, 2) := by decide +kernel
theorem dJ2_indexOfCharUnsafe_4cfef_3 : decode cJ2_indexOfCharUnsafe_4cfef 3 = .ok (.iload 4, 2) := by decide +kernel
theorem dJ2_indexOfCharUnsafe_4cfef_5 : decode cJ2_indexOfCharUnsafe_4cfef 5 = .ok (.iload_n 3, 1) := by decide +kernel
theorem dJ2_indexOfCharUnsafe_4cfef_6 : decode cJ2_indexOfCharUnsafe_4cfef 6 = .ok (.if_icmp .ge 22, 3) := by decide +kernel
theorem dJ2_indexOfCharUnsafe_4cfef_9 : decode cJ2_indexOfCharUnsafe_4cfef 9 = .ok (.aload_n 0, 1) := by decide +kernel
theorem dJ2_indexOfCharUnsafe_4cfef_10 : decode cJ2_indexOfCharUnsafe_4cfef 10 = .ok (.iload 4, 2) := by decide +kernel
theorem dJ2_indexOfCharUnsafe_4cfef_12 : decode cJ2_indexOfCharUnsafe_4cfef 12 = .ok (.invokestatic 71, 3) := by decide +kernel
theorem dJ2_indexOfCharUnsafe_4cfef_15 : decode cJ2_indexOfCharUnsafe_4cfef 15 = .ok (.iload_n 1, 1) := by decide +kernel
theorem dJ2_indexOfCharUnsafe_4cfef_16 : decode cJ2_indexOfCharUnsafe_4cfef 16 = .ok (.if_icmp .ne 6, 3) := by decide +kernel
theorem dJ2_indexOfCharUnsafe_4cfef_19 : decode cJ2_indexOfCharUnsafe_4cfef 19 = .ok (.iload 4, 2) := by decide +kernel
theorem dJ2_indexOfCharUnsafe_4cfef_21 : decode cJ2_indexOfCharUnsafe_4cfef 21 = .ok (.ireturn, 1) := by decide +kernel
theorem dJ2_indexOfCharUnsafe_4cfef_22 : decode cJ2_indexOfCharUnsafe_4cfef 22 = .ok (.iinc 4 1, 3) := by decide +kernel
theorem dJ2_indexOfCharUnsafe_4cfef_25 : decode cJ2_indexOfCharUnsafe_4cfef 25 = .ok (.goto (-22), 3) := by decide +kernel
theorem dJ2_indexOfCharUnsafe_4cfef_28 : decode cJ2_indexOfCharUnsafe_4cfef 28 = .ok (.iconst (-1), 1) := by decide +kernel
theorem dJ2_indexOfCharUnsafe_4cfef_29 : decode cJ2_indexOfCharUnsafe_4cfef 29 = .ok (.ireturn, 1) := by decide +kernel
theorem dJ2_indexOfSupplementary_4cfef_0 : decode cJ2_indexOfSupplementary_4cfef 0 = .ok (.iload_n 1, 1) := by decide +kernel
theorem dJ2_indexOfSupplementary_4cfef_1 : decode cJ2_indexOfSupplementary_4cfef 1 = .ok (.invokestatic 164, 3) := by decide +kernel
theorem dJ2_indexOfSupplementary_4cfef_4 : decode cJ2_indexOfSupplementary_4cfef 4 = .ok (.ifCond .eq 65, 3) := by decide +kernel
theorem dJ2_indexOfSupplementary_4cfef_7 : decode cJ2_indexOfSupplementary_4cfef 7 = .ok (.iload_n 1, 1) := by decide +kernel
theorem dJ2_indexOfSupplementary_4cfef_8 : decode cJ2_indexOfSupplementary_4cfef 8 = .ok (.invokestatic 157, 3) := by decide +kernel
theorem dJ2_indexOfSupplementary_4cfef_11 : decode cJ2_indexOfSupplementary_4cfef 11 = .ok (.istore 4, 2) := by decide +kernel
theorem dJ2_indexOfSupplementary_4cfef_13 : decode cJ2_indexOfSupplementary_4cfef 13 = .ok (.iload_n 1, 1) := by decide +kernel
theorem dJ2_indexOfSupplementary_4cfef_14 : decode cJ2_indexOfSupplementary_4cfef 14 = .ok (.invokestatic 161, 3) := by decide +kernel
theorem dJ2_indexOfSupplementary_4cfef_17 : decode cJ2_indexOfSupplementary_4cfef 17 = .ok (.istore 5, 2) := by decide +kernel
theorem dJ2_indexOfSupplementary_4cfef_19 : decode cJ2_indexOfSupplementary_4cfef 19 = .ok (.iload_n 2, 1) := by decide +kernel
theorem dJ2_indexOfSupplementary_4cfef_20 : decode cJ2_indexOfSupplementary_4cfef 20 = .ok (.iload_n 3, 1) := by decide +kernel
theorem dJ2_indexOfSupplementary_4cfef_21 : decode cJ2_indexOfSupplementary_4cfef 21 = .ok (.aload_n 0, 1) := by decide +kernel
theorem dJ2_indexOfSupplementary_4cfef_22 : decode cJ2_indexOfSupplementary_4cfef 22 = .ok (.invokestatic 96, 3) := by decide +kernel
theorem dJ2_indexOfSupplementary_4cfef_25 : decode cJ2_indexOfSupplementary_4cfef 25 = .ok (.iload_n 2, 1) := by decide +kernel
theorem dJ2_indexOfSupplementary_4cfef_26 : decode cJ2_indexOfSupplementary_4cfef 26 = .ok (.istore 6, 2) := by decide +kernel
theorem dJ2_indexOfSupplementary_4cfef_28 : decode cJ2_indexOfSupplementary_4cfef 28 = .ok (.iload 6, 2) := by decide +kernel
theorem dJ2_indexOfSupplementary_4cfef_30 : decode cJ2_indexOfSupplementary_4cfef 30 = .ok (.iload_n 3, 1) := by decide +kernel
theorem dJ2_indexOfSupplementary_4cfef_31 : decode cJ2_indexOfSupplementary_4cfef 31 = .ok (.iconst 1, 1) := by decide +kernel
theorem dJ2_indexOfSupplementary_4cfef_32 : decode cJ2_indexOfSupplementary_4cfef 32 = .ok (.isub, 1) := by decide +kernel
theorem dJ2_indexOfSupplementary_4cfef_33 : decode cJ2_indexOfSupplementary_4cfef 33 = .ok (.if_icmp .ge 36, 3) := by decide +kernel
theorem dJ2_indexOfSupplementary_4cfef_36 : decode cJ2_indexOfSupplementary_4cfef 36 = .ok (.aload_n 0, 1) := by decide +kernel
theorem dJ2_indexOfSupplementary_4cfef_37 : decode cJ2_indexOfSupplementary_4cfef 37 = .ok (.iload 6, 2) := by decide +kernel
theorem dJ2_indexOfSupplementary_4cfef_39 : decode cJ2_indexOfSupplementary_4cfef 39 = .ok (.invokestatic 71, 3) := by decide +kernel
theorem dJ2_indexOfSupplementary_4cfef_42 : decode cJ2_indexOfSupplementary_4cfef 42 = .ok (.iload 4, 2) := by decide +kernel
theorem dJ2_indexOfSupplementary_4cfef_44 : decode cJ2_indexOfSupplementary_4cfef 44 = .ok (.if_icmp .ne 19, 3) := by decide +kernel
theorem dJ2_indexOfSupplementary_4cfef_47 : decode cJ2_indexOfSupplementary_4cfef 47 = .ok (.aload_n 0, 1) := by decide +kernel
theorem dJ2_indexOfSupplementary_4cfef_48 : decode cJ2_indexOfSupplementary_4cfef 48 = .ok (.iload 6, 2) := by decide +kernel
theorem dJ2_indexOfSupplementary_4cfef_50 : decode cJ2_indexOfSupplementary_4cfef 50 = .ok (.iconst 1, 1) := by decide +kernel
theorem dJ2_indexOfSupplementary_4cfef_51 : decode cJ2_indexOfSupplementary_4cfef 51 = .ok (.iadd, 1) := by decide +kernel
theorem dJ2_indexOfSupplementary_4cfef_52 : decode cJ2_indexOfSupplementary_4cfef 52 = .ok (.invokestatic 71, 3) := by decide +kernel
theorem dJ2_indexOfSupplementary_4cfef_55 : decode cJ2_indexOfSupplementary_4cfef 55 = .ok (.iload 5, 2) := by decide +kernel
theorem dJ2_indexOfSupplementary_4cfef_57 : decode cJ2_indexOfSupplementary_4cfef 57 = .ok (.if_icmp .ne 6, 3) := by decide +kernel
theorem dJ2_indexOfSupplementary_4cfef_60 : decode cJ2_indexOfSupplementary_4cfef 60 = .ok (.iload 6, 2) := by decide +kernel
theorem dJ2_indexOfSupplementary_4cfef_62 : decode cJ2_indexOfSupplementary_4cfef 62 = .ok (.ireturn, 1) := by decide +kernel
theorem dJ2_indexOfSupplementary_4cfef_63 : decode cJ2_indexOfSupplementary_4cfef 63 = .ok (.iinc 6 1, 3) := by decide +kernel
theorem dJ2_indexOfSupplementary_4cfef_66 : decode cJ2_indexOfSupplementary_4cfef 66 = .ok (.goto (-38), 3) := by decide +kernel
theorem dJ2_indexOfSupplementary_4cfef_69 : decode cJ2_indexOfSupplementary_4cfef 69 = .ok (.iconst (-1), 1) := by decide +kernel
theorem dJ2_indexOfSupplementary_4cfef_70 : decode cJ2_indexOfSupplementary_4cfef 70 = .ok (.ireturn, 1) := by decide +kernel
theorem dJ2_checkBoundsBeginEnd_d044e_0 : decode cJ2_checkBoundsBeginEnd_d044e 0 = .ok (.iload_n 0, 1) := by decide +kernel
theorem dJ2_checkBoundsBeginEnd_d044e_1 : decode cJ2_checkBoundsBeginEnd_d044e 1 = .ok (.iload_n 1, 1) := by decide +kernel
theorem dJ2_checkBoundsBeginEnd_d044e_2 : decode cJ2_checkBoundsBeginEnd_d044e 2 = .ok (.aload_n 2, 1) := by decide +kernel
theorem dJ2_checkBoundsBeginEnd_d044e_3 : decode cJ2_checkBoundsBeginEnd_d044e 3 = .ok (.invokestatic 48, 3) := by decide +kernel
theorem dJ2_checkBoundsBeginEnd_d044e_6 : decode cJ2_checkBoundsBeginEnd_d044e 6 = .ok (.invokestatic 241, 3) := by decide +kernel
theorem dJ2_checkBoundsBeginEnd_d044e_9 : decode cJ2_checkBoundsBeginEnd_d044e 9 = .ok (.return_, 1) := by decide +kernel
theorem dJ3_checkFromToIndex_8c36e_0 : decode cJ3_checkFromToIndex_8c36e 0 = .ok (.iload_n 0, 1) := by decide +kernel
theorem dJ3_checkFromToIndex_8c36e_1 : decode cJ3_checkFromToIndex_8c36e 1 = .ok (.ifCond .lt 13, 3) := by decide +kernel
theorem dJ3_checkFromToIndex_8c36e_4 : decode cJ3_checkFromToIndex_8c36e 4 = .ok (.iload_n 0, 1) := by decide +kernel
theorem dJ3_checkFromToIndex_8c36e_5 : decode cJ3_checkFromToIndex_8c36e 5 = .ok (.iload_n 1, 1) := by decide +kernel
theorem dJ3_checkFromToIndex_8c36e_6 : decode cJ3_checkFromToIndex_8c36e 6 = .ok (.if_icmp .gt 8, 3) := by decide +kernel
theorem dJ3_checkFromToIndex_8c36e_9 : decode cJ3_checkFromToIndex_8c36e 9 = .ok (.iload_n 1, 1) := by decide +kernel
theorem dJ3_checkFromToIndex_8c36e_10 : decode cJ3_checkFromToIndex_8c36e 10 = .ok (.iload_n 2, 1) := by decide +kernel
theorem dJ3_checkFromToIndex_8c36e_11 : decode cJ3_checkFromToIndex_8c36e 11 = .ok (.if_icmp .le 11, 3) := by decide +kernel
theorem dJ3_checkFromToIndex_8c36e_14 : decode cJ3_checkFromToIndex_8c36e 14 = .ok (.aload_n 3, 1) := by decide +kernel
theorem dJ3_checkFromToIndex_8c36e_15 : decode cJ3_checkFromToIndex_8c36e 15 = .ok (.iload_n 0, 1) := by decide +kernel
theorem dJ3_checkFromToIndex_8c36e_16 : decode cJ3_checkFromToIndex_8c36e 16 = .ok (.iload_n 1, 1) := by decide +kernel
theorem dJ3_checkFromToIndex_8c36e_17 : decode cJ3_checkFromToIndex_8c36e 17 = .ok (.iload_n 2, 1) := by decide +kernel
theorem dJ3_checkFromToIndex_8c36e_18 : decode cJ3_checkFromToIndex_8c36e 18 = .ok (.invokestatic 99, 3) := by decide +kernel
theorem dJ3_checkFromToIndex_8c36e_21 : decode cJ3_checkFromToIndex_8c36e 21 = .ok (.athrow, 1) := by decide +kernel
theorem dJ3_checkFromToIndex_8c36e_22 : decode cJ3_checkFromToIndex_8c36e 22 = .ok (.iload_n 0, 1) := by decide +kernel
theorem dJ3_checkFromToIndex_8c36e_23 : decode cJ3_checkFromToIndex_8c36e 23 = .ok (.ireturn, 1) := by decide +kernel
theorem dL_look_0 : decode cL_look 0 = .ok (.aload_n 3, 1) := by decide +kernel
theorem dL_look_1 : decode cL_look 1 = .ok (.iconst 0, 1) := by decide +kernel
theorem dL_look_2 : decode cL_look 2 = .ok (.aload_n 0, 1) := by decide +kernel
theorem dL_look_3 : decode cL_look 3 = .ok (.iload_n 1, 1) := by decide +kernel
theorem dL_look_4 : decode cL_look 4 = .ok (.iload_n 2, 1) := by decide +kernel
theorem dL_look_5 : decode cL_look 5 = .ok (.invokevirtual 7, 3) := by decide +kernel
theorem dL_look_8 : decode cL_look 8 = .ok (.i2l, 1) := by decide +kernel
theorem dL_look_9 : decode cL_look 9 = .ok (.lastore, 1) := by decide +kernel
theorem dL_look_10 : decode cL_look 10 = .ok (.goto 11, 3) := by decide +kernel
theorem dL_look_13 : decode cL_look 13 = .ok (.astore 4, 2) := by decide +kernel
theorem dL_look_15 : decode cL_look 15 = .ok (.iconst 1, 1) := by decide +kernel
theorem dL_look_16 : decode cL_look 16 = .ok (.ireturn, 1) := by decide +kernel
theorem dL_look_17 : decode cL_look 17 = .ok (.astore 4, 2) := by decide +kernel
theorem dL_look_19 : decode cL_look 19 = .ok (.iconst 2, 1) := by decide +kernel
theorem dL_look_20 : decode cL_look 20 = .ok (.ireturn, 1) := by decide +kernel
theorem dL_look_21 : decode cL_look 21 = .ok (.iconst 0, 1) := by decide +kernel
theorem dL_look_22 : decode cL_look 22 = .ok (.ireturn, 1) := by decide +kernel
theorem dL_law_0 : decode cL_law 0 = .ok (.new 8, 3) := by decide +kernel
theorem dL_law_3 : decode cL_law 3 = .ok (.dup, 1) := by decide +kernel
theorem dL_law_4 : decode cL_law 4 = .ok (.invokespecial 17, 3) := by decide +kernel
theorem dL_law_7 : decode cL_law 7 = .ok (.astore_n 1, 1) := by decide +kernel
theorem dL_law_8 : decode cL_law 8 = .ok (.new 18, 3) := by decide +kernel
theorem dL_law_11 : decode cL_law 11 = .ok (.dup, 1) := by decide +kernel
theorem dL_law_12 : decode cL_law 12 = .ok (.invokespecial 20, 3) := by decide +kernel
theorem dL_law_15 : decode cL_law 15 = .ok (.astore_n 2, 1) := by decide +kernel
theorem dL_law_16 : decode cL_law 16 = .ok (.iconst 1, 1) := by decide +kernel
theorem dL_law_17 : decode cL_law 17 = .ok (.newarray .long, 2) := by decide +kernel
theorem dL_law_19 : decode cL_law 19 = .ok (.astore_n 3, 1) := by decide +kernel
theorem dL_law_20 : decode cL_law 20 = .ok (.iconst 0, 1) := by decide +kernel
theorem dL_law_21 : decode cL_law 21 = .ok (.istore 4, 2) := by decide +kernel
theorem dL_law_23 : decode cL_law 23 = .ok (.iload 4, 2) := by decide +kernel
theorem dL_law_25 : decode cL_law 25 = .ok (.aload_n 0, 1) := by decide +kernel
theorem dL_law_26 : decode cL_law 26 = .ok (.arraylength, 1) := by decide +kernel
theorem dL_law_27 : decode cL_law 27 = .ok (.bipush 6, 2) := by decide +kernel
theorem dL_law_29 : decode cL_law 29 = .ok (.isub, 1) := by decide +kernel
theorem dL_law_30 : decode cL_law 30 = .ok (.if_icmp .gt 784, 3) := by decide +kernel
theorem dL_law_33 : decode cL_law 33 = .ok (.aload_n 0, 1) := by decide +kernel
theorem dL_law_34 : decode cL_law 34 = .ok (.iload 4, 2) := by decide +kernel
theorem dL_law_36 : decode cL_law 36 = .ok (.iaload, 1) := by decide +kernel
theorem dL_law_37 : decode cL_law 37 = .ok (.bipush 31, 2) := by decide +kernel
theorem dL_law_39 : decode cL_law 39 = .ok (.iand, 1) := by decide +kernel
theorem dL_law_40 : decode cL_law 40 = .ok (.tableswitch 768 0 16 #[84, 157, 194, 219, 268, 317, 354, 391, 428, 477, 545, 570, 619, 656, 693, 730, 743], 84) := by decide +kernel
theorem dL_law_124 : decode cL_law 124 = .ok (.aload_n 1, 1) := by decide +kernel
theorem dL_law_125 : decode cL_law 125 = .ok (.aload_n 0, 1) := by decide +kernel
theorem dL_law_126 : decode cL_law 126 = .ok (.iload 4, 2) := by decide +kernel
theorem dL_law_128 : decode cL_law 128 = .ok (.iconst 1, 1) := by decide +kernel
theorem dL_law_129 : decode cL_law 129 = .ok (.iadd, 1) := by decide +kernel
theorem dL_law_130 : decode cL_law 130 = .ok (.iaload, 1) := by decide +kernel
theorem dL_law_131 : decode cL_law 131 = .ok (.aload_n 0, 1) := by decide +kernel
theorem dL_law_132 : decode cL_law 132 = .ok (.iload 4, 2) := by decide +kernel
theorem dL_law_134 : decode cL_law 134 = .ok (.iconst 2, 1) := by decide +kernel
theorem dL_law_135 : decode cL_law 135 = .ok (.iadd, 1) := by decide +kernel
theorem dL_law_136 : decode cL_law 136 = .ok (.iaload, 1) := by decide +kernel
theorem dL_law_137 : decode cL_law 137 = .ok (.aload_n 0, 1) := by decide +kernel
theorem dL_law_138 : decode cL_law 138 = .ok (.iload 4, 2) := by decide +kernel
theorem dL_law_140 : decode cL_law 140 = .ok (.iconst 3, 1) := by decide +kernel
theorem dL_law_141 : decode cL_law 141 = .ok (.iadd, 1) := by decide +kernel
theorem dL_law_142 : decode cL_law 142 = .ok (.iaload, 1) := by decide +kernel
theorem dL_law_143 : decode cL_law 143 = .ok (.aload_n 0, 1) := by decide +kernel
theorem dL_law_144 : decode cL_law 144 = .ok (.iload 4, 2) := by decide +kernel
theorem dL_law_146 : decode cL_law 146 = .ok (.iconst 4, 1) := by decide +kernel
theorem dL_law_147 : decode cL_law 147 = .ok (.iadd, 1) := by decide +kernel
theorem dL_law_148 : decode cL_law 148 = .ok (.iaload, 1) := by decide +kernel
theorem dL_law_149 : decode cL_law 149 = .ok (.aload_n 0, 1) := by decide +kernel
theorem dL_law_150 : decode cL_law 150 = .ok (.iload 4, 2) := by decide +kernel
theorem dL_law_152 : decode cL_law 152 = .ok (.iconst 5, 1) := by decide +kernel
theorem dL_law_153 : decode cL_law 153 = .ok (.iadd, 1) := by decide +kernel
theorem dL_law_154 : decode cL_law 154 = .ok (.iaload, 1) := by decide +kernel
theorem dL_law_155 : decode cL_law 155 = .ok (.invokevirtual 21, 3) := by decide +kernel
theorem dL_law_158 : decode cL_law 158 = .ok (.aload_n 2, 1) := by decide +kernel
theorem dL_law_159 : decode cL_law 159 = .ok (.aload_n 0, 1) := by decide +kernel
theorem dL_law_160 : decode cL_law 160 = .ok (.iload 4, 2) := by decide +kernel
theorem dL_law_162 : decode cL_law 162 = .ok (.iconst 1, 1) := by decide +kernel
theorem dL_law_163 : decode cL_law 163 = .ok (.iadd, 1) := by decide +kernel
theorem dL_law_164 : decode cL_law 164 = .ok (.iaload, 1) := by decide +kernel
theorem dL_law_165 : decode cL_law 165 = .ok (.aload_n 0, 1) := by decide +kernel
theorem dL_law_166 : decode cL_law 166 = .ok (.iload 4, 2) := by decide +kernel
theorem dL_law_168 : decode cL_law 168 = .ok (.iconst 2, 1) := by decide +kernel
theorem dL_law_169 : decode cL_law 169 = .ok (.iadd, 1) := by decide +kernel
theorem dL_law_170 : decode cL_law 170 = .ok (.iaload, 1) := by decide +kernel
theorem dL_law_171 : decode cL_law 171 = .ok (.aload_n 0, 1) := by decide +kernel
theorem dL_law_172 : decode cL_law 172 = .ok (.iload 4, 2) := by decide +kernel
theorem dL_law_174 : decode cL_law 174 = .ok (.iconst 3, 1) := by decide +kernel
theorem dL_law_175 : decode cL_law 175 = .ok (.iadd, 1) := by decide +kernel
theorem dL_law_176 : decode cL_law 176 = .ok (.iaload, 1) := by decide +kernel
theorem dL_law_177 : decode cL_law 177 = .ok (.aload_n 0, 1) := by decide +kernel
theorem dL_law_178 : decode cL_law 178 = .ok (.iload 4, 2) := by decide +kernel
theorem dL_law_180 : decode cL_law 180 = .ok (.iconst 4, 1) := by decide +kernel
theorem dL_law_181 : decode cL_law 181 = .ok (.iadd, 1) := by decide +kernel
theorem dL_law_182 : decode cL_law 182 = .ok (.iaload, 1) := by decide +kernel
theorem dL_law_183 : decode cL_law 183 = .ok (.aload_n 0, 1) := by decide +kernel
theorem dL_law_184 : decode cL_law 184 = .ok (.iload 4, 2) := by decide +kernel
theorem dL_law_186 : decode cL_law 186 = .ok (.iconst 5, 1) := by decide +kernel
theorem dL_law_187 : decode cL_law 187 = .ok (.iadd, 1) := by decide +kernel
theorem dL_law_188 : decode cL_law 188 = .ok (.iaload, 1) := by decide +kernel
theorem dL_law_189 : decode cL_law 189 = .ok (.invokevirtual 25, 3) := by decide +kernel
theorem dL_law_192 : decode cL_law 192 = .ok (.if_icmp .eq 616, 3) := by decide +kernel
theorem dL_law_195 : decode cL_law 195 = .ok (.iconst 0, 1) := by decide +kernel
theorem dL_law_196 : decode cL_law 196 = .ok (.ireturn, 1) := by decide +kernel
theorem dL_law_197 : decode cL_law 197 = .ok (.aload_n 1, 1) := by decide +kernel
theorem dL_law_198 : decode cL_law 198 = .ok (.aload_n 0, 1) := by decide +kernel
theorem dL_law_199 : decode cL_law 199 = .ok (.iload 4, 2) := by decide +kernel
theorem dL_law_201 : decode cL_law 201 = .ok (.iconst 1, 1) := by decide +kernel
theorem dL_law_202 : decode cL_law 202 = .ok (.iadd, 1) := by decide +kernel
theorem dL_law_203 : decode cL_law 203 = .ok (.iaload, 1) := by decide +kernel
theorem dL_law_204 : decode cL_law 204 = .ok (.aload_n 0, 1) := by decide +kernel
theorem dL_law_205 : decode cL_law 205 = .ok (.iload 4, 2) := by decide +kernel
theorem dL_law_207 : decode cL_law 207 = .ok (.iconst 2, 1) := by decide +kernel
theorem dL_law_208 : decode cL_law 208 = .ok (.iadd, 1) := by decide +kernel
theorem dL_law_209 : decode cL_law 209 = .ok (.iaload, 1) := by decide +kernel
theorem dL_law_210 : decode cL_law 210 = .ok (.invokevirtual 26, 3) := by decide +kernel
theorem dL_law_213 : decode cL_law 213 = .ok (.aload_n 2, 1) := by decide +kernel
theorem dL_law_214 : decode cL_law 214 = .ok (.aload_n 0, 1) := by decide +kernel
theorem dL_law_215 : decode cL_law 215 = .ok (.iload 4, 2) := by decide +kernel
theorem dL_law_217 : decode cL_law 217 = .ok (.iconst 1, 1) := by decide +kernel
theorem dL_law_218 : decode cL_law 218 = .ok (.iadd, 1) := by decide +kernel
theorem dL_law_219 : decode cL_law 219 = .ok (.iaload, 1) := by decide +kernel
theorem dL_law_220 : decode cL_law 220 = .ok (.aload_n 0, 1) := by decide +kernel
theorem dL_law_221 : decode cL_law 221 = .ok (.iload 4, 2) := by decide +kernel
theorem dL_law_223 : decode cL_law 223 = .ok (.iconst 2, 1) := by decide +kernel
theorem dL_law_224 : decode cL_law 224 = .ok (.iadd, 1) := by decide +kernel
theorem dL_law_225 : decode cL_law 225 = .ok (.iaload, 1) := by decide +kernel
theorem dL_law_226 : decode cL_law 226 = .ok (.invokevirtual 29, 3) := by decide +kernel
theorem dL_law_229 : decode cL_law 229 = .ok (.if_icmp .eq 579, 3) := by decide +kernel
theorem dL_law_232 : decode cL_law 232 = .ok (.iconst 0, 1) := by decide +kernel
theorem dL_law_233 : decode cL_law 233 = .ok (.ireturn, 1) := by decide +kernel
theorem dL_law_234 : decode cL_law 234 = .ok (.aload_n 1, 1) := by decide +kernel
theorem dL_law_235 : decode cL_law 235 = .ok (.aload_n 0, 1) := by decide +kernel
theorem dL_law_236 : decode cL_law 236 = .ok (.iload 4, 2) := by decide +kernel
theorem dL_law_238 : decode cL_law 238 = .ok (.iconst 1, 1) := by decide +kernel
theorem dL_law_239 : decode cL_law 239 = .ok (.iadd, 1) := by decide +kernel
theorem dL_law_240 : decode cL_law 240 = .ok (.iaload, 1) := by decide +kernel
theorem dL_law_241 : decode cL_law 241 = .ok (.invokevirtual 30, 3) := by decide +kernel
theorem dL_law_244 : decode cL_law 244 = .ok (.aload_n 2, 1) := by decide +kernel
theorem dL_law_245 : decode cL_law 245 = .ok (.aload_n 0, 1) := by decide +kernel
theorem dL_law_246 : decode cL_law 246 = .ok (.iload 4, 2) := by decide +kernel
theorem dL_law_248 : decode cL_law 248 = .ok (.iconst 1, 1) := by decide +kernel
theorem dL_law_249 : decode cL_law 249 = .ok (.iadd, 1) := by decide +kernel
theorem dL_law_250 : decode cL_law 250 = .ok (.iaload, 1) := by decide +kernel
theorem dL_law_251 : decode cL_law 251 = .ok (.invokevirtual 34, 3) := by decide +kernel
theorem dL_law_254 : decode cL_law 254 = .ok (.if_icmp .eq 554, 3) := by decide +kernel
theorem dL_law_257 : decode cL_law 257 = .ok (.iconst 0, 1) := by decide +kernel
theorem dL_law_258 : decode cL_law 258 = .ok (.ireturn, 1) := by decide +kernel
theorem dL_law_259 : decode cL_law 259 = .ok (.aload_n 1, 1) := by decide +kernel
theorem dL_law_260 : decode cL_law 260 = .ok (.aload_n 0, 1) := by decide +kernel
theorem dL_law_261 : decode cL_law 261 = .ok (.iload 4, 2) := by decide +kernel
theorem dL_law_263 : decode cL_law 263 = .ok (.iconst 1, 1) := by decide +kernel
theorem dL_law_264 : decode cL_law 264 = .ok (.iadd, 1) := by decide +kernel
theorem dL_law_265 : decode cL_law 265 = .ok (.iaload, 1) := by decide +kernel
theorem dL_law_266 : decode cL_law 266 = .ok (.aload_n 0, 1) := by decide +kernel
theorem dL_law_267 : decode cL_law 267 = .ok (.iload 4, 2) := by decide +kernel
theorem dL_law_269 : decode cL_law 269 = .ok (.iconst 2, 1) := by decide +kernel
theorem dL_law_270 : decode cL_law 270 = .ok (.iadd, 1) := by decide +kernel
theorem dL_law_271 : decode cL_law 271 = .ok (.iaload, 1) := by decide +kernel
theorem dL_law_272 : decode cL_law 272 = .ok (.aload_n 0, 1) := by decide +kernel
theorem dL_law_273 : decode cL_law 273 = .ok (.iload 4, 2) := by decide +kernel
theorem dL_law_275 : decode cL_law 275 = .ok (.iconst 3, 1) := by decide +kernel
theorem dL_law_276 : decode cL_law 276 = .ok (.iadd, 1) := by decide +kernel
theorem dL_law_277 : decode cL_law 277 = .ok (.iaload, 1) := by decide +kernel
theorem dL_law_278 : decode cL_law 278 = .ok (.invokevirtual 35, 3) := by decide +kernel
theorem dL_law_281 : decode cL_law 281 = .ok (.aload_n 2, 1) := by decide +kernel
theorem dL_law_282 : decode cL_law 282 = .ok (.aload_n 0, 1) := by decide +kernel
theorem dL_law_283 : decode cL_law 283 = .ok (.iload 4, 2) := by decide +kernel
theorem dL_law_285 : decode cL_law 285 = .ok (.iconst 1, 1) := by decide +kernel
theorem dL_law_286 : decode cL_law 286 = .ok (.iadd, 1) := by decide +kernel
theorem dL_law_287 : decode cL_law 287 = .ok (.iaload, 1) := by decide +kernel
theorem dL_law_288 : decode cL_law 288 = .ok (.aload_n 0, 1) := by decide +kernel
theorem dL_law_289 : decode cL_law 289 = .ok (.iload 4, 2) := by decide +kernel
theorem dL_law_291 : decode cL_law 291 = .ok (.iconst 2, 1) := by decide +kernel
theorem dL_law_292 : decode cL_law 292 = .ok (.iadd, 1) := by decide +kernel
theorem dL_law_293 : decode cL_law 293 = .ok (.iaload, 1) := by decide +kernel
theorem dL_law_294 : decode cL_law 294 = .ok (.aload_n 0, 1) := by decide +kernel
theorem dL_law_295 : decode cL_law 295 = .ok (.iload 4, 2) := by decide +kernel
theorem dL_law_297 : decode cL_law 297 = .ok (.iconst 3, 1) := by decide +kernel
theorem dL_law_298 : decode cL_law 298 = .ok (.iadd, 1) := by decide +kernel
theorem dL_law_299 : decode cL_law 299 = .ok (.iaload, 1) := by decide +kernel
theorem dL_law_300 : decode cL_law 300 = .ok (.invokevirtual 39, 3) := by decide +kernel
theorem dL_law_303 : decode cL_law 303 = .ok (.if_icmp .eq 505, 3) := by decide +kernel
theorem dL_law_306 : decode cL_law 306 = .ok (.iconst 0, 1) := by decide +kernel
theorem dL_law_307 : decode cL_law 307 = .ok (.ireturn, 1) := by decide +kernel
theorem dL_law_308 : decode cL_law 308 = .ok (.aload_n 1, 1) := by decide +kernel
theorem dL_law_309 : decode cL_law 309 = .ok (.aload_n 0, 1) := by decide +kernel
theorem dL_law_310 : decode cL_law 310 = .ok (.iload 4, 2) := by decide +kernel
theorem dL_law_312 : decode cL_law 312 = .ok (.iconst 1, 1) := by decide +kernel
theorem dL_law_313 : decode cL_law 313 = .ok (.iadd, 1) := by decide +kernel
theorem dL_law_314 : decode cL_law 314 = .ok (.iaload, 1) := by decide +kernel
theorem dL_law_315 : decode cL_law 315 = .ok (.aload_n 0, 1) := by decide +kernel
theorem dL_law_316 : decode cL_law 316 = .ok (.iload 4, 2) := by decide +kernel
theorem dL_law_318 : decode cL_law 318 = .ok (.iconst 2, 1) := by decide +kernel
theorem dL_law_319 : decode cL_law 319 = .ok (.iadd, 1) := by decide +kernel
theorem dL_law_320 : decode cL_law 320 = .ok (.iaload, 1) := by decide +kernel
theorem dL_law_321 : decode cL_law 321 = .ok (.aload_n 0, 1) := by decide +kernel
theorem dL_law_322 : decode cL_law 322 = .ok (.iload 4, 2) := by decide +kernel
theorem dL_law_324 : decode cL_law 324 = .ok (.iconst 3, 1) := by decide +kernel
theorem dL_law_325 : decode cL_law 325 = .ok (.iadd, 1) := by decide +kernel
theorem dL_law_326 : decode cL_law 326 = .ok (.iaload, 1) := by decide +kernel
theorem dL_law_327 : decode cL_law 327 = .ok (.invokevirtual 40, 3) := by decide +kernel
theorem dL_law_330 : decode cL_law 330 = .ok (.aload_n 2, 1) := by decide +kernel
theorem dL_law_331 : decode cL_law 331 = .ok (.aload_n 0, 1) := by decide +kernel
theorem dL_law_332 : decode cL_law 332 = .ok (.iload 4, 2) := by decide +kernel
theorem dL_law_334 : decode cL_law 334 = .ok (.iconst 1, 1) := by decide +kernel
theorem dL_law_335 : decode cL_law 335 = .ok (.iadd, 1) := by decide +kernel
theorem dL_law_336 : decode cL_law 336 = .ok (.iaload, 1) := by decide +kernel
theorem dL_law_337 : decode cL_law 337 = .ok (.aload_n 0, 1) := by decide +kernel
theorem dL_law_338 : decode cL_law 338 = .ok (.iload 4, 2) := by decide +kernel
theorem dL_law_340 : decode cL_law 340 = .ok (.iconst 2, 1) := by decide +kernel
theorem dL_law_341 : decode cL_law 341 = .ok (.iadd, 1) := by decide +kernel
theorem dL_law_342 : decode cL_law 342 = .ok (.iaload, 1) := by decide +kernel
theorem dL_law_343 : decode cL_law 343 = .ok (.aload_n 0, 1) := by decide +kernel
theorem dL_law_344 : decode cL_law 344 = .ok (.iload 4, 2) := by decide +kernel
theorem dL_law_346 : decode cL_law 346 = .ok (.iconst 3, 1) := by decide +kernel
theorem dL_law_347 : decode cL_law 347 = .ok (.iadd, 1) := by decide +kernel
theorem dL_law_348 : decode cL_law 348 = .ok (.iaload, 1) := by decide +kernel
theorem dL_law_349 : decode cL_law 349 = .ok (.invokevirtual 44, 3) := by decide +kernel
theorem dL_law_352 : decode cL_law 352 = .ok (.if_icmp .eq 456, 3) := by decide +kernel
theorem dL_law_355 : decode cL_law 355 = .ok (.iconst 0, 1) := by decide +kernel
theorem dL_law_356 : decode cL_law 356 = .ok (.ireturn, 1) := by decide +kernel
theorem dL_law_357 : decode cL_law 357 = .ok (.aload_n 1, 1) := by decide +kernel
theorem dL_law_358 : decode cL_law 358 = .ok (.aload_n 0, 1) := by decide +kernel
theorem dL_law_359 : decode cL_law 359 = .ok (.iload 4, 2) := by decide +kernel
theorem dL_law_361 : decode cL_law 361 = .ok (.iconst 1, 1) := by decide +kernel
theorem dL_law_362 : decode cL_law 362 = .ok (.iadd, 1) := by decide +kernel
theorem dL_law_363 : decode cL_law 363 = .ok (.iaload, 1) := by decide +kernel
theorem dL_law_364 : decode cL_law 364 = .ok (.aload_n 0, 1) := by decide +kernel
theorem dL_law_365 : decode cL_law 365 = .ok (.iload 4, 2) := by decide +kernel
theorem dL_law_367 : decode cL_law 367 = .ok (.iconst 2, 1) := by decide +kernel
theorem dL_law_368 : decode cL_law 368 = .ok (.iadd, 1) := by decide +kernel
theorem dL_law_369 : decode cL_law 369 = .ok (.iaload, 1) := by decide +kernel
theorem dL_law_370 : decode cL_law 370 = .ok (.invokevirtual 45, 3) := by decide +kernel
theorem dL_law_373 : decode cL_law 373 = .ok (.aload_n 2, 1) := by decide +kernel
theorem dL_law_374 : decode cL_law 374 = .ok (.aload_n 0, 1) := by decide +kernel
theorem dL_law_375 : decode cL_law 375 = .ok (.iload 4, 2) := by decide +kernel
theorem dL_law_377 : decode cL_law 377 = .ok (.iconst 1, 1) := by decide +kernel
theorem dL_law_378 : decode cL_law 378 = .ok (.iadd, 1) := by decide +kernel
theorem dL_law_379 : decode cL_law 379 = .ok (.iaload, 1) := by decide +kernel
theorem dL_law_380 : decode cL_law 380 = .ok (.aload_n 0, 1) := by decide +kernel
theorem dL_law_381 : decode cL_law 381 = .ok (.iload 4, 2) := by decide +kernel
theorem dL_law_383 : decode cL_law 383 = .ok (.iconst 2, 1) := by decide +kernel
theorem dL_law_384 : decode cL_law 384 = .ok (.iadd, 1) := by decide +kernel
theorem dL_law_385 : decode cL_law 385 = .ok (.iaload, 1) := by decide +kernel
theorem dL_law_386 : decode cL_law 386 = .ok (.invokevirtual 48, 3) := by decide +kernel
theorem dL_law_389 : decode cL_law 389 = .ok (.if_icmp .eq 419, 3) := by decide +kernel
theorem dL_law_392 : decode cL_law 392 = .ok (.iconst 0, 1) := by decide +kernel
theorem dL_law_393 : decode cL_law 393 = .ok (.ireturn, 1) := by decide +kernel
theorem dL_law_394 : decode cL_law 394 = .ok (.aload_n 1, 1) := by decide +kernel
theorem dL_law_395 : decode cL_law 395 = .ok (.aload_n 0, 1) := by decide +kernel
theorem dL_law_396 : decode cL_law 396 = .ok (.iload 4, 2) := by decide +kernel
theorem dL_law_398 : decode cL_law 398 = .ok (.iconst 1, 1) := by decide +kernel
theorem dL_law_399 : decode cL_law 399 = .ok (.iadd, 1) := by decide +kernel
theorem dL_law_400 : decode cL_law 400 = .ok (.iaload, 1) := by decide +kernel
theorem dL_law_401 : decode cL_law 401 = .ok (.aload_n 0, 1) := by decide +kernel
theorem dL_law_402 : decode cL_law 402 = .ok (.iload 4, 2) := by decide +kernel
theorem dL_law_404 : decode cL_law 404 = .ok (.iconst 2, 1) := by decide +kernel
theorem dL_law_405 : decode cL_law 405 = .ok (.iadd, 1) := by decide +kernel
theorem dL_law_406 : decode cL_law 406 = .ok (.iaload, 1) := by decide +kernel
theorem dL_law_407 : decode cL_law 407 = .ok (.invokevirtual 49, 3) := by decide +kernel
theorem dL_law_410 : decode cL_law 410 = .ok (.aload_n 2, 1) := by decide +kernel
theorem dL_law_411 : decode cL_law 411 = .ok (.aload_n 0, 1) := by decide +kernel
theorem dL_law_412 : decode cL_law 412 = .ok (.iload 4, 2) := by decide +kernel
theorem dL_law_414 : decode cL_law 414 = .ok (.iconst 1, 1) := by decide +kernel
theorem dL_law_415 : decode cL_law 415 = .ok (.iadd, 1) := by decide +kernel
theorem dL_law_416 : decode cL_law 416 = .ok (.iaload, 1) := by decide +kernel
theorem dL_law_417 : decode cL_law 417 = .ok (.aload_n 0, 1) := by decide +kernel
theorem dL_law_418 : decode cL_law 418 = .ok (.iload 4, 2) := by decide +kernel
theorem dL_law_420 : decode cL_law 420 = .ok (.iconst 2, 1) := by decide +kernel
theorem dL_law_421 : decode cL_law 421 = .ok (.iadd, 1) := by decide +kernel
theorem dL_law_422 : decode cL_law 422 = .ok (.iaload, 1) := by decide +kernel
theorem dL_law_423 : decode cL_law 423 = .ok (.invokevirtual 52, 3) := by decide +kernel
theorem dL_law_426 : decode cL_law 426 = .ok (.if_icmp .eq 382, 3) := by decide +kernel
theorem dL_law_429 : decode cL_law 429 = .ok (.iconst 0, 1) := by decide +kernel
theorem dL_law_430 : decode cL_law 430 = .ok (.ireturn, 1) := by decide +kernel
theorem dL_law_431 : decode cL_law 431 = .ok (.aload_n 1, 1) := by decide +kernel
theorem dL_law_432 : decode cL_law 432 = .ok (.aload_n 0, 1) := by decide +kernel
theorem dL_law_433 : decode cL_law 433 = .ok (.iload 4, 2) := by decide +kernel
theorem dL_law_435 : decode cL_law 435 = .ok (.iconst 1, 1) := by decide +kernel
theorem dL_law_436 : decode cL_law 436 = .ok (.iadd, 1) := by decide +kernel
theorem dL_law_437 : decode cL_law 437 = .ok (.iaload, 1) := by decide +kernel
theorem dL_law_438 : decode cL_law 438 = .ok (.aload_n 0, 1) := by decide +kernel
theorem dL_law_439 : decode cL_law 439 = .ok (.iload 4, 2) := by decide +kernel
theorem dL_law_441 : decode cL_law 441 = .ok (.iconst 2, 1) := by decide +kernel
theorem dL_law_442 : decode cL_law 442 = .ok (.iadd, 1) := by decide +kernel
theorem dL_law_443 : decode cL_law 443 = .ok (.iaload, 1) := by decide +kernel
theorem dL_law_444 : decode cL_law 444 = .ok (.invokevirtual 53, 3) := by decide +kernel
theorem dL_law_447 : decode cL_law 447 = .ok (.aload_n 2, 1) := by decide +kernel
theorem dL_law_448 : decode cL_law 448 = .ok (.aload_n 0, 1) := by decide +kernel
theorem dL_law_449 : decode cL_law 449 = .ok (.iload 4, 2) := by decide +kernel
theorem dL_law_451 : decode cL_law 451 = .ok (.iconst 1, 1) := by decide +kernel
theorem dL_law_452 : decode cL_law 452 = .ok (.iadd, 1) := by decide +kernel
theorem dL_law_453 : decode cL_law 453 = .ok (.iaload, 1) := by decide +kernel
theorem dL_law_454 : decode cL_law 454 = .ok (.aload_n 0, 1) := by decide +kernel
theorem dL_law_455 : decode cL_law 455 = .ok (.iload 4, 2) := by decide +kernel
theorem dL_law_457 : decode cL_law 457 = .ok (.iconst 2, 1) := by decide +kernel
theorem dL_law_458 : decode cL_law 458 = .ok (.iadd, 1) := by decide +kernel
theorem dL_law_459 : decode cL_law 459 = .ok (.iaload, 1) := by decide +kernel
theorem dL_law_460 : decode cL_law 460 = .ok (.invokevirtual 56, 3) := by decide +kernel
theorem dL_law_463 : decode cL_law 463 = .ok (.if_icmp .eq 345, 3) := by decide +kernel
theorem dL_law_466 : decode cL_law 466 = .ok (.iconst 0, 1) := by decide +kernel
theorem dL_law_467 : decode cL_law 467 = .ok (.ireturn, 1) := by decide +kernel
theorem dL_law_468 : decode cL_law 468 = .ok (.aload_n 1, 1) := by decide +kernel
theorem dL_law_469 : decode cL_law 469 = .ok (.aload_n 0, 1) := by decide +kernel
theorem dL_law_470 : decode cL_law 470 = .ok (.iload 4, 2) := by decide +kernel
theorem dL_law_472 : decode cL_law 472 = .ok (.iconst 1, 1) := by decide +kernel
theorem dL_law_473 : decode cL_law 473 = .ok (.iadd, 1) := by decide +kernel
theorem dL_law_474 : decode cL_law 474 = .ok (.iaload, 1) := by decide +kernel
theorem dL_law_475 : decode cL_law 475 = .ok (.aload_n 0, 1) := by decide +kernel
theorem dL_law_476 : decode cL_law 476 = .ok (.iload 4, 2) := by decide +kernel
theorem dL_law_478 : decode cL_law 478 = .ok (.iconst 2, 1) := by decide +kernel
theorem dL_law_479 : decode cL_law 479 = .ok (.iadd, 1) := by decide +kernel
theorem dL_law_480 : decode cL_law 480 = .ok (.iaload, 1) := by decide +kernel
theorem dL_law_481 : decode cL_law 481 = .ok (.aload_n 0, 1) := by decide +kernel
theorem dL_law_482 : decode cL_law 482 = .ok (.iload 4, 2) := by decide +kernel
theorem dL_law_484 : decode cL_law 484 = .ok (.iconst 3, 1) := by decide +kernel
theorem dL_law_485 : decode cL_law 485 = .ok (.iadd, 1) := by decide +kernel
theorem dL_law_486 : decode cL_law 486 = .ok (.iaload, 1) := by decide +kernel
theorem dL_law_487 : decode cL_law 487 = .ok (.invokevirtual 57, 3) := by decide +kernel
theorem dL_law_490 : decode cL_law 490 = .ok (.aload_n 2, 1) := by decide +kernel
theorem dL_law_491 : decode cL_law 491 = .ok (.aload_n 0, 1) := by decide +kernel
theorem dL_law_492 : decode cL_law 492 = .ok (.iload 4, 2) := by decide +kernel
theorem dL_law_494 : decode cL_law 494 = .ok (.iconst 1, 1) := by decide +kernel
theorem dL_law_495 : decode cL_law 495 = .ok (.iadd, 1) := by decide +kernel
theorem dL_law_496 : decode cL_law 496 = .ok (.iaload, 1) := by decide +kernel
theorem dL_law_497 : decode cL_law 497 = .ok (.aload_n 0, 1) := by decide +kernel
theorem dL_law_498 : decode cL_law 498 = .ok (.iload 4, 2) := by decide +kernel
theorem dL_law_500 : decode cL_law 500 = .ok (.iconst 2, 1) := by decide +kernel
theorem dL_law_501 : decode cL_law 501 = .ok (.iadd, 1) := by decide +kernel
theorem dL_law_502 : decode cL_law 502 = .ok (.iaload, 1) := by decide +kernel
theorem dL_law_503 : decode cL_law 503 = .ok (.aload_n 0, 1) := by decide +kernel
theorem dL_law_504 : decode cL_law 504 = .ok (.iload 4, 2) := by decide +kernel
theorem dL_law_506 : decode cL_law 506 = .ok (.iconst 3, 1) := by decide +kernel
theorem dL_law_507 : decode cL_law 507 = .ok (.iadd, 1) := by decide +kernel
theorem dL_law_508 : decode cL_law 508 = .ok (.iaload, 1) := by decide +kernel
theorem dL_law_509 : decode cL_law 509 = .ok (.invokevirtual 60, 3) := by decide +kernel
theorem dL_law_512 : decode cL_law 512 = .ok (.if_icmp .eq 296, 3) := by decide +kernel
theorem dL_law_515 : decode cL_law 515 = .ok (.iconst 0, 1) := by decide +kernel
theorem dL_law_516 : decode cL_law 516 = .ok (.ireturn, 1) := by decide +kernel
theorem dL_law_517 : decode cL_law 517 = .ok (.aload_n 1, 1) := by decide +kernel
theorem dL_law_518 : decode cL_law 518 = .ok (.aload_n 0, 1) := by decide +kernel
theorem dL_law_519 : decode cL_law 519 = .ok (.iload 4, 2) := by decide +kernel
theorem dL_law_521 : decode cL_law 521 = .ok (.iconst 1, 1) := by decide +kernel
theorem dL_law_522 : decode cL_law 522 = .ok (.iadd, 1) := by decide +kernel
theorem dL_law_523 : decode cL_law 523 = .ok (.iaload, 1) := by decide +kernel
theorem dL_law_524 : decode cL_law 524 = .ok (.aload_n 0, 1) := by decide +kernel
theorem dL_law_525 : decode cL_law 525 = .ok (.iload 4, 2) := by decide +kernel
theorem dL_law_527 : decode cL_law 527 = .ok (.iconst 2, 1) := by decide +kernel
theorem dL_law_528 : decode cL_law 528 = .ok (.iadd, 1) := by decide +kernel
theorem dL_law_529 : decode cL_law 529 = .ok (.iaload, 1) := by decide +kernel
theorem dL_law_530 : decode cL_law 530 = .ok (.aload_n 3, 1) := by decide +kernel
theorem dL_law_531 : decode cL_law 531 = .ok (.invokestatic 61, 3) := by decide +kernel
theorem dL_law_534 : decode cL_law 534 = .ok (.istore 5, 2) := by decide +kernel
theorem dL_law_536 : decode cL_law 536 = .ok (.aload_n 2, 1) := by decide +kernel
theorem dL_law_537 : decode cL_law 537 = .ok (.aload_n 0, 1) := by decide +kernel
theorem dL_law_538 : decode cL_law 538 = .ok (.iload 4, 2) := by decide +kernel
theorem dL_law_540 : decode cL_law 540 = .ok (.iconst 1, 1) := by decide +kernel
theorem dL_law_541 : decode cL_law 541 = .ok (.iadd, 1) := by decide +kernel
theorem dL_law_542 : decode cL_law 542 = .ok (.iaload, 1) := by decide +kernel
theorem dL_law_543 : decode cL_law 543 = .ok (.aload_n 0, 1) := by decide +kernel
theorem dL_law_544 : decode cL_law 544 = .ok (.iload 4, 2) := by decide +kernel
theorem dL_law_546 : decode cL_law 546 = .ok (.iconst 2, 1) := by decide +kernel
theorem dL_law_547 : decode cL_law 547 = .ok (.iadd, 1) := by decide +kernel
theorem dL_law_548 : decode cL_law 548 = .ok (.iaload, 1) := by decide +kernel
theorem dL_law_549 : decode cL_law 549 = .ok (.invokevirtual 66, 3) := by decide +kernel
theorem dL_law_552 : decode cL_law 552 = .ok (.istore 6, 2) := by decide +kernel
theorem dL_law_554 : decode cL_law 554 = .ok (.aload_n 2, 1) := by decide +kernel
theorem dL_law_555 : decode cL_law 555 = .ok (.invokevirtual 67, 3) := by decide +kernel
theorem dL_law_558 : decode cL_law 558 = .ok (.iload 5, 2) := by decide +kernel
theorem dL_law_560 : decode cL_law 560 = .ok (.if_icmp .eq 5, 3) := by decide +kernel
theorem dL_law_563 : decode cL_law 563 = .ok (.iconst 0, 1) := by decide +kernel
theorem dL_law_564 : decode cL_law 564 = .ok (.ireturn, 1) := by decide +kernel
theorem dL_law_565 : decode cL_law 565 = .ok (.iload 5, 2) := by decide +kernel
theorem dL_law_567 : decode cL_law 567 = .ok (.ifCond .ne 15, 3) := by decide +kernel
theorem dL_law_570 : decode cL_law 570 = .ok (.aload_n 3, 1) := by decide +kernel
theorem dL_law_571 : decode cL_law 571 = .ok (.iconst 0, 1) := by decide +kernel
theorem dL_law_572 : decode cL_law 572 = .ok (.laload, 1) := by decide +kernel
theorem dL_law_573 : decode cL_law 573 = .ok (.iload 6, 2) := by decide +kernel
theorem dL_law_575 : decode cL_law 575 = .ok (.i2l, 1) := by decide +kernel
theorem dL_law_576 : decode cL_law 576 = .ok (.lcmp, 1) := by decide +kernel
theorem dL_law_577 : decode cL_law 577 = .ok (.ifCond .eq 5, 3) := by decide +kernel
theorem dL_law_580 : decode cL_law 580 = .ok (.iconst 0, 1) := by decide +kernel
theorem dL_law_581 : decode cL_law 581 = .ok (.ireturn, 1) := by decide +kernel
theorem dL_law_582 : decode cL_law 582 = .ok (.goto 226, 3) := by decide +kernel
theorem dL_law_585 : decode cL_law 585 = .ok (.aload_n 1, 1) := by decide +kernel
theorem dL_law_586 : decode cL_law 586 = .ok (.aload_n 0, 1) := by decide +kernel
theorem dL_law_587 : decode cL_law 587 = .ok (.iload 4, 2) := by decide +kernel
theorem dL_law_589 : decode cL_law 589 = .ok (.iconst 1, 1) := by decide +kernel
theorem dL_law_590 : decode cL_law 590 = .ok (.iadd, 1) := by decide +kernel
theorem dL_law_591 : decode cL_law 591 = .ok (.iaload, 1) := by decide +kernel
theorem dL_law_592 : decode cL_law 592 = .ok (.invokevirtual 71, 3) := by decide +kernel
theorem dL_law_595 : decode cL_law 595 = .ok (.aload_n 2, 1) := by decide +kernel
theorem dL_law_596 : decode cL_law 596 = .ok (.aload_n 0, 1) := by decide +kernel
theorem dL_law_597 : decode cL_law 597 = .ok (.iload 4, 2) := by decide +kernel
theorem dL_law_599 : decode cL_law 599 = .ok (.iconst 1, 1) := by decide +kernel
theorem dL_law_600 : decode cL_law 600 = .ok (.iadd, 1) := by decide +kernel
theorem dL_law_601 : decode cL_law 601 = .ok (.iaload, 1) := by decide +kernel
theorem dL_law_602 : decode cL_law 602 = .ok (.invokevirtual 74, 3) := by decide +kernel
theorem dL_law_605 : decode cL_law 605 = .ok (.if_icmp .eq 203, 3) := by decide +kernel
theorem dL_law_608 : decode cL_law 608 = .ok (.iconst 0, 1) := by decide +kernel
theorem dL_law_609 : decode cL_law 609 = .ok (.ireturn, 1) := by decide +kernel
theorem dL_law_610 : decode cL_law 610 = .ok (.aload_n 1, 1) := by decide +kernel
theorem dL_law_611 : decode cL_law 611 = .ok (.aload_n 0, 1) := by decide +kernel
theorem dL_law_612 : decode cL_law 612 = .ok (.iload 4, 2) := by decide +kernel
theorem dL_law_614 : decode cL_law 614 = .ok (.iconst 1, 1) := by decide +kernel
theorem dL_law_615 : decode cL_law 615 = .ok (.iadd, 1) := by decide +kernel
theorem dL_law_616 : decode cL_law 616 = .ok (.iaload, 1) := by decide +kernel
theorem dL_law_617 : decode cL_law 617 = .ok (.aload_n 0, 1) := by decide +kernel
theorem dL_law_618 : decode cL_law 618 = .ok (.iload 4, 2) := by decide +kernel
theorem dL_law_620 : decode cL_law 620 = .ok (.iconst 2, 1) := by decide +kernel
theorem dL_law_621 : decode cL_law 621 = .ok (.iadd, 1) := by decide +kernel
theorem dL_law_622 : decode cL_law 622 = .ok (.iaload, 1) := by decide +kernel
theorem dL_law_623 : decode cL_law 623 = .ok (.aload_n 0, 1) := by decide +kernel
theorem dL_law_624 : decode cL_law 624 = .ok (.iload 4, 2) := by decide +kernel
theorem dL_law_626 : decode cL_law 626 = .ok (.iconst 3, 1) := by decide +kernel
theorem dL_law_627 : decode cL_law 627 = .ok (.iadd, 1) := by decide +kernel
theorem dL_law_628 : decode cL_law 628 = .ok (.iaload, 1) := by decide +kernel
theorem dL_law_629 : decode cL_law 629 = .ok (.invokevirtual 75, 3) := by decide +kernel
theorem dL_law_632 : decode cL_law 632 = .ok (.aload_n 2, 1) := by decide +kernel
theorem dL_law_633 : decode cL_law 633 = .ok (.aload_n 0, 1) := by decide +kernel
theorem dL_law_634 : decode cL_law 634 = .ok (.iload 4, 2) := by decide +kernel
theorem dL_law_636 : decode cL_law 636 = .ok (.iconst 1, 1) := by decide +kernel
theorem dL_law_637 : decode cL_law 637 = .ok (.iadd, 1) := by decide +kernel
theorem dL_law_638 : decode cL_law 638 = .ok (.iaload, 1) := by decide +kernel
theorem dL_law_639 : decode cL_law 639 = .ok (.aload_n 0, 1) := by decide +kernel
theorem dL_law_640 : decode cL_law 640 = .ok (.iload 4, 2) := by decide +kernel
theorem dL_law_642 : decode cL_law 642 = .ok (.iconst 2, 1) := by decide +kernel
theorem dL_law_643 : decode cL_law 643 = .ok (.iadd, 1) := by decide +kernel
theorem dL_law_644 : decode cL_law 644 = .ok (.iaload, 1) := by decide +kernel
theorem dL_law_645 : decode cL_law 645 = .ok (.aload_n 0, 1) := by decide +kernel
theorem dL_law_646 : decode cL_law 646 = .ok (.iload 4, 2) := by decide +kernel
theorem dL_law_648 : decode cL_law 648 = .ok (.iconst 3, 1) := by decide +kernel
theorem dL_law_649 : decode cL_law 649 = .ok (.iadd, 1) := by decide +kernel
theorem dL_law_650 : decode cL_law 650 = .ok (.iaload, 1) := by decide +kernel
theorem dL_law_651 : decode cL_law 651 = .ok (.invokevirtual 78, 3) := by decide +kernel
theorem dL_law_654 : decode cL_law 654 = .ok (.if_icmp .eq 154, 3) := by decide +kernel
theorem dL_law_657 : decode cL_law 657 = .ok (.iconst 0, 1) := by decide +kernel
theorem dL_law_658 : decode cL_law 658 = .ok (.ireturn, 1) := by decide +kernel
theorem dL_law_659 : decode cL_law 659 = .ok (.aload_n 1, 1) := by decide +kernel
theorem dL_law_660 : decode cL_law 660 = .ok (.aload_n 0, 1) := by decide +kernel
theorem dL_law_661 : decode cL_law 661 = .ok (.iload 4, 2) := by decide +kernel
theorem dL_law_663 : decode cL_law 663 = .ok (.iconst 1, 1) := by decide +kernel
theorem dL_law_664 : decode cL_law 664 = .ok (.iadd, 1) := by decide +kernel
theorem dL_law_665 : decode cL_law 665 = .ok (.iaload, 1) := by decide +kernel
theorem dL_law_666 : decode cL_law 666 = .ok (.aload_n 0, 1) := by decide +kernel
theorem dL_law_667 : decode cL_law 667 = .ok (.iload 4, 2) := by decide +kernel
theorem dL_law_669 : decode cL_law 669 = .ok (.iconst 2, 1) := by decide +kernel
theorem dL_law_670 : decode cL_law 670 = .ok (.iadd, 1) := by decide +kernel
theorem dL_law_671 : decode cL_law 671 = .ok (.iaload, 1) := by decide +kernel
theorem dL_law_672 : decode cL_law 672 = .ok (.invokevirtual 79, 3) := by decide +kernel
theorem dL_law_675 : decode cL_law 675 = .ok (.aload_n 2, 1) := by decide +kernel
theorem dL_law_676 : decode cL_law 676 = .ok (.aload_n 0, 1) := by decide +kernel
theorem dL_law_677 : decode cL_law 677 = .ok (.iload 4, 2) := by decide +kernel
theorem dL_law_679 : decode cL_law 679 = .ok (.iconst 1, 1) := by decide +kernel
theorem dL_law_680 : decode cL_law 680 = .ok (.iadd, 1) := by decide +kernel
theorem dL_law_681 : decode cL_law 681 = .ok (.iaload, 1) := by decide +kernel
theorem dL_law_682 : decode cL_law 682 = .ok (.aload_n 0, 1) := by decide +kernel
theorem dL_law_683 : decode cL_law 683 = .ok (.iload 4, 2) := by decide +kernel
theorem dL_law_685 : decode cL_law 685 = .ok (.iconst 2, 1) := by decide +kernel
theorem dL_law_686 : decode cL_law 686 = .ok (.iadd, 1) := by decide +kernel
theorem dL_law_687 : decode cL_law 687 = .ok (.iaload, 1) := by decide +kernel
theorem dL_law_688 : decode cL_law 688 = .ok (.invokevirtual 82, 3) := by decide +kernel
theorem dL_law_691 : decode cL_law 691 = .ok (.if_icmp .eq 117, 3) := by decide +kernel
theorem dL_law_694 : decode cL_law 694 = .ok (.iconst 0, 1) := by decide +kernel
theorem dL_law_695 : decode cL_law 695 = .ok (.ireturn, 1) := by decide +kernel
theorem dL_law_696 : decode cL_law 696 = .ok (.aload_n 1, 1) := by decide +kernel
theorem dL_law_697 : decode cL_law 697 = .ok (.aload_n 0, 1) := by decide +kernel
theorem dL_law_698 : decode cL_law 698 = .ok (.iload 4, 2) := by decide +kernel
theorem dL_law_700 : decode cL_law 700 = .ok (.iconst 1, 1) := by decide +kernel
theorem dL_law_701 : decode cL_law 701 = .ok (.iadd, 1) := by decide +kernel
theorem dL_law_702 : decode cL_law 702 = .ok (.iaload, 1) := by decide +kernel
theorem dL_law_703 : decode cL_law 703 = .ok (.aload_n 0, 1) := by decide +kernel
theorem dL_law_704 : decode cL_law 704 = .ok (.iload 4, 2) := by decide +kernel
theorem dL_law_706 : decode cL_law 706 = .ok (.iconst 2, 1) := by decide +kernel
theorem dL_law_707 : decode cL_law 707 = .ok (.iadd, 1) := by decide +kernel
theorem dL_law_708 : decode cL_law 708 = .ok (.iaload, 1) := by decide +kernel
theorem dL_law_709 : decode cL_law 709 = .ok (.invokevirtual 83, 3) := by decide +kernel
theorem dL_law_712 : decode cL_law 712 = .ok (.aload_n 2, 1) := by decide +kernel
theorem dL_law_713 : decode cL_law 713 = .ok (.aload_n 0, 1) := by decide +kernel
theorem dL_law_714 : decode cL_law 714 = .ok (.iload 4, 2) := by decide +kernel
theorem dL_law_716 : decode cL_law 716 = .ok (.iconst 1, 1) := by decide +kernel
theorem dL_law_717 : decode cL_law 717 = .ok (.iadd, 1) := by decide +kernel
theorem dL_law_718 : decode cL_law 718 = .ok (.iaload, 1) := by decide +kernel
theorem dL_law_719 : decode cL_law 719 = .ok (.aload_n 0, 1) := by decide +kernel
theorem dL_law_720 : decode cL_law 720 = .ok (.iload 4, 2) := by decide +kernel
theorem dL_law_722 : decode cL_law 722 = .ok (.iconst 2, 1) := by decide +kernel
theorem dL_law_723 : decode cL_law 723 = .ok (.iadd, 1) := by decide +kernel
theorem dL_law_724 : decode cL_law 724 = .ok (.iaload, 1) := by decide +kernel
theorem dL_law_725 : decode cL_law 725 = .ok (.invokevirtual 86, 3) := by decide +kernel
theorem dL_law_728 : decode cL_law 728 = .ok (.if_icmp .eq 80, 3) := by decide +kernel
theorem dL_law_731 : decode cL_law 731 = .ok (.iconst 0, 1) := by decide +kernel
theorem dL_law_732 : decode cL_law 732 = .ok (.ireturn, 1) := by decide +kernel
theorem dL_law_733 : decode cL_law 733 = .ok (.aload_n 1, 1) := by decide +kernel
theorem dL_law_734 : decode cL_law 734 = .ok (.aload_n 0, 1) := by decide +kernel
theorem dL_law_735 : decode cL_law 735 = .ok (.iload 4, 2) := by decide +kernel
theorem dL_law_737 : decode cL_law 737 = .ok (.iconst 1, 1) := by decide +kernel
theorem dL_law_738 : decode cL_law 738 = .ok (.iadd, 1) := by decide +kernel
theorem dL_law_739 : decode cL_law 739 = .ok (.iaload, 1) := by decide +kernel
theorem dL_law_740 : decode cL_law 740 = .ok (.aload_n 0, 1) := by decide +kernel
theorem dL_law_741 : decode cL_law 741 = .ok (.iload 4, 2) := by decide +kernel
theorem dL_law_743 : decode cL_law 743 = .ok (.iconst 2, 1) := by decide +kernel
theorem dL_law_744 : decode cL_law 744 = .ok (.iadd, 1) := by decide +kernel
theorem dL_law_745 : decode cL_law 745 = .ok (.iaload, 1) := by decide +kernel
theorem dL_law_746 : decode cL_law 746 = .ok (.invokevirtual 87, 3) := by decide +kernel
theorem dL_law_749 : decode cL_law 749 = .ok (.aload_n 2, 1) := by decide +kernel
theorem dL_law_750 : decode cL_law 750 = .ok (.aload_n 0, 1) := by decide +kernel
theorem dL_law_751 : decode cL_law 751 = .ok (.iload 4, 2) := by decide +kernel
theorem dL_law_753 : decode cL_law 753 = .ok (.iconst 1, 1) := by decide +kernel
theorem dL_law_754 : decode cL_law 754 = .ok (.iadd, 1) := by decide +kernel
theorem dL_law_755 : decode cL_law 755 = .ok (.iaload, 1) := by decide +kernel
theorem dL_law_756 : decode cL_law 756 = .ok (.aload_n 0, 1) := by decide +kernel
theorem dL_law_757 : decode cL_law 757 = .ok (.iload 4, 2) := by decide +kernel
theorem dL_law_759 : decode cL_law 759 = .ok (.iconst 2, 1) := by decide +kernel
theorem dL_law_760 : decode cL_law 760 = .ok (.iadd, 1) := by decide +kernel
theorem dL_law_761 : decode cL_law 761 = .ok (.iaload, 1) := by decide +kernel
theorem dL_law_762 : decode cL_law 762 = .ok (.invokevirtual 91, 3) := by decide +kernel
theorem dL_law_765 : decode cL_law 765 = .ok (.if_icmp .eq 43, 3) := by decide +kernel
theorem dL_law_768 : decode cL_law 768 = .ok (.iconst 0, 1) := by decide +kernel
theorem dL_law_769 : decode cL_law 769 = .ok (.ireturn, 1) := by decide +kernel
theorem dL_law_770 : decode cL_law 770 = .ok (.aload_n 1, 1) := by decide +kernel
theorem dL_law_771 : decode cL_law 771 = .ok (.invokevirtual 92, 3) := by decide +kernel
theorem dL_law_774 : decode cL_law 774 = .ok (.aload_n 2, 1) := by decide +kernel
theorem dL_law_775 : decode cL_law 775 = .ok (.invokevirtual 95, 3) := by decide +kernel
theorem dL_law_778 : decode cL_law 778 = .ok (.if_icmp .eq 30, 3) := by decide +kernel
theorem dL_law_781 : decode cL_law 781 = .ok (.iconst 0, 1) := by decide +kernel
theorem dL_law_782 : decode cL_law 782 = .ok (.ireturn, 1) := by decide +kernel
theorem dL_law_783 : decode cL_law 783 = .ok (.aload_n 1, 1) := by decide +kernel
theorem dL_law_784 : decode cL_law 784 = .ok (.aload_n 0, 1) := by decide +kernel
theorem dL_law_785 : decode cL_law 785 = .ok (.iload 4, 2) := by decide +kernel
theorem dL_law_787 : decode cL_law 787 = .ok (.iconst 1, 1) := by decide +kernel
theorem dL_law_788 : decode cL_law 788 = .ok (.iadd, 1) := by decide +kernel
theorem dL_law_789 : decode cL_law 789 = .ok (.iaload, 1) := by decide +kernel
theorem dL_law_790 : decode cL_law 790 = .ok (.invokevirtual 96, 3) := by decide +kernel
theorem dL_law_793 : decode cL_law 793 = .ok (.aload_n 2, 1) := by decide +kernel
theorem dL_law_794 : decode cL_law 794 = .ok (.aload_n 0, 1) := by decide +kernel
theorem dL_law_795 : decode cL_law 795 = .ok (.iload 4, 2) := by decide +kernel
theorem dL_law_797 : decode cL_law 797 = .ok (.iconst 1, 1) := by decide +kernel
theorem dL_law_798 : decode cL_law 798 = .ok (.iadd, 1) := by decide +kernel
theorem dL_law_799 : decode cL_law 799 = .ok (.iaload, 1) := by decide +kernel
theorem dL_law_800 : decode cL_law 800 = .ok (.invokevirtual 99, 3) := by decide +kernel
theorem dL_law_803 : decode cL_law 803 = .ok (.if_icmp .eq 5, 3) := by decide +kernel
theorem dL_law_806 : decode cL_law 806 = .ok (.iconst 0, 1) := by decide +kernel
theorem dL_law_807 : decode cL_law 807 = .ok (.ireturn, 1) := by decide +kernel
theorem dL_law_808 : decode cL_law 808 = .ok (.iinc 4 6, 3) := by decide +kernel
theorem dL_law_811 : decode cL_law 811 = .ok (.goto (-788), 3) := by decide +kernel
theorem dL_law_814 : decode cL_law 814 = .ok (.iconst 1, 1) := by decide +kernel
theorem dL_law_815 : decode cL_law 815 = .ok (.ireturn, 1) := by decide +kernel
end
section
/-! the memory of the system, and what a heap that holds it is -/
section CORE
/-- next address; kind of each cell; length of an array; int fields; byte and boolean arrays; int arrays; long arrays; reference fields; reference arrays -/
abbrev Mm : Type := Nat × (Nat → Nat) × (Nat → Nat) × (Nat → Nat → Int32) × (Nat → Nat → Int32) × (Nat → Nat → Int32) × (Nat → Nat → Int64) × (Nat → Nat → Option Nat) × (Nat → Nat → Option Nat)
def mN (μ : Mm) : Nat := μ.1
def mK (μ : Mm) : Nat → Nat := μ.2.1
def mL (μ : Mm) : Nat → Nat := μ.2.2.1
def mF (μ : Mm) : Nat → Nat → Int32 := μ.2.2.2.1
def mB (μ : Mm) : Nat → Nat → Int32 := μ.2.2.2.2.1
def mA (μ : Mm) : Nat → Nat → Int32 := μ.2.2.2.2.2.1
def mJ (μ : Mm) : Nat → Nat → Int64 := μ.2.2.2.2.2.2.1
def mP (μ : Mm) : Nat → Nat → Option Nat := μ.2.2.2.2.2.2.2.1
def mO (μ : Mm) : Nat → Nat → Option Nat := μ.2.2.2.2.2.2.2.2
def up2 {α : Type} (f : Nat → Nat → α) (a k : Nat) (v : α) : Nat → Nat → α := fun b j => if b = a then (if j = k then v else f b j) else f b j
def up1 {α : Type} (f : Nat → α) (a : Nat) (v : α) : Nat → α := fun b => if b = a then v else f b
def sF (μ : Mm) (a k : Nat) (v : Int32) : Mm := (mN μ, mK μ, mL μ, up2 (mF μ) a k v, mB μ, mA μ, mJ μ, mP μ, mO μ)
def sB (μ : Mm) (a k : Nat) (v : Int32) : Mm := (mN μ, mK μ, mL μ, mF μ, up2 (mB μ) a k v, mA μ, mJ μ, mP μ, mO μ)
def sA (μ : Mm) (a k : Nat) (v : Int32) : Mm := (mN μ, mK μ, mL μ, mF μ, mB μ, up2 (mA μ) a k v, mJ μ, mP μ, mO μ)
def sJ (μ : Mm) (a k : Nat) (v : Int64) : Mm := (mN μ, mK μ, mL μ, mF μ, mB μ, mA μ, up2 (mJ μ) a k v, mP μ, mO μ)
def sP (μ : Mm) (a k : Nat) (v : Option Nat) : Mm := (mN μ, mK μ, mL μ, mF μ, mB μ, mA μ, mJ μ, up2 (mP μ) a k v, mO μ)
def sO (μ : Mm) (a k : Nat) (v : Option Nat) : Mm := (mN μ, mK μ, mL μ, mF μ, mB μ, mA μ, mJ μ, mP μ, up2 (mO μ) a k v)
/-- a new object or array of kind k and length n, all zero, at the next address -/
def sN (μ : Mm) (k n : Nat) : Mm := (mN μ + 1, up1 (mK μ) (mN μ) k, up1 (mL μ) (mN μ) n, up1 (mF μ) (mN μ) (fun _ => 0), up1 (mB μ) (mN μ) (fun _ => 0), up1 (mA μ) (mN μ) (fun _ => 0), up1 (mJ μ) (mN μ) (fun _ => 0), up1 (mP μ) (mN μ) (fun _ => none), up1 (mO μ) (mN μ) (fun _ => none))
/-- launch; class and field tables; array classes; first address of the system; the heap below it; what else a state must say -/
abbrev En : Type := Launch × va_G × (Nat → ClassId) × Nat × Heap × (State → Prop)
def xl (E : En) : Launch := E.1
def xD (E : En) : va_G := E.2.1
def xC (E : En) : Nat → ClassId := E.2.2.1
def xo (E : En) : Nat := E.2.2.2.1
def xH (E : En) : Heap := E.2.2.2.2.1
def xP (E : En) : State → Prop := E.2.2.2.2.2
def xT (E : En) : List (ClassId × FieldType) := [(xC E 0, .byte), (xC E 1, .int), (xC E 2, .long), (xC E 3, .boolean), (xC E 4, .object RX2), (xC E 5, .object RX4), (xC E 6, .object RX8), (xC E 7, .array .int)]
def XP (E : En) : Prop := ∀ s U : State, s.WarmedH U.vm → xP E s → xP E U
/-- which fields of a class are references -/
def fty (c : Nat) : List Bool :=
  if c = 0 then [true, true, true, false] else if c = 1 then [true, false] else if c = 2 then [false, false, true, false, false, true, true, false, false, true]
  else if c = 3 then [true, false, true, true, true, true, false, true] else if c = 4 then [false, true, true, true, false, true, true, true, false, true, false, true, false]
  else if c = 5 then [true, false, false, false, false] else if c = 6 then [true, true] else if c = 7 then [true, false] else if c = 8 then [true, false, true, false]
  else if c = 9 then [true, true, true, true, true, true, true, false, true, false, true, false, true, true, true]
  else [true, false, false, false, true, true, true, true, true, true, true, true, true, true, true, true, true, true, false, false, false, true, true, true, true, true, true, true, true, false, false, false, true, true, true, true, false, true, true, false, true, true, true, true, false, true, true, true, true]
def flds (μ : Mm) (a : Nat) : Nat → List Bool → List Value
  | _, [] => []
  | k, b :: r => (if b then va_rf (mP μ a k) else .int (mF μ a k)) :: flds μ a (k + 1) r
def cellOf (E : En) (μ : Mm) (a : Nat) : Option va_E :=
  if mK μ a = 0 then none
  else if mK μ a < 12 then some (.inr (mK μ a - 1, flds μ a 0 (fty (mK μ a - 1))))
  else if mK μ a = 12 then some (.inl (xC E 0, mL μ a, .inl (mB μ a)))
  else if mK μ a = 13 then some (.inl (xC E 1, mL μ a, .inl (mA μ a)))
  else if mK μ a = 14 then some (.inl (xC E 2, mL μ a, .inr (.inl (mJ μ a))))
  else if mK μ a = 15 then some (.inl (xC E 3, mL μ a, .inl (mB μ a)))
  else if mK μ a < 20 then some (.inl (xC E (mK μ a - 12), mL μ a, .inr (.inr (.inr (.inr (mO μ a))))))
  else none
/-- the heap holds the memory -/
def Rl (E : En) (μ : Mm) (H : Heap) : Prop := mN μ = H.size ∧ xo E ≤ mN μ ∧ (∀ q : Nat, q < xo E → H[q]? = (xH E)[q]?) ∧ (∀ a : Nat, mN μ ≤ a → mK μ a = 0) ∧ ∀ (a : Nat) (e : va_E), cellOf E μ a = some e → xo E ≤ a ∧ va_at (xD E) vwCl (a, e) H
theorem up1_s {α : Type} {f : Nat → α} {a : Nat} {v : α} : up1 f a v a = v := by simp [up1]
theorem up1_n {α : Type} {f : Nat → α} {a b : Nat} {v : α} (h : b ≠ a) : up1 f a v b = f b := by simp [up1, h]
theorem up2_s {α : Type} {f : Nat → Nat → α} {a k : Nat} {v : α} : up2 f a k v a k = v := by simp [up2]
theorem up2_a {α : Type} {f : Nat → Nat → α} {a b k : Nat} {v : α} (h : b ≠ a) : up2 f a k v b = f b := by funext j; simp [up2, h]
theorem up2_k {α : Type} {f : Nat → Nat → α} {a b k j : Nat} {v : α} (h : j ≠ k) : up2 f a k v b j = f b j := by unfold up2; split <;> simp [h]
theorem up2_row (f : Nat → Nat → Int32) (a k : Nat) (v : Int32) : up2 f a k v a = upd (f a) k v := by funext j; by_cases h : j = k <;> simp [up2, upd, h]
theorem up2_rowL (f : Nat → Nat → Int64) (a k : Nat) (v : Int64) : up2 f a k v a = vp_updL (f a) k v := by funext j; by_cases h : j = k <;> simp [up2, vp_updL, h]
theorem up2_rowP {α : Type} (f : Nat → Nat → α) (a k : Nat) (v : α) : up2 f a k v a = va_up (f a) k v := by funext j; by_cases h : j = k <;> simp [up2, va_up, h]
theorem flds_get (μ : Mm) (a : Nat) : ∀ (l : List Bool) (j k : Nat), (flds μ a j l)[k]? = (l[k]?).map (fun b => if b then va_rf (mP μ a (j + k)) else .int (mF μ a (j + k)))
  | [], j, k => by simp [flds]
  | b :: r, j, 0 => by simp [flds]
  | b :: r, j, k + 1 => by
    have e : j + 1 + k = j + (k + 1) := by omega
    simp [flds, flds_get μ a r (j + 1) k, e]
theorem flds_len (μ : Mm) (a : Nat) : ∀ (l : List Bool) (j : Nat), (flds μ a j l).length = l.length
  | [], j => rfl
  | b :: r, j => by simp [flds, flds_len μ a r (j + 1)]
theorem flds_setF (μ : Mm) (a k : Nat) (v : Int32) (l : List Bool) (hk : l[k]? = some false) : flds (sF μ a k v) a 0 l = (flds μ a 0 l).set k (.int v) := by
  apply List.ext_getElem?
  intro i
  rw [flds_get, List.getElem?_set, flds_get, flds_len]
  by_cases h : k = i
  · subst h
    have hl : k < l.length := (List.getElem?_eq_some_iff.mp hk).1
    rw [hk, if_pos rfl, if_pos hl]
    simp [sF, mF, up2]
  · have h' : ¬ i = k := fun e => h e.symm
    simp [h, sF, mF, mP, up2, h']
theorem flds_setP (μ : Mm) (a k : Nat) (v : Option Nat) (l : List Bool) (hk : l[k]? = some true) : flds (sP μ a k v) a 0 l = (flds μ a 0 l).set k (va_rf v) := by
  apply List.ext_getElem?
  intro i
  rw [flds_get, List.getElem?_set, flds_get, flds_len]
  by_cases h : k = i
  · subst h
    have hl : k < l.length := (List.getElem?_eq_some_iff.mp hk).1
    rw [hk, if_pos rfl, if_pos hl]
    simp [sP, mP, up2]
  · have h' : ¬ i = k := fun e => h e.symm
    simp [h, sP, mF, mP, up2, h']
theorem flds_congr {μ μ' : Mm} {a : Nat} (hF : mF μ' a = mF μ a) (hP : mP μ' a = mP μ a) : ∀ (l : List Bool) (j : Nat), flds μ' a j l = flds μ a j l
  | [], _ => rfl
  | b :: r, j => by simp only [flds, hF, hP, flds_congr hF hP r (j + 1)]
/-- the cells of the kinds -/
theorem cell_obj {E : En} {μ : Mm} {a c : Nat} (h : mK μ a = c + 1) (hc : c < 11) : cellOf E μ a = some (.inr (c, flds μ a 0 (fty c))) := by
  have h1 : ¬ mK μ a = 0 := by omega
  have h2 : mK μ a < 12 := by omega
  have h3 : mK μ a - 1 = c := by omega
  simp [cellOf, h1, h2, h3]
theorem cell_B {E : En} {μ : Mm} {a : Nat} (h : mK μ a = 12) : cellOf E μ a = some (.inl (xC E 0, mL μ a, .inl (mB μ a))) := by simp [cellOf, h]
theorem cell_A {E : En} {μ : Mm} {a : Nat} (h : mK μ a = 13) : cellOf E μ a = some (.inl (xC E 1, mL μ a, .inl (mA μ a))) := by simp [cellOf, h]
theorem cell_J {E : En} {μ : Mm} {a : Nat} (h : mK μ a = 14) : cellOf E μ a = some (.inl (xC E 2, mL μ a, .inr (.inl (mJ μ a)))) := by simp [cellOf, h]
theorem cell_Z {E : En} {μ : Mm} {a : Nat} (h : mK μ a = 15) : cellOf E μ a = some (.inl (xC E 3, mL μ a, .inl (mB μ a))) := by simp [cellOf, h]
theorem cell_O {E : En} {μ : Mm} {a k : Nat} (h : mK μ a = k + 16) (hk : k < 4) : cellOf E μ a = some (.inl (xC E (k + 4), mL μ a, .inr (.inr (.inr (.inr (mO μ a)))))) := by
  have h1 : ¬ mK μ a = 0 := by omega
  have h2 : ¬ mK μ a < 12 := by omega
  have h3 : ¬ mK μ a = 12 := by omega
  have h4 : ¬ mK μ a = 13 := by omega
  have h5 : ¬ mK μ a = 14 := by omega
  have h6 : ¬ mK μ a = 15 := by omega
  have h7 : mK μ a < 20 := by omega
  have h8 : mK μ a - 12 = k + 4 := by omega
  simp [cellOf, h1, h2, h3, h4, h5, h6, h7, h8]
/-- a cell depends on its own rows alone -/
theorem cell_congr {E : En} {μ μ' : Mm} {a : Nat} (hK : mK μ' a = mK μ a) (hL : mL μ' a = mL μ a) (hF : mF μ' a = mF μ a) (hB : mB μ' a = mB μ a) (hA : mA μ' a = mA μ a) (hJ : mJ μ' a = mJ μ a) (hP : mP μ' a = mP μ a) (hO : mO μ' a = mO μ a) : cellOf E μ' a = cellOf E μ a := by
  simp only [cellOf, hK, hL, hB, hA, hJ, hO, flds_congr hF hP]
theorem Rl.at {E : En} {μ : Mm} {H : Heap} (h : Rl E μ H) {a : Nat} {e : va_E} (he : cellOf E μ a = some e) : va_P (xD E) vwCl [(a, e)] H := by
  intro k q hk
  cases k with
  | zero => cases hk; exact (h.2.2.2.2 a e he).2
  | succ k => simp at hk
/-- one cell was written -/
theorem Rl.put {E : En} {μ μ' : Mm} {H H' : Heap} {a : Nat} {e : va_E} (h : Rl E μ H) (hz : H'.size = H.size) (ho : ∀ q, q ≠ a → H'[q]? = H[q]?) (hN : mN μ' = mN μ) (hK : mK μ' = mK μ) (hoff : ∀ b, b ≠ a → cellOf E μ' b = cellOf E μ b) (hc : cellOf E μ' a = some e) (hlo : xo E ≤ a) (hat : va_at (xD E) vwCl (a, e) H') : Rl E μ' H' := by
  obtain ⟨h1, h2, h3, h4, h5⟩ := h
  refine ⟨by rw [hN, hz]; exact h1, by rw [hN]; exact h2, fun q hq => ?_, fun b hb => by rw [hK]; exact h4 b (by rw [← hN]; exact hb), fun b x hx => ?_⟩
  · rw [ho q (by omega)]; exact h3 q hq
  · by_cases hb : b = a
    · subst hb
      rw [hc] at hx
      cases hx
      exact ⟨hlo, hat⟩
    · rw [hoff b hb] at hx
      exact ⟨(h5 b x hx).1, (h5 b x hx).2.kept (ho b hb)⟩
/-- one cell was made -/
theorem Rl.new {E : En} {μ : Mm} {H H' : Heap} {k n : Nat} {e : va_E} (h : Rl E μ H) (hz : H'.size = H.size + 1) (ho : ∀ q, q < H.size → H'[q]? = H[q]?) (hc : cellOf E (sN μ k n) (mN μ) = some e) (hat : va_at (xD E) vwCl (mN μ, e) H') : Rl E (sN μ k n) H' := by
  obtain ⟨h1, h2, h3, h4, h5⟩ := h
  refine ⟨show mN μ + 1 = H'.size by rw [hz, h1], Nat.le_succ_of_le h2, fun q hq => ?_, fun b hb => ?_, fun b x hx => ?_⟩
  · rw [ho q (by omega)]; exact h3 q hq
  · have hb' : mN μ + 1 ≤ b := hb
    show up1 (mK μ) (mN μ) k b = 0
    rw [up1_n (by omega)]
    exact h4 b (by omega)
  · by_cases hb : b = mN μ
    · subst hb
      rw [hc] at hx
      cases hx
      exact ⟨h2, hat⟩
    · have e1 : cellOf E (sN μ k n) b = cellOf E μ b := cell_congr (up1_n hb) (up1_n hb) (up1_n hb) (up1_n hb) (up1_n hb) (up1_n hb) (up1_n hb) (up1_n hb)
      rw [e1] at hx
      have h6 := h5 b x hx
      exact ⟨h6.1, h6.2.kept (ho b h6.2.lt)⟩
end CORE
end
section
/-! the judgement over the memory: a method's body from a place on, and a call -/
section JUDGE
/-- name, code, locals, answer, room -/
abbrev Mt : Type := MethodName × ByteArray × Nat × Option FieldType × Room
def wtab : List Cond := lw_tbl.filter goodWord
def codeW (M : Mt) : Cond := .code M.1 M.2.1 M.2.2.1 M.2.2.2.1
def wsM (M : Mt) : List Cond := codeW M :: wtab
theorem wtab_good {w : Cond} (h : w ∈ wtab) : (w.onTables && w.keeps) = true ∨ ∃ ty, w = .arrayClass ty := good_of_word (List.mem_filter.mp h).2
theorem wsM_good {N : Mt} (h : codeW N ∈ wtab) : GoodIn wtab (wsM N) := fun w hw => by
  rcases List.mem_cons.mp hw with e | e
  · subst e; exact ⟨h, wtab_good h⟩
  · exact ⟨e, wtab_good e⟩
def nestL : List (String × Nat × MethodName × String) := [(RX9, 11, yX7_init, RX9), (RX9, 24, yX5_init, RX9), (RX9, 29, yX4_init, RX9), (RX0, 28, yX8_init, RX9), (RX9, 43, yX8_init, RX9), (RX9, 60, yX3_init, RX9), (RX3, 11, yX4_init, RX9), (RX9, 85, yX1_init, RX9), (RX2, 46, yX1_init, RX9), (RX2, 51, yX8_init, RX9), (RX5, 102, yX9_isSmall, RX9), (RX8, 29, yX9_isSmall, RX9), (RX8, 33, yX9_isBig, RX9), (RX6, 19, yX9_isSmall, RX9)]
/-- what a state must say of the tables -/
def St (E : En) (U : State) : Prop := va_K (xD E) vwCl (xT E) U ∧ (∀ q ∈ nestL, va_Nw (.methodLinkNest q.1 q.2.1 q.2.2.1 q.2.2.2) U) ∧ (va_AO RX2 U ∧ va_AO RX4 U ∧ va_AO RX8 U) ∧ xP E U
theorem St.warm {E : En} (hX : XP E) {s U : State} (hW : s.WarmedH U.vm) (h : St E s) : St E U :=
  ⟨va_K.moved hW.alike h.1, fun q hq => va_Nw.warmM hW (h.2.1 q hq), ⟨va_AO.moved hW.alike h.2.2.1.1, va_AO.moved hW.alike h.2.2.1.2.1, va_AO.moved hW.alike h.2.2.1.2.2⟩, hX s U hW h.2.2.2⟩
theorem St.blind {E : En} (hX : XP E) {U : State} (g : JFrame) (mk : MethodId) (a : Array Value) (h : St E U) : St E (U.calling g mk a) := St.warm (U := U.calling g mk a) hX (State.WarmedH.refl U) h
/-- the locals -/
def asc (ls : List (Option Value)) : List (Nat × Value) := ls.zipIdx.filterMap (fun q => q.1.map (fun v => (q.2, v)))
theorem mem_asc {ls : List (Option Value)} {i : Nat} {v : Value} : (i, v) ∈ asc ls ↔ ls[i]? = some (some v) := by
  unfold asc
  rw [List.mem_filterMap]
  constructor
  · rintro ⟨⟨x, j⟩, h1, h2⟩
    rw [List.mem_zipIdx_iff_getElem?] at h1
    cases x with
    | none => simp at h2
    | some w =>
      simp at h2
      obtain ⟨rfl, rfl⟩ := h2
      exact h1
  · intro h
    exact ⟨(some v, i), List.mem_zipIdx_iff_getElem?.mpr h, rfl⟩
def LsOK (lsA : Array Slot) (n : Nat) (ls : List (Option Value)) : Prop := lv_has lsA n (asc ls)
theorem LsOK.get {lsA : Array Slot} {n : Nat} {ls : List (Option Value)} (h : LsOK lsA n ls) {i : Nat} {v : Value} (hi : ls[i]? = some (some v)) : lsA[i]? = some (.val v) := h.2.2 (i, v) (mem_asc.mpr hi)
theorem LsOK.lt {lsA : Array Slot} {n : Nat} {ls : List (Option Value)} (h : LsOK lsA n ls) {i : Nat} {v : Value} (hi : ls[i]? = some (some v)) : i < n := by
  have h1 := lv_lt (h.get hi)
  rw [h.1] at h1
  exact h1
theorem LsOK.of {lsA : Array Slot} {n : Nat} {l : List (Nat × Value)} {ls : List (Option Value)} (h : lv_has lsA n l) (hs : ∀ i v, ls[i]? = some (some v) → (i, v) ∈ l) : LsOK lsA n ls := ⟨h.1, h.2.1, fun q hq => h.2.2 q (hs q.1 q.2 (mem_asc.mp hq))⟩
/-- not the first half of a long -/
def nl : Option Value → Bool
  | some (.long _) => false
  | some (.double _) => false
  | _ => true
theorem nl_cat {v : Value} (h : nl (some v) = true) : ¬ v.category = 2 := by cases v <;> simp_all [nl, Value.category]
/-- the method runs here -/
def Cx (E : En) (M : Mt) (p : Program) (s : State) (m : MethodId) (args : Array Value) (meth : Method) (c : Code) : Prop :=
  p.tables.exec = Jvm.exec ∧ c.code = M.2.1 ∧ c.maxLocals = M.2.2.1 ∧ s.vm.findClass M.1.cls = some m.cls ∧ (∀ w ∈ wtab, w.before args s = true) ∧ St E s ∧ meth.name = M.1.name
def RetAt (M : Mt) (pc : Nat) (r : Option Value) : Prop :=
  (∃ (v : Int32) (ty : FieldType), r = some (.int v) ∧ M.2.2.2.1 = some ty ∧ narrow ty (.int v) = .int v ∧ decode M.2.1 pc = .ok (.ireturn, 1)) ∨
  (∃ (a : Nat) (ty : String), r = some (.ref a) ∧ M.2.2.2.1 = some (.object ty) ∧ decode M.2.1 pc = .ok (.areturn, 1)) ∨
  (r = none ∧ M.2.2.2.1 = none ∧ decode M.2.1 pc = .ok (.return_, 1))
def Ev (E : En) (M : Mt) (kc ks : Nat) (pc : Nat) (ls : List (Option Value)) (st : List Value) (μ : Mm) (Q : Option Value → Mm → Prop) : Prop :=
  XP E → ∀ (p : Program) (e : Env) (s : State) (m : MethodId) (args : Array Value) (below : List Frame) (meth : Method) (c : Code) (H : Heap) (locs : List Loc) (cells slots mc ms : Nat) (lsA : Array Slot) (Z : State → Prop),
    Cx E M p s m args meth c → Rl E μ H → (∀ q ∈ locs, xo E ≤ q.base) → cells + kc ≤ mc ∧ slots + ks ≤ ms ∧ mc ≤ M.2.2.2.2.cells ∧ ms ≤ M.2.2.2.2.slots → LsOK lsA M.2.2.1 ls →
    (∀ (H' : Heap) (locs' : List Loc) (r : Option Value) (μ' : Mm) (pc' : Nat) (lsA' : Array Slot), Rl E μ' H' → Q r μ' → (∀ q ∈ locs', xo E ≤ q.base) → RetAt M pc' r → W p (xl E) e M.2.2.2.2 s m args below meth c H' locs' mc ms Z (F0 m pc' lsA' r.toList)) →
    W p (xl E) e M.2.2.2.2 s m args below meth c H locs cells slots Z (F0 m pc lsA st)
/-- a call of the method: it returns, and what it answers and leaves is in K -/
def Cl (E : En) (M : Mt) (As : List Value) (μ : Mm) (K : Option Value → Mm → Prop) : Prop :=
  XP E → Met (xl E) M.1 (wsM M) M.2.2.2.2 (va_Pc As (fun U => Rl E μ U.heap ∧ St E U)) (fun _ _ o t => ∃ (r : Option Value) (μ' : Mm), o = .returned r ∧ K r μ' ∧ Rl E μ' t.heap) M.2.2.2.2.cells M.2.2.2.2.slots (fun q => xo E ≤ q)
variable {E : En} {M : Mt} {kc ks pc : Nat} {ls : List (Option Value)} {st : List Value} {μ : Mm} {Q : Option Value → Mm → Prop}
/-- a step that changes nothing in the heap -/
theorem Ev.step {pc' : Nat} {ls' : List (Option Value)} {st' : List Value}
    (h : ∀ (p : Program) (e : Env) (s : State) (m : MethodId) (args : Array Value) (below : List Frame) (meth : Method) (c : Code) (H : Heap) (locs : List Loc) (cells slots : Nat) (lsA : Array Slot) (Z : State → Prop),
      Cx E M p s m args meth c → Rl E μ H → LsOK lsA M.2.2.1 ls → (∀ lsA' : Array Slot, LsOK lsA' M.2.2.1 ls' → W p (xl E) e M.2.2.2.2 s m args below meth c H locs cells slots Z (F0 m pc' lsA' st')) → W p (xl E) e M.2.2.2.2 s m args below meth c H locs cells slots Z (F0 m pc lsA st))
    (k : Ev E M kc ks pc' ls' st' μ Q) : Ev E M kc ks pc ls st μ Q := by
  intro hX p e s m args below meth c H locs cells slots mc ms lsA Z C R hL hb hl hr
  exact h p e s m args below meth c H locs cells slots lsA Z C R hl (fun lsA' hl' => k hX p e s m args below meth c H locs cells slots mc ms lsA' Z C R hL hb hl' hr)
/-- a branch -/
theorem Ev.branch {c0 : Prop} {pc1 pc2 : Nat} {st' : List Value}
    (h : ∀ (p : Program) (e : Env) (s : State) (m : MethodId) (args : Array Value) (below : List Frame) (meth : Method) (c : Code) (H : Heap) (locs : List Loc) (cells slots : Nat) (lsA : Array Slot) (Z : State → Prop),
      Cx E M p s m args meth c → (c0 → W p (xl E) e M.2.2.2.2 s m args below meth c H locs cells slots Z (F0 m pc1 lsA st')) → (¬ c0 → W p (xl E) e M.2.2.2.2 s m args below meth c H locs cells slots Z (F0 m pc2 lsA st')) → W p (xl E) e M.2.2.2.2 s m args below meth c H locs cells slots Z (F0 m pc lsA st))
    (k1 : c0 → Ev E M kc ks pc1 ls st' μ Q) (k2 : ¬ c0 → Ev E M kc ks pc2 ls st' μ Q) : Ev E M kc ks pc ls st μ Q := by
  intro hX p e s m args below meth c H locs cells slots mc ms lsA Z C R hL hb hl hr
  exact h p e s m args below meth c H locs cells slots lsA Z C (fun hc => k1 hc hX p e s m args below meth c H locs cells slots mc ms lsA Z C R hL hb hl hr) (fun hc => k2 hc hX p e s m args below meth c H locs cells slots mc ms lsA Z C R hL hb hl hr)
/-- a store into a cell of the memory -/
theorem Ev.store {pc' : Nat} {st' : List Value} {μ' : Mm} {a : Nat}
    (h : ∀ (p : Program) (e : Env) (s : State) (m : MethodId) (args : Array Value) (below : List Frame) (meth : Method) (c : Code) (H : Heap) (locs : List Loc) (cells slots : Nat) (lsA : Array Slot) (Z : State → Prop),
      Cx E M p s m args meth c → Rl E μ H → (∀ (H' : Heap) (i : Nat), Rl E μ' H' → W p (xl E) e M.2.2.2.2 s m args below meth c H' (locs ++ [⟨a, i⟩]) cells slots Z (F0 m pc' lsA st')) → W p (xl E) e M.2.2.2.2 s m args below meth c H locs cells slots Z (F0 m pc lsA st))
    (ha : ∀ H : Heap, Rl E μ H → xo E ≤ a) (k : Ev E M kc ks pc' ls st' μ' Q) : Ev E M kc ks pc ls st μ Q := by
  intro hX p e s m args below meth c H locs cells slots mc ms lsA Z C R hL hb hl hr
  refine h p e s m args below meth c H locs cells slots lsA Z C R (fun H' i R' => k hX p e s m args below meth c H' _ cells slots mc ms lsA Z C R' ?_ hb hl hr)
  intro q hq
  rcases List.mem_append.mp hq with h1 | h1
  · exact hL q h1
  · rw [List.mem_singleton.mp h1]; exact ha H R
/-- a body's end -/
theorem Ev.ret {r : Option Value} (hst : st = r.toList) (hR : RetAt M pc r) (hQ : Q r μ) : Ev E M kc ks pc ls st μ Q := by
  intro hX p e s m args below meth c H locs cells slots mc ms lsA Z C R hL hb hl hr
  subst hst
  exact W.widen (k := mc) (n := ms) (by omega) (by omega) (hr H locs r μ pc lsA R hQ hL hR)
theorem Ev.mono {Q' : Option Value → Mm → Prop} (h : ∀ r μ', Q r μ' → Q' r μ') (k : Ev E M kc ks pc ls st μ Q) : Ev E M kc ks pc ls st μ Q' := by
  intro hX p e s m args below meth c H locs cells slots mc ms lsA Z C R hL hb hl hr
  exact k hX p e s m args below meth c H locs cells slots mc ms lsA Z C R hL hb hl (fun H' locs' r μ' pc' lsA' R' hq => hr H' locs' r μ' pc' lsA' R' (h r μ' hq))
/-- the locals at the entry -/
def ent : List Value → List (Option Value)
  | [] => []
  | v :: vs => if v.category = 2 then some v :: none :: ent vs else some v :: ent vs
theorem ent_args (vs : List Value) : ∀ (j i : Nat) (v : Value), (ent vs)[i]? = some (some v) → (j + i, v) ∈ lv_args j vs := by
  induction vs with
  | nil => intro j i v h; simp [ent] at h
  | cons w vs ih =>
    intro j i v h
    unfold ent at h
    unfold lv_args
    by_cases hc : w.category = 2
    · rw [if_pos hc] at h ⊢
      match i, h with
      | 0, h => simp at h; subst h; exact List.mem_cons_self
      | 1, h => simp at h
      | i + 2, h =>
        have := ih (j + 2) i v (by simpa using h)
        rw [show j + (i + 2) = j + 2 + i by omega]
        exact List.mem_cons_of_mem _ this
    · rw [if_neg hc] at h ⊢
      match i, h with
      | 0, h => simp at h; subst h; exact List.mem_cons_self
      | i + 1, h =>
        have := ih (j + 1) i v (by simpa using h)
        rw [show j + (i + 1) = j + 1 + i by omega]
        exact List.mem_cons_of_mem _ this
/-- a call out of the body -/
theorem Cl.of {As : List Value} {K : Option Value → Mm → Prop} {nn : Nat} (hy : plainName M.1.cls = true) (hle : (lg_sl As).length ≤ M.2.2.1) (hls : ent As ++ List.replicate nn none = ls) (k : Ev E M M.2.2.2.2.cells M.2.2.2.2.slots 0 ls [] μ K) : Cl E M As μ K := by
  intro hX
  refine Met.ofW (cc := M.2.1) (maxL := M.2.2.1) (ret := M.2.2.2.1) hy rfl ?_
  intro p e s m args below meth c s₁ B hml hv
  obtain ⟨rfl, hR, hS⟩ := hv
  have hl := lv_entry As (n := M.2.2.1) hle
  rw [lg_entry_eq]
  generalize (lg_sl As ++ List.replicate (M.2.2.1 - (lg_sl As).length) Slot.unset).toArray = lsA at hl ⊢
  have hts := atoms_spec (ws := wsM M) B.pre
  have hown : s.vm.findClass M.1.cls = some m.cls := findClass_of_methodNamed B.named
  have hlocks := B.notSynchronized
  have hx := B.exec
  have hb := B.bytes
  have hrt := B.returns
  refine k hX p e s m As.toArray below meth c s.heap [] 0 0 M.2.2.2.2.cells M.2.2.2.2.slots lsA _ ⟨hx, hb, hml, hown, fun w hw => hts w (List.mem_cons_of_mem _ hw), hS, (name_of_methodNamed B.named B.method).1⟩ hR (fun q h => by cases h) ⟨by omega, by omega, Nat.le_refl _, Nat.le_refl _⟩ ?_ ?_
  · subst hls
    refine LsOK.of hl (fun i v h => ?_)
    have h2 : (ent As)[i]? = some (some v) := by
      rcases Nat.lt_or_ge i (ent As).length with q | q
      · rwa [List.getElem?_append_left q] at h
      · rw [List.getElem?_append_right q] at h
        have h3 := List.eq_of_mem_replicate (List.mem_of_getElem? h)
        cases h3
    have h4 := ent_args As 0 i v h2
    rwa [Nat.zero_add] at h4
  · intro H' locs' r μ' pc' lsA' R' hQ hL hRet
    rcases hRet with ⟨v, ty, rfl, hty, hn, hd⟩ | ⟨a, ty, rfl, hty, hd⟩ | ⟨rfl, hty, hd⟩
    · exact W.zret (ty := ty) hx hb (hrt.trans hty) hn (fun t ht hW => ⟨_, μ', rfl, hQ, by rw [ht]; exact R'⟩) hL hd
    · exact W.aret (rt := .object ty) hx hb (hrt.trans hty) (Or.inl ⟨ty, rfl⟩) (Or.inr ⟨a, rfl⟩) (fun t ht hW => ⟨_, μ', rfl, hQ, by rw [ht]; exact R'⟩) hL hd
    · exact W.vret hx hb (hrt.trans hty) (fun t ht hW => ⟨_, μ', rfl, hQ, by rw [ht]; exact R'⟩) hL hd
end JUDGE
end
section
/-! rows of the judgement, an instruction each -/
section ROWS
variable {E : En} {M : Mt} {kc ks pc : Nat} {ls : List (Option Value)} {st : List Value} {μ : Mm} {Q : Option Value → Mm → Prop}
theorem e_iadd {x y : Int32} (n : Nat) (hp : pc + 1 = n) (hd : decode M.2.1 pc = .ok (.iadd, 1)) (k : Ev E M kc ks n ls (.int (x + y) :: st) μ Q) : Ev E M kc ks pc ls (.int y :: .int x :: st) μ Q := by
  subst hp; exact Ev.step (fun p e s m args below meth c H locs cells slots lsA Z C R hl kk => lv_iadd C.1 C.2.1 hd (kk lsA hl)) k
theorem e_isub {x y : Int32} (n : Nat) (hp : pc + 1 = n) (hd : decode M.2.1 pc = .ok (.isub, 1)) (k : Ev E M kc ks n ls (.int (x - y) :: st) μ Q) : Ev E M kc ks pc ls (.int y :: .int x :: st) μ Q := by
  subst hp; exact Ev.step (fun p e s m args below meth c H locs cells slots lsA Z C R hl kk => lv_isub C.1 C.2.1 hd (kk lsA hl)) k
theorem e_imul {x y : Int32} (n : Nat) (hp : pc + 1 = n) (hd : decode M.2.1 pc = .ok (.imul, 1)) (k : Ev E M kc ks n ls (.int (x * y) :: st) μ Q) : Ev E M kc ks pc ls (.int y :: .int x :: st) μ Q := by
  subst hp; exact Ev.step (fun p e s m args below meth c H locs cells slots lsA Z C R hl kk => lv_imul C.1 C.2.1 hd (kk lsA hl)) k
theorem e_iand {x y : Int32} (n : Nat) (hp : pc + 1 = n) (hd : decode M.2.1 pc = .ok (.iand, 1)) (k : Ev E M kc ks n ls (.int (x &&& y) :: st) μ Q) : Ev E M kc ks pc ls (.int y :: .int x :: st) μ Q := by
  subst hp; exact Ev.step (fun p e s m args below meth c H locs cells slots lsA Z C R hl kk => lv_iand C.1 C.2.1 hd (kk lsA hl)) k
theorem e_ior {x y : Int32} (n : Nat) (hp : pc + 1 = n) (hd : decode M.2.1 pc = .ok (.ior, 1)) (k : Ev E M kc ks n ls (.int (x ||| y) :: st) μ Q) : Ev E M kc ks pc ls (.int y :: .int x :: st) μ Q := by
  subst hp; exact Ev.step (fun p e s m args below meth c H locs cells slots lsA Z C R hl kk => lv_ior C.1 C.2.1 hd (kk lsA hl)) k
theorem e_ishl {x y : Int32} (n : Nat) (hp : pc + 1 = n) (hd : decode M.2.1 pc = .ok (.ishl, 1)) (k : Ev E M kc ks n ls (.int (x <<< (y &&& 31)) :: st) μ Q) : Ev E M kc ks pc ls (.int y :: .int x :: st) μ Q := by
  subst hp; exact Ev.step (fun p e s m args below meth c H locs cells slots lsA Z C R hl kk => lv_ishl C.1 C.2.1 hd (kk lsA hl)) k
theorem e_ishr {x y : Int32} (n : Nat) (hp : pc + 1 = n) (hd : decode M.2.1 pc = .ok (.ishr, 1)) (k : Ev E M kc ks n ls (.int (x >>> (y &&& 31)) :: st) μ Q) : Ev E M kc ks pc ls (.int y :: .int x :: st) μ Q := by
  subst hp; exact Ev.step (fun p e s m args below meth c H locs cells slots lsA Z C R hl kk => lv_ishr C.1 C.2.1 hd (kk lsA hl)) k
theorem e_irem {x y : Int32} (n : Nat) (hp : pc + 1 = n) (hd : decode M.2.1 pc = .ok (.irem, 1)) (hne : ¬ y = 0) (k : Ev E M kc ks n ls (.int (x - x / y * y) :: st) μ Q) : Ev E M kc ks pc ls (.int y :: .int x :: st) μ Q := by
  subst hp; exact Ev.step (fun p e s m args below meth c H locs cells slots lsA Z C R hl kk => lv_irem C.1 C.2.1 hd hne (kk lsA hl)) k
theorem e_ladd {x y : Int64} (n : Nat) (hp : pc + 1 = n) (hd : decode M.2.1 pc = .ok (.ladd, 1)) (k : Ev E M kc ks n ls (.long (x + y) :: st) μ Q) : Ev E M kc ks pc ls (.long y :: .long x :: st) μ Q := by
  subst hp; exact Ev.step (fun p e s m args below meth c H locs cells slots lsA Z C R hl kk => lv_ladd C.1 C.2.1 hd (kk lsA hl)) k
theorem e_land {x y : Int64} (n : Nat) (hp : pc + 1 = n) (hd : decode M.2.1 pc = .ok (.land, 1)) (k : Ev E M kc ks n ls (.long (x &&& y) :: st) μ Q) : Ev E M kc ks pc ls (.long y :: .long x :: st) μ Q := by
  subst hp; exact Ev.step (fun p e s m args below meth c H locs cells slots lsA Z C R hl kk => lv_land C.1 C.2.1 hd (kk lsA hl)) k
theorem e_lor {x y : Int64} (n : Nat) (hp : pc + 1 = n) (hd : decode M.2.1 pc = .ok (.lor, 1)) (k : Ev E M kc ks n ls (.long (x ||| y) :: st) μ Q) : Ev E M kc ks pc ls (.long y :: .long x :: st) μ Q := by
  subst hp; exact Ev.step (fun p e s m args below meth c H locs cells slots lsA Z C R hl kk => lv_lor C.1 C.2.1 hd (kk lsA hl)) k
theorem e_lshl {x : Int64} {y : Int32} (n : Nat) (hp : pc + 1 = n) (hd : decode M.2.1 pc = .ok (.lshl, 1)) (k : Ev E M kc ks n ls (.long (x <<< (y.toInt64 &&& 63)) :: st) μ Q) : Ev E M kc ks pc ls (.int y :: .long x :: st) μ Q := by
  subst hp; exact Ev.step (fun p e s m args below meth c H locs cells slots lsA Z C R hl kk => lv_lshl C.1 C.2.1 hd rfl (kk lsA hl)) k
theorem e_lshr {x : Int64} {y : Int32} (n : Nat) (hp : pc + 1 = n) (hd : decode M.2.1 pc = .ok (.lshr, 1)) (k : Ev E M kc ks n ls (.long (x >>> (y.toInt64 &&& 63)) :: st) μ Q) : Ev E M kc ks pc ls (.int y :: .long x :: st) μ Q := by
  subst hp; exact Ev.step (fun p e s m args below meth c H locs cells slots lsA Z C R hl kk => lv_lshr C.1 C.2.1 hd rfl (kk lsA hl)) k
theorem e_i2l {x : Int32} (n : Nat) (hp : pc + 1 = n) (hd : decode M.2.1 pc = .ok (.i2l, 1)) (k : Ev E M kc ks n ls (.long x.toInt64 :: st) μ Q) : Ev E M kc ks pc ls (.int x :: st) μ Q := by
  subst hp; exact Ev.step (fun p e s m args below meth c H locs cells slots lsA Z C R hl kk => lv_i2l C.1 C.2.1 hd rfl (kk lsA hl)) k
theorem e_l2i {x : Int64} (n : Nat) (hp : pc + 1 = n) (hd : decode M.2.1 pc = .ok (.l2i, 1)) (k : Ev E M kc ks n ls (.int x.toInt32 :: st) μ Q) : Ev E M kc ks pc ls (.long x :: st) μ Q := by
  subst hp; exact Ev.step (fun p e s m args below meth c H locs cells slots lsA Z C R hl kk => lv_l2i C.1 C.2.1 hd rfl (kk lsA hl)) k
theorem e_i2b {x : Int32} (n : Nat) (hp : pc + 1 = n) (hd : decode M.2.1 pc = .ok (.i2b, 1)) (k : Ev E M kc ks n ls (.int x.toInt8.toInt32 :: st) μ Q) : Ev E M kc ks pc ls (.int x :: st) μ Q := by
  subst hp; exact Ev.step (fun p e s m args below meth c H locs cells slots lsA Z C R hl kk => lv_i2b C.1 C.2.1 hd rfl (kk lsA hl)) k
theorem e_i2c {x : Int32} (n : Nat) (hp : pc + 1 = n) (hd : decode M.2.1 pc = .ok (.i2c, 1)) (k : Ev E M kc ks n ls (.int (x.toUInt32 % 65536).toInt32 :: st) μ Q) : Ev E M kc ks pc ls (.int x :: st) μ Q := by
  subst hp; exact Ev.step (fun p e s m args below meth c H locs cells slots lsA Z C R hl kk => lv_i2c C.1 C.2.1 hd rfl (kk lsA hl)) k
theorem e_lcmp {x y : Int64} (n : Nat) (hp : pc + 1 = n) (hd : decode M.2.1 pc = .ok (.lcmp, 1)) (k : Ev E M kc ks n ls (.int (lg_cmp x y) :: st) μ Q) : Ev E M kc ks pc ls (.long y :: .long x :: st) μ Q := by
  subst hp; exact Ev.step (fun p e s m args below meth c H locs cells slots lsA Z C R hl kk => W.lcmp C.1 C.2.1 hd (kk lsA hl)) k
theorem e_dup {v : Value} (n : Nat) (hp : pc + 1 = n) (hd : decode M.2.1 pc = .ok (.dup, 1)) (hv : v.category = 1) (k : Ev E M kc ks n ls (v :: v :: st) μ Q) : Ev E M kc ks pc ls (v :: st) μ Q := by
  subst hp; exact Ev.step (fun p e s m args below meth c H locs cells slots lsA Z C R hl kk => lv_dup C.1 C.2.1 hd hv (kk lsA hl)) k
theorem e_pop {v : Value} (n : Nat) (hp : pc + 1 = n) (hd : decode M.2.1 pc = .ok (.pop, 1)) (hv : v.category = 1) (k : Ev E M kc ks n ls (st) μ Q) : Ev E M kc ks pc ls (v :: st) μ Q := by
  subst hp; exact Ev.step (fun p e s m args below meth c H locs cells slots lsA Z C R hl kk => lv_pop C.1 C.2.1 hd hv (kk lsA hl)) k
theorem e_dup2 {v w : Value} (n : Nat) (hp : pc + 1 = n) (hd : decode M.2.1 pc = .ok (.dup2, 1)) (hv : v.category = 1) (hw : w.category = 1) (k : Ev E M kc ks n ls (v :: w :: v :: w :: st) μ Q) : Ev E M kc ks pc ls (v :: w :: st) μ Q := by
  subst hp; exact Ev.step (fun p e s m args below meth c H locs cells slots lsA Z C R hl kk => lv_dup2_11 C.1 C.2.1 hd hv hw (kk lsA hl)) k
theorem e_iconst {i : Int} (v : Int32) (n : Nat) (hp : pc + 1 = n) (hd : decode M.2.1 pc = .ok (.iconst i, 1)) (hv : Int32.ofInt i = v) (k : Ev E M kc ks n ls (.int v :: st) μ Q) : Ev E M kc ks pc ls (st) μ Q := by
  subst hp; exact Ev.step (fun p e s m args below meth c H locs cells slots lsA Z C R hl kk => lv_iconst C.1 C.2.1 hd hv (kk lsA hl)) k
theorem e_bipush {i : Int} (v : Int32) (n : Nat) (hp : pc + 2 = n) (hd : decode M.2.1 pc = .ok (.bipush i, 2)) (hv : (Int8.ofInt i).toInt32 = v) (k : Ev E M kc ks n ls (.int v :: st) μ Q) : Ev E M kc ks pc ls (st) μ Q := by
  subst hp; exact Ev.step (fun p e s m args below meth c H locs cells slots lsA Z C R hl kk => lv_bipush C.1 C.2.1 hd hv (kk lsA hl)) k
theorem e_sipush {i : Int} (v : Int32) (n : Nat) (hp : pc + 3 = n) (hd : decode M.2.1 pc = .ok (.sipush i, 3)) (hv : (Int16.ofInt i).toInt32 = v) (k : Ev E M kc ks n ls (.int v :: st) μ Q) : Ev E M kc ks pc ls (st) μ Q := by
  subst hp; exact Ev.step (fun p e s m args below meth c H locs cells slots lsA Z C R hl kk => lv_sipush C.1 C.2.1 hd hv (kk lsA hl)) k
theorem e_goto {off : Int} (n : Nat) (hp : (pc : Int) + off = (n : Int)) (hd : decode M.2.1 pc = .ok (.goto off, 3)) (k : Ev E M kc ks n ls st μ Q) : Ev E M kc ks pc ls st μ Q :=
  Ev.step (fun p e s m args below meth c H locs cells slots lsA Z C R hl kk => lv_goto C.1 C.2.1 hd hp (kk lsA hl)) k
theorem e_if_eq {x : Int32} {off : Int} (t n : Nat) (ht : (pc : Int) + off = (t : Int)) (hp : pc + 3 = n) (hd : decode M.2.1 pc = .ok (.ifCond .eq off, 3)) (k1 : x = 0 → Ev E M kc ks t ls st μ Q) (k2 : ¬ x = 0 → Ev E M kc ks n ls st μ Q) : Ev E M kc ks pc ls (.int x :: st) μ Q := by
  subst hp; exact Ev.branch (fun p e s m args below meth c H locs cells slots lsA Z C k1 k2 => lv_if_eq C.1 C.2.1 hd ht k1 k2) k1 k2
theorem e_if_ne {x : Int32} {off : Int} (t n : Nat) (ht : (pc : Int) + off = (t : Int)) (hp : pc + 3 = n) (hd : decode M.2.1 pc = .ok (.ifCond .ne off, 3)) (k1 : ¬ x = 0 → Ev E M kc ks t ls st μ Q) (k2 : x = 0 → Ev E M kc ks n ls st μ Q) : Ev E M kc ks pc ls (.int x :: st) μ Q := by
  subst hp; exact Ev.branch (c0 := ¬ x = 0) (fun p e s m args below meth c H locs cells slots lsA Z C k1 k2 => lv_if_ne C.1 C.2.1 hd ht k1 (fun h => k2 (fun q => q h))) k1 (fun h => k2 (Decidable.not_not.mp h))
theorem e_if_lt {x : Int32} {off : Int} (t n : Nat) (ht : (pc : Int) + off = (t : Int)) (hp : pc + 3 = n) (hd : decode M.2.1 pc = .ok (.ifCond .lt off, 3)) (k1 : x < 0 → Ev E M kc ks t ls st μ Q) (k2 : ¬ x < 0 → Ev E M kc ks n ls st μ Q) : Ev E M kc ks pc ls (.int x :: st) μ Q := by
  subst hp; exact Ev.branch (fun p e s m args below meth c H locs cells slots lsA Z C k1 k2 => lv_if_lt C.1 C.2.1 hd ht k1 k2) k1 k2
theorem e_if_ge {x : Int32} {off : Int} (t n : Nat) (ht : (pc : Int) + off = (t : Int)) (hp : pc + 3 = n) (hd : decode M.2.1 pc = .ok (.ifCond .ge off, 3)) (k1 : 0 ≤ x → Ev E M kc ks t ls st μ Q) (k2 : ¬ 0 ≤ x → Ev E M kc ks n ls st μ Q) : Ev E M kc ks pc ls (.int x :: st) μ Q := by
  subst hp; exact Ev.branch (fun p e s m args below meth c H locs cells slots lsA Z C k1 k2 => lv_if_ge C.1 C.2.1 hd ht k1 k2) k1 k2
theorem e_if_gt {x : Int32} {off : Int} (t n : Nat) (ht : (pc : Int) + off = (t : Int)) (hp : pc + 3 = n) (hd : decode M.2.1 pc = .ok (.ifCond .gt off, 3)) (k1 : 0 < x → Ev E M kc ks t ls st μ Q) (k2 : ¬ 0 < x → Ev E M kc ks n ls st μ Q) : Ev E M kc ks pc ls (.int x :: st) μ Q := by
  subst hp; exact Ev.branch (fun p e s m args below meth c H locs cells slots lsA Z C k1 k2 => lv_if_gt C.1 C.2.1 hd ht k1 k2) k1 k2
theorem e_if_le {x : Int32} {off : Int} (t n : Nat) (ht : (pc : Int) + off = (t : Int)) (hp : pc + 3 = n) (hd : decode M.2.1 pc = .ok (.ifCond .le off, 3)) (k1 : x ≤ 0 → Ev E M kc ks t ls st μ Q) (k2 : ¬ x ≤ 0 → Ev E M kc ks n ls st μ Q) : Ev E M kc ks pc ls (.int x :: st) μ Q := by
  subst hp; exact Ev.branch (fun p e s m args below meth c H locs cells slots lsA Z C k1 k2 => lv_if_le C.1 C.2.1 hd ht k1 k2) k1 k2
theorem e_cmp_ne {x y : Int32} {off : Int} (t n : Nat) (ht : (pc : Int) + off = (t : Int)) (hp : pc + 3 = n) (hd : decode M.2.1 pc = .ok (.if_icmp .ne off, 3)) (k1 : ¬ x = y → Ev E M kc ks t ls st μ Q) (k2 : x = y → Ev E M kc ks n ls st μ Q) : Ev E M kc ks pc ls (.int y :: .int x :: st) μ Q := by
  subst hp; exact Ev.branch (c0 := ¬ x = y) (fun p e s m args below meth c H locs cells slots lsA Z C k1 k2 => lv_icmp_ne C.1 C.2.1 hd ht k1 (fun h => k2 (fun q => q h))) k1 (fun h => k2 (Decidable.not_not.mp h))
theorem e_cmp_eq {x y : Int32} {off : Int} (t n : Nat) (ht : (pc : Int) + off = (t : Int)) (hp : pc + 3 = n) (hd : decode M.2.1 pc = .ok (.if_icmp .eq off, 3)) (k1 : x = y → Ev E M kc ks t ls st μ Q) (k2 : ¬ x = y → Ev E M kc ks n ls st μ Q) : Ev E M kc ks pc ls (.int y :: .int x :: st) μ Q := by
  subst hp; exact Ev.branch (fun p e s m args below meth c H locs cells slots lsA Z C k1 k2 => lv_icmp_eq C.1 C.2.1 hd ht k1 k2) k1 k2
theorem e_cmp_lt {x y : Int32} {off : Int} (t n : Nat) (ht : (pc : Int) + off = (t : Int)) (hp : pc + 3 = n) (hd : decode M.2.1 pc = .ok (.if_icmp .lt off, 3)) (k1 : x < y → Ev E M kc ks t ls st μ Q) (k2 : ¬ x < y → Ev E M kc ks n ls st μ Q) : Ev E M kc ks pc ls (.int y :: .int x :: st) μ Q := by
  subst hp; exact Ev.branch (fun p e s m args below meth c H locs cells slots lsA Z C k1 k2 => lv_icmp_lt C.1 C.2.1 hd ht k1 k2) k1 k2
theorem e_cmp_ge {x y : Int32} {off : Int} (t n : Nat) (ht : (pc : Int) + off = (t : Int)) (hp : pc + 3 = n) (hd : decode M.2.1 pc = .ok (.if_icmp .ge off, 3)) (k1 : y ≤ x → Ev E M kc ks t ls st μ Q) (k2 : ¬ y ≤ x → Ev E M kc ks n ls st μ Q) : Ev E M kc ks pc ls (.int y :: .int x :: st) μ Q := by
  subst hp; exact Ev.branch (fun p e s m args below meth c H locs cells slots lsA Z C k1 k2 => lv_icmp_ge C.1 C.2.1 hd ht k1 k2) k1 k2
theorem e_cmp_gt {x y : Int32} {off : Int} (t n : Nat) (ht : (pc : Int) + off = (t : Int)) (hp : pc + 3 = n) (hd : decode M.2.1 pc = .ok (.if_icmp .gt off, 3)) (k1 : y < x → Ev E M kc ks t ls st μ Q) (k2 : ¬ y < x → Ev E M kc ks n ls st μ Q) : Ev E M kc ks pc ls (.int y :: .int x :: st) μ Q := by
  subst hp; exact Ev.branch (fun p e s m args below meth c H locs cells slots lsA Z C k1 k2 => lv_icmp_gt C.1 C.2.1 hd ht k1 k2) k1 k2
theorem e_cmp_le {x y : Int32} {off : Int} (t n : Nat) (ht : (pc : Int) + off = (t : Int)) (hp : pc + 3 = n) (hd : decode M.2.1 pc = .ok (.if_icmp .le off, 3)) (k1 : x ≤ y → Ev E M kc ks t ls st μ Q) (k2 : ¬ x ≤ y → Ev E M kc ks n ls st μ Q) : Ev E M kc ks pc ls (.int y :: .int x :: st) μ Q := by
  subst hp; exact Ev.branch (fun p e s m args below meth c H locs cells slots lsA Z C k1 k2 => lv_icmp_le C.1 C.2.1 hd ht k1 k2) k1 k2
theorem e_iload_n {i : Fin 4} {x : Int32} (n : Nat) (hp : pc + 1 = n) (hd : decode M.2.1 pc = .ok (.iload_n i, 1)) (hx : ls[(i : Nat)]? = some (some (.int x))) (k : Ev E M kc ks n ls (.int x :: st) μ Q) : Ev E M kc ks pc ls st μ Q := by
  subst hp; exact Ev.step (fun p e s m args below meth c H locs cells slots lsA Z C R hl kk => lv_iload_n C.1 C.2.1 hd rfl (hl.get hx) (kk lsA hl)) k
theorem e_iload {i : Nat} {x : Int32} (n : Nat) (hp : pc + 2 = n) (hd : decode M.2.1 pc = .ok (.iload i, 2)) (hx : ls[i]? = some (some (.int x))) (k : Ev E M kc ks n ls (.int x :: st) μ Q) : Ev E M kc ks pc ls st μ Q := by
  subst hp; exact Ev.step (fun p e s m args below meth c H locs cells slots lsA Z C R hl kk => lv_iload C.1 C.2.1 hd (hl.get hx) (kk lsA hl)) k
theorem e_aload_n {i : Fin 4} {x : Nat} (n : Nat) (hp : pc + 1 = n) (hd : decode M.2.1 pc = .ok (.aload_n i, 1)) (hx : ls[(i : Nat)]? = some (some (.ref x))) (k : Ev E M kc ks n ls (.ref x :: st) μ Q) : Ev E M kc ks pc ls st μ Q := by
  subst hp; exact Ev.step (fun p e s m args below meth c H locs cells slots lsA Z C R hl kk => lv_aload_n C.1 C.2.1 hd rfl (hl.get hx) (kk lsA hl)) k
theorem e_aload {i : Nat} {x : Nat} (n : Nat) (hp : pc + 2 = n) (hd : decode M.2.1 pc = .ok (.aload i, 2)) (hx : ls[i]? = some (some (.ref x))) (k : Ev E M kc ks n ls (.ref x :: st) μ Q) : Ev E M kc ks pc ls st μ Q := by
  subst hp; exact Ev.step (fun p e s m args below meth c H locs cells slots lsA Z C R hl kk => lv_aload C.1 C.2.1 hd (hl.get hx) (kk lsA hl)) k
theorem e_lload_n {i : Fin 4} {x : Int64} (n : Nat) (hp : pc + 1 = n) (hd : decode M.2.1 pc = .ok (.lload_n i, 1)) (hx : ls[(i : Nat)]? = some (some (.long x))) (k : Ev E M kc ks n ls (.long x :: st) μ Q) : Ev E M kc ks pc ls st μ Q := by
  subst hp; exact Ev.step (fun p e s m args below meth c H locs cells slots lsA Z C R hl kk => lv_lload_n C.1 C.2.1 hd rfl (hl.get hx) (kk lsA hl)) k
theorem e_lload {i : Nat} {x : Int64} (n : Nat) (hp : pc + 2 = n) (hd : decode M.2.1 pc = .ok (.lload i, 2)) (hx : ls[i]? = some (some (.long x))) (k : Ev E M kc ks n ls (.long x :: st) μ Q) : Ev E M kc ks pc ls st μ Q := by
  subst hp; exact Ev.step (fun p e s m args below meth c H locs cells slots lsA Z C R hl kk => lv_lload C.1 C.2.1 hd (hl.get hx) (kk lsA hl)) k
/-- one slot is stored: the locals behind it -/
def st1 (ls : List (Option Value)) (i : Nat) (v : Value) : List (Option Value) := ls.set i (some v)
theorem st1_ok {lsA : Array Slot} {n i : Nat} {v : Value} (hi : i < n) (hb : i = 0 ∨ ∀ x, ls[i - 1]? = some x → nl x = true)
    (h : lv_has lsA n ((i, v) :: (asc ls).filter (fun q => !(q.1 == i) && !(q.1 + 1 == i && q.2.category == 2)))) : LsOK lsA n (st1 ls i v) := by
  refine LsOK.of h (fun j u hj => ?_)
  unfold st1 at hj
  rw [List.getElem?_set] at hj
  by_cases e : i = j
  · subst e
    rw [if_pos rfl] at hj
    split at hj
    · cases hj; exact List.mem_cons_self
    · cases hj
  · rw [if_neg e] at hj
    refine List.mem_cons_of_mem _ (List.mem_filter.mpr ⟨mem_asc.mpr hj, ?_⟩)
    have e' : (j == i) = false := by simp; omega
    simp only [e', Bool.not_false, Bool.true_and]
    by_cases e2 : j + 1 = i
    · rcases hb with h0 | hb
      · omega
      · have := hb (some u) (by rw [show i - 1 = j by omega]; exact hj)
        have hcat := nl_cat this
        have : (u.category == 2) = false := by simp [hcat]
        simp [this]
    · have : (j + 1 == i) = false := by simp [e2]
      simp [this]
def st2 (ls : List (Option Value)) (i : Nat) (v : Value) : List (Option Value) := (ls.set i (some v)).set (i + 1) none
theorem st2_ok {lsA : Array Slot} {n i : Nat} {v : Value} (hb : i = 0 ∨ ∀ x, ls[i - 1]? = some x → nl x = true)
    (h : lv_has lsA n ((i, v) :: (asc ls).filter (fun q => !(q.1 == i) && (!(q.1 == i + 1) && !(q.1 + 1 == i && q.2.category == 2))))) : LsOK lsA n (st2 ls i v) := by
  refine LsOK.of h (fun j u hj => ?_)
  unfold st2 at hj
  rw [List.getElem?_set] at hj
  by_cases e1 : i + 1 = j
  · subst e1
    rw [if_pos rfl] at hj
    split at hj
    · cases hj
    · cases hj
  · rw [if_neg e1, List.getElem?_set] at hj
    by_cases e : i = j
    · subst e
      rw [if_pos rfl] at hj
      split at hj
      · cases hj; exact List.mem_cons_self
      · cases hj
    · rw [if_neg e] at hj
      refine List.mem_cons_of_mem _ (List.mem_filter.mpr ⟨mem_asc.mpr hj, ?_⟩)
      have e' : (j == i) = false := by simp; omega
      have e1' : (j == i + 1) = false := by simp; omega
      simp only [e', e1', Bool.not_false, Bool.true_and]
      by_cases e2 : j + 1 = i
      · rcases hb with h0 | hb
        · omega
        · have := hb (some u) (by rw [show i - 1 = j by omega]; exact hj)
          have hcat := nl_cat this
          have : (u.category == 2) = false := by simp [hcat]
          simp [this]
      · have : (j + 1 == i) = false := by simp [e2]
        simp [this]
theorem e_istore_n {i : Fin 4} {x : Int32} {ls' : List (Option Value)} (n : Nat) (hp : pc + 1 = n) (hd : decode M.2.1 pc = .ok (.istore_n i, 1)) (hi : (i : Nat) < M.2.2.1) (hb : (i : Nat) = 0 ∨ ∀ x, ls[(i : Nat) - 1]? = some x → nl x = true) (hs : st1 ls i (.int x) = ls') (k : Ev E M kc ks n ls' st μ Q) : Ev E M kc ks pc ls (.int x :: st) μ Q := by
  subst hp; subst hs; exact Ev.step (fun p e s m args below meth c H locs cells slots lsA Z C R hl kk => lv_istore_n C.1 C.2.1 hd rfl hl hi rfl (fun lsB hB => kk lsB (st1_ok hi hb hB))) k
theorem e_istore {i : Nat} {x : Int32} {ls' : List (Option Value)} (n : Nat) (hp : pc + 2 = n) (hd : decode M.2.1 pc = .ok (.istore i, 2)) (hi : i < M.2.2.1) (hb : i = 0 ∨ ∀ x, ls[i - 1]? = some x → nl x = true) (hs : st1 ls i (.int x) = ls') (k : Ev E M kc ks n ls' st μ Q) : Ev E M kc ks pc ls (.int x :: st) μ Q := by
  subst hp; subst hs; exact Ev.step (fun p e s m args below meth c H locs cells slots lsA Z C R hl kk => lv_istore C.1 C.2.1 hd hl hi rfl (fun lsB hB => kk lsB (st1_ok hi hb hB))) k
theorem e_astore_n {i : Fin 4} {x : Nat} {ls' : List (Option Value)} (n : Nat) (hp : pc + 1 = n) (hd : decode M.2.1 pc = .ok (.astore_n i, 1)) (hi : (i : Nat) < M.2.2.1) (hb : (i : Nat) = 0 ∨ ∀ x, ls[(i : Nat) - 1]? = some x → nl x = true) (hs : st1 ls i (.ref x) = ls') (k : Ev E M kc ks n ls' st μ Q) : Ev E M kc ks pc ls (.ref x :: st) μ Q := by
  subst hp; subst hs; exact Ev.step (fun p e s m args below meth c H locs cells slots lsA Z C R hl kk => lv_astore_n C.1 C.2.1 hd rfl hl hi rfl (fun lsB hB => kk lsB (st1_ok hi hb hB))) k
theorem e_astore {i : Nat} {x : Nat} {ls' : List (Option Value)} (n : Nat) (hp : pc + 2 = n) (hd : decode M.2.1 pc = .ok (.astore i, 2)) (hi : i < M.2.2.1) (hb : i = 0 ∨ ∀ x, ls[i - 1]? = some x → nl x = true) (hs : st1 ls i (.ref x) = ls') (k : Ev E M kc ks n ls' st μ Q) : Ev E M kc ks pc ls (.ref x :: st) μ Q := by
  subst hp; subst hs; exact Ev.step (fun p e s m args below meth c H locs cells slots lsA Z C R hl kk => lv_astore C.1 C.2.1 hd hl hi rfl (fun lsB hB => kk lsB (st1_ok hi hb hB))) k
theorem e_lstore {i : Nat} {x : Int64} {ls' : List (Option Value)} (n : Nat) (hp : pc + 2 = n) (hd : decode M.2.1 pc = .ok (.lstore i, 2)) (hi : i + 1 < M.2.2.1) (hb : i = 0 ∨ ∀ x, ls[i - 1]? = some x → nl x = true) (hs : st2 ls i (.long x) = ls') (k : Ev E M kc ks n ls' st μ Q) : Ev E M kc ks pc ls (.long x :: st) μ Q := by
  subst hp; subst hs; exact Ev.step (fun p e s m args below meth c H locs cells slots lsA Z C R hl kk => lv_lstore C.1 C.2.1 hd hl hi rfl (fun lsB hB => kk lsB (st2_ok hb hB))) k
theorem e_iinc {i : Nat} {z : Int} {x : Int32} {ls' : List (Option Value)} (v : Int32) (n : Nat) (hp : pc + 3 = n) (hd : decode M.2.1 pc = .ok (.iinc i z, 3)) (hx : ls[i]? = some (some (.int x))) (hv : x + Int32.ofInt z = v) (hb : i = 0 ∨ ∀ x, ls[i - 1]? = some x → nl x = true) (hs : st1 ls i (.int v) = ls') (k : Ev E M kc ks n ls' st μ Q) : Ev E M kc ks pc ls st μ Q := by
  subst hp; subst hs
  refine Ev.step (fun p e s m args below meth c H locs cells slots lsA Z C R hl kk => ?_) k
  obtain ⟨j, hj⟩ := List.getElem?_of_mem (mem_asc.mpr hx)
  exact lv_iinc C.1 C.2.1 hd hl hj hv (hl.lt hx) rfl (fun lsB hB => kk lsB (st1_ok (hl.lt hx) hb hB))
theorem e_il0 {ls : List (Option Value)} {x : Int32} (n : Nat) (hp : pc + 1 = n) (hd : decode M.2.1 pc = .ok (.iload_n 0, 1)) (k : Ev E M kc ks n (some (.int x) :: ls) (.int x :: st) μ Q) : Ev E M kc ks pc (some (.int x) :: ls) st μ Q := e_iload_n n hp hd rfl k
theorem e_is0 {y : Option Value} {ls : List (Option Value)} {x : Int32} (n : Nat) (hp : pc + 1 = n) (hd : decode M.2.1 pc = .ok (.istore_n 0, 1)) (hi : 0 < M.2.2.1) (k : Ev E M kc ks n (some (.int x) :: ls) st μ Q) : Ev E M kc ks pc (y :: ls) (.int x :: st) μ Q := e_istore_n n hp hd hi (Or.inl rfl) rfl k
theorem e_al0 {ls : List (Option Value)} {x : Nat} (n : Nat) (hp : pc + 1 = n) (hd : decode M.2.1 pc = .ok (.aload_n 0, 1)) (k : Ev E M kc ks n (some (.ref x) :: ls) (.ref x :: st) μ Q) : Ev E M kc ks pc (some (.ref x) :: ls) st μ Q := e_aload_n n hp hd rfl k
theorem e_as0 {y : Option Value} {ls : List (Option Value)} {x : Nat} (n : Nat) (hp : pc + 1 = n) (hd : decode M.2.1 pc = .ok (.astore_n 0, 1)) (hi : 0 < M.2.2.1) (k : Ev E M kc ks n (some (.ref x) :: ls) st μ Q) : Ev E M kc ks pc (y :: ls) (.ref x :: st) μ Q := e_astore_n n hp hd hi (Or.inl rfl) rfl k
theorem e_ll0 {ls : List (Option Value)} {x : Int64} (n : Nat) (hp : pc + 1 = n) (hd : decode M.2.1 pc = .ok (.lload_n 0, 1)) (k : Ev E M kc ks n (some (.long x) :: ls) (.long x :: st) μ Q) : Ev E M kc ks pc (some (.long x) :: ls) st μ Q := e_lload_n n hp hd rfl k
theorem e_ii0 {ls : List (Option Value)} {z : Int} {x : Int32} (v : Int32) (n : Nat) (hp : pc + 3 = n) (hd : decode M.2.1 pc = .ok (.iinc 0 z, 3)) (hv : x + Int32.ofInt z = v) (k : Ev E M kc ks n (some (.int v) :: ls) st μ Q) : Ev E M kc ks pc (some (.int x) :: ls) st μ Q := e_iinc v n hp hd rfl hv (Or.inl rfl) rfl k
theorem e_il1 {x0 : Option Value} {ls : List (Option Value)} {x : Int32} (n : Nat) (hp : pc + 1 = n) (hd : decode M.2.1 pc = .ok (.iload_n 1, 1)) (k : Ev E M kc ks n (x0 :: some (.int x) :: ls) (.int x :: st) μ Q) : Ev E M kc ks pc (x0 :: some (.int x) :: ls) st μ Q := e_iload_n n hp hd rfl k
theorem e_is1 {x0 : Option Value} {y : Option Value} {ls : List (Option Value)} {x : Int32} (n : Nat) (hp : pc + 1 = n) (hd : decode M.2.1 pc = .ok (.istore_n 1, 1)) (hi : 1 < M.2.2.1) (hb : nl x0 = true) (k : Ev E M kc ks n (x0 :: some (.int x) :: ls) st μ Q) : Ev E M kc ks pc (x0 :: y :: ls) (.int x :: st) μ Q := e_istore_n n hp hd hi (Or.inr (fun x h => by cases h; exact hb)) rfl k
theorem e_al1 {x0 : Option Value} {ls : List (Option Value)} {x : Nat} (n : Nat) (hp : pc + 1 = n) (hd : decode M.2.1 pc = .ok (.aload_n 1, 1)) (k : Ev E M kc ks n (x0 :: some (.ref x) :: ls) (.ref x :: st) μ Q) : Ev E M kc ks pc (x0 :: some (.ref x) :: ls) st μ Q := e_aload_n n hp hd rfl k
theorem e_as1 {x0 : Option Value} {y : Option Value} {ls : List (Option Value)} {x : Nat} (n : Nat) (hp : pc + 1 = n) (hd : decode M.2.1 pc = .ok (.astore_n 1, 1)) (hi : 1 < M.2.2.1) (hb : nl x0 = true) (k : Ev E M kc ks n (x0 :: some (.ref x) :: ls) st μ Q) : Ev E M kc ks pc (x0 :: y :: ls) (.ref x :: st) μ Q := e_astore_n n hp hd hi (Or.inr (fun x h => by cases h; exact hb)) rfl k
theorem e_ll1 {x0 : Option Value} {ls : List (Option Value)} {x : Int64} (n : Nat) (hp : pc + 1 = n) (hd : decode M.2.1 pc = .ok (.lload_n 1, 1)) (k : Ev E M kc ks n (x0 :: some (.long x) :: ls) (.long x :: st) μ Q) : Ev E M kc ks pc (x0 :: some (.long x) :: ls) st μ Q := e_lload_n n hp hd rfl k
theorem e_ii1 {x0 : Option Value} {ls : List (Option Value)} {z : Int} {x : Int32} (v : Int32) (n : Nat) (hp : pc + 3 = n) (hd : decode M.2.1 pc = .ok (.iinc 1 z, 3)) (hv : x + Int32.ofInt z = v) (hb : nl x0 = true) (k : Ev E M kc ks n (x0 :: some (.int v) :: ls) st μ Q) : Ev E M kc ks pc (x0 :: some (.int x) :: ls) st μ Q := e_iinc v n hp hd rfl hv (Or.inr (fun x h => by cases h; exact hb)) rfl k
theorem e_il2 {x0 x1 : Option Value} {ls : List (Option Value)} {x : Int32} (n : Nat) (hp : pc + 1 = n) (hd : decode M.2.1 pc = .ok (.iload_n 2, 1)) (k : Ev E M kc ks n (x0 :: x1 :: some (.int x) :: ls) (.int x :: st) μ Q) : Ev E M kc ks pc (x0 :: x1 :: some (.int x) :: ls) st μ Q := e_iload_n n hp hd rfl k
theorem e_is2 {x0 x1 : Option Value} {y : Option Value} {ls : List (Option Value)} {x : Int32} (n : Nat) (hp : pc + 1 = n) (hd : decode M.2.1 pc = .ok (.istore_n 2, 1)) (hi : 2 < M.2.2.1) (hb : nl x1 = true) (k : Ev E M kc ks n (x0 :: x1 :: some (.int x) :: ls) st μ Q) : Ev E M kc ks pc (x0 :: x1 :: y :: ls) (.int x :: st) μ Q := e_istore_n n hp hd hi (Or.inr (fun x h => by cases h; exact hb)) rfl k
theorem e_al2 {x0 x1 : Option Value} {ls : List (Option Value)} {x : Nat} (n : Nat) (hp : pc + 1 = n) (hd : decode M.2.1 pc = .ok (.aload_n 2, 1)) (k : Ev E M kc ks n (x0 :: x1 :: some (.ref x) :: ls) (.ref x :: st) μ Q) : Ev E M kc ks pc (x0 :: x1 :: some (.ref x) :: ls) st μ Q := e_aload_n n hp hd rfl k
theorem e_as2 {x0 x1 : Option Value} {y : Option Value} {ls : List (Option Value)} {x : Nat} (n : Nat) (hp : pc + 1 = n) (hd : decode M.2.1 pc = .ok (.astore_n 2, 1)) (hi : 2 < M.2.2.1) (hb : nl x1 = true) (k : Ev E M kc ks n (x0 :: x1 :: some (.ref x) :: ls) st μ Q) : Ev E M kc ks pc (x0 :: x1 :: y :: ls) (.ref x :: st) μ Q := e_astore_n n hp hd hi (Or.inr (fun x h => by cases h; exact hb)) rfl k
theorem e_ll2 {x0 x1 : Option Value} {ls : List (Option Value)} {x : Int64} (n : Nat) (hp : pc + 1 = n) (hd : decode M.2.1 pc = .ok (.lload_n 2, 1)) (k : Ev E M kc ks n (x0 :: x1 :: some (.long x) :: ls) (.long x :: st) μ Q) : Ev E M kc ks pc (x0 :: x1 :: some (.long x) :: ls) st μ Q := e_lload_n n hp hd rfl k
theorem e_ii2 {x0 x1 : Option Value} {ls : List (Option Value)} {z : Int} {x : Int32} (v : Int32) (n : Nat) (hp : pc + 3 = n) (hd : decode M.2.1 pc = .ok (.iinc 2 z, 3)) (hv : x + Int32.ofInt z = v) (hb : nl x1 = true) (k : Ev E M kc ks n (x0 :: x1 :: some (.int v) :: ls) st μ Q) : Ev E M kc ks pc (x0 :: x1 :: some (.int x) :: ls) st μ Q := e_iinc v n hp hd rfl hv (Or.inr (fun x h => by cases h; exact hb)) rfl k
theorem e_il3 {x0 x1 x2 : Option Value} {ls : List (Option Value)} {x : Int32} (n : Nat) (hp : pc + 1 = n) (hd : decode M.2.1 pc = .ok (.iload_n 3, 1)) (k : Ev E M kc ks n (x0 :: x1 :: x2 :: some (.int x) :: ls) (.int x :: st) μ Q) : Ev E M kc ks pc (x0 :: x1 :: x2 :: some (.int x) :: ls) st μ Q := e_iload_n n hp hd rfl k
theorem e_is3 {x0 x1 x2 : Option Value} {y : Option Value} {ls : List (Option Value)} {x : Int32} (n : Nat) (hp : pc + 1 = n) (hd : decode M.2.1 pc = .ok (.istore_n 3, 1)) (hi : 3 < M.2.2.1) (hb : nl x2 = true) (k : Ev E M kc ks n (x0 :: x1 :: x2 :: some (.int x) :: ls) st μ Q) : Ev E M kc ks pc (x0 :: x1 :: x2 :: y :: ls) (.int x :: st) μ Q := e_istore_n n hp hd hi (Or.inr (fun x h => by cases h; exact hb)) rfl k
theorem e_al3 {x0 x1 x2 : Option Value} {ls : List (Option Value)} {x : Nat} (n : Nat) (hp : pc + 1 = n) (hd : decode M.2.1 pc = .ok (.aload_n 3, 1)) (k : Ev E M kc ks n (x0 :: x1 :: x2 :: some (.ref x) :: ls) (.ref x :: st) μ Q) : Ev E M kc ks pc (x0 :: x1 :: x2 :: some (.ref x) :: ls) st μ Q := e_aload_n n hp hd rfl k
theorem e_as3 {x0 x1 x2 : Option Value} {y : Option Value} {ls : List (Option Value)} {x : Nat} (n : Nat) (hp : pc + 1 = n) (hd : decode M.2.1 pc = .ok (.astore_n 3, 1)) (hi : 3 < M.2.2.1) (hb : nl x2 = true) (k : Ev E M kc ks n (x0 :: x1 :: x2 :: some (.ref x) :: ls) st μ Q) : Ev E M kc ks pc (x0 :: x1 :: x2 :: y :: ls) (.ref x :: st) μ Q := e_astore_n n hp hd hi (Or.inr (fun x h => by cases h; exact hb)) rfl k
theorem e_ll3 {x0 x1 x2 : Option Value} {ls : List (Option Value)} {x : Int64} (n : Nat) (hp : pc + 1 = n) (hd : decode M.2.1 pc = .ok (.lload_n 3, 1)) (k : Ev E M kc ks n (x0 :: x1 :: x2 :: some (.long x) :: ls) (.long x :: st) μ Q) : Ev E M kc ks pc (x0 :: x1 :: x2 :: some (.long x) :: ls) st μ Q := e_lload_n n hp hd rfl k
theorem e_ii3 {x0 x1 x2 : Option Value} {ls : List (Option Value)} {z : Int} {x : Int32} (v : Int32) (n : Nat) (hp : pc + 3 = n) (hd : decode M.2.1 pc = .ok (.iinc 3 z, 3)) (hv : x + Int32.ofInt z = v) (hb : nl x2 = true) (k : Ev E M kc ks n (x0 :: x1 :: x2 :: some (.int v) :: ls) st μ Q) : Ev E M kc ks pc (x0 :: x1 :: x2 :: some (.int x) :: ls) st μ Q := e_iinc v n hp hd rfl hv (Or.inr (fun x h => by cases h; exact hb)) rfl k
theorem e_il4 {x0 x1 x2 x3 : Option Value} {ls : List (Option Value)} {x : Int32} (n : Nat) (hp : pc + 2 = n) (hd : decode M.2.1 pc = .ok (.iload 4, 2)) (k : Ev E M kc ks n (x0 :: x1 :: x2 :: x3 :: some (.int x) :: ls) (.int x :: st) μ Q) : Ev E M kc ks pc (x0 :: x1 :: x2 :: x3 :: some (.int x) :: ls) st μ Q := e_iload n hp hd rfl k
theorem e_is4 {x0 x1 x2 x3 : Option Value} {y : Option Value} {ls : List (Option Value)} {x : Int32} (n : Nat) (hp : pc + 2 = n) (hd : decode M.2.1 pc = .ok (.istore 4, 2)) (hi : 4 < M.2.2.1) (hb : nl x3 = true) (k : Ev E M kc ks n (x0 :: x1 :: x2 :: x3 :: some (.int x) :: ls) st μ Q) : Ev E M kc ks pc (x0 :: x1 :: x2 :: x3 :: y :: ls) (.int x :: st) μ Q := e_istore n hp hd hi (Or.inr (fun x h => by cases h; exact hb)) rfl k
theorem e_al4 {x0 x1 x2 x3 : Option Value} {ls : List (Option Value)} {x : Nat} (n : Nat) (hp : pc + 2 = n) (hd : decode M.2.1 pc = .ok (.aload 4, 2)) (k : Ev E M kc ks n (x0 :: x1 :: x2 :: x3 :: some (.ref x) :: ls) (.ref x :: st) μ Q) : Ev E M kc ks pc (x0 :: x1 :: x2 :: x3 :: some (.ref x) :: ls) st μ Q := e_aload n hp hd rfl k
theorem e_as4 {x0 x1 x2 x3 : Option Value} {y : Option Value} {ls : List (Option Value)} {x : Nat} (n : Nat) (hp : pc + 2 = n) (hd : decode M.2.1 pc = .ok (.astore 4, 2)) (hi : 4 < M.2.2.1) (hb : nl x3 = true) (k : Ev E M kc ks n (x0 :: x1 :: x2 :: x3 :: some (.ref x) :: ls) st μ Q) : Ev E M kc ks pc (x0 :: x1 :: x2 :: x3 :: y :: ls) (.ref x :: st) μ Q := e_astore n hp hd hi (Or.inr (fun x h => by cases h; exact hb)) rfl k
theorem e_ll4 {x0 x1 x2 x3 : Option Value} {ls : List (Option Value)} {x : Int64} (n : Nat) (hp : pc + 2 = n) (hd : decode M.2.1 pc = .ok (.lload 4, 2)) (k : Ev E M kc ks n (x0 :: x1 :: x2 :: x3 :: some (.long x) :: ls) (.long x :: st) μ Q) : Ev E M kc ks pc (x0 :: x1 :: x2 :: x3 :: some (.long x) :: ls) st μ Q := e_lload n hp hd rfl k
theorem e_ii4 {x0 x1 x2 x3 : Option Value} {ls : List (Option Value)} {z : Int} {x : Int32} (v : Int32) (n : Nat) (hp : pc + 3 = n) (hd : decode M.2.1 pc = .ok (.iinc 4 z, 3)) (hv : x + Int32.ofInt z = v) (hb : nl x3 = true) (k : Ev E M kc ks n (x0 :: x1 :: x2 :: x3 :: some (.int v) :: ls) st μ Q) : Ev E M kc ks pc (x0 :: x1 :: x2 :: x3 :: some (.int x) :: ls) st μ Q := e_iinc v n hp hd rfl hv (Or.inr (fun x h => by cases h; exact hb)) rfl k
theorem e_ls4 {x0 x1 x2 x3 : Option Value} {y z : Option Value} {ls : List (Option Value)} {x : Int64} (n : Nat) (hp : pc + 2 = n) (hd : decode M.2.1 pc = .ok (.lstore 4, 2)) (hi : 4 + 1 < M.2.2.1) (hb : nl x3 = true) (k : Ev E M kc ks n (x0 :: x1 :: x2 :: x3 :: some (.long x) :: none :: ls) st μ Q) : Ev E M kc ks pc (x0 :: x1 :: x2 :: x3 :: y :: z :: ls) (.long x :: st) μ Q := e_lstore n hp hd hi (Or.inr (fun x h => by cases h; exact hb)) rfl k
theorem e_il5 {x0 x1 x2 x3 x4 : Option Value} {ls : List (Option Value)} {x : Int32} (n : Nat) (hp : pc + 2 = n) (hd : decode M.2.1 pc = .ok (.iload 5, 2)) (k : Ev E M kc ks n (x0 :: x1 :: x2 :: x3 :: x4 :: some (.int x) :: ls) (.int x :: st) μ Q) : Ev E M kc ks pc (x0 :: x1 :: x2 :: x3 :: x4 :: some (.int x) :: ls) st μ Q := e_iload n hp hd rfl k
theorem e_is5 {x0 x1 x2 x3 x4 : Option Value} {y : Option Value} {ls : List (Option Value)} {x : Int32} (n : Nat) (hp : pc + 2 = n) (hd : decode M.2.1 pc = .ok (.istore 5, 2)) (hi : 5 < M.2.2.1) (hb : nl x4 = true) (k : Ev E M kc ks n (x0 :: x1 :: x2 :: x3 :: x4 :: some (.int x) :: ls) st μ Q) : Ev E M kc ks pc (x0 :: x1 :: x2 :: x3 :: x4 :: y :: ls) (.int x :: st) μ Q := e_istore n hp hd hi (Or.inr (fun x h => by cases h; exact hb)) rfl k
theorem e_al5 {x0 x1 x2 x3 x4 : Option Value} {ls : List (Option Value)} {x : Nat} (n : Nat) (hp : pc + 2 = n) (hd : decode M.2.1 pc = .ok (.aload 5, 2)) (k : Ev E M kc ks n (x0 :: x1 :: x2 :: x3 :: x4 :: some (.ref x) :: ls) (.ref x :: st) μ Q) : Ev E M kc ks pc (x0 :: x1 :: x2 :: x3 :: x4 :: some (.ref x) :: ls) st μ Q := e_aload n hp hd rfl k
theorem e_as5 {x0 x1 x2 x3 x4 : Option Value} {y : Option Value} {ls : List (Option Value)} {x : Nat} (n : Nat) (hp : pc + 2 = n) (hd : decode M.2.1 pc = .ok (.astore 5, 2)) (hi : 5 < M.2.2.1) (hb : nl x4 = true) (k : Ev E M kc ks n (x0 :: x1 :: x2 :: x3 :: x4 :: some (.ref x) :: ls) st μ Q) : Ev E M kc ks pc (x0 :: x1 :: x2 :: x3 :: x4 :: y :: ls) (.ref x :: st) μ Q := e_astore n hp hd hi (Or.inr (fun x h => by cases h; exact hb)) rfl k
theorem e_ll5 {x0 x1 x2 x3 x4 : Option Value} {ls : List (Option Value)} {x : Int64} (n : Nat) (hp : pc + 2 = n) (hd : decode M.2.1 pc = .ok (.lload 5, 2)) (k : Ev E M kc ks n (x0 :: x1 :: x2 :: x3 :: x4 :: some (.long x) :: ls) (.long x :: st) μ Q) : Ev E M kc ks pc (x0 :: x1 :: x2 :: x3 :: x4 :: some (.long x) :: ls) st μ Q := e_lload n hp hd rfl k
theorem e_ii5 {x0 x1 x2 x3 x4 : Option Value} {ls : List (Option Value)} {z : Int} {x : Int32} (v : Int32) (n : Nat) (hp : pc + 3 = n) (hd : decode M.2.1 pc = .ok (.iinc 5 z, 3)) (hv : x + Int32.ofInt z = v) (hb : nl x4 = true) (k : Ev E M kc ks n (x0 :: x1 :: x2 :: x3 :: x4 :: some (.int v) :: ls) st μ Q) : Ev E M kc ks pc (x0 :: x1 :: x2 :: x3 :: x4 :: some (.int x) :: ls) st μ Q := e_iinc v n hp hd rfl hv (Or.inr (fun x h => by cases h; exact hb)) rfl k
theorem e_ls5 {x0 x1 x2 x3 x4 : Option Value} {y z : Option Value} {ls : List (Option Value)} {x : Int64} (n : Nat) (hp : pc + 2 = n) (hd : decode M.2.1 pc = .ok (.lstore 5, 2)) (hi : 5 + 1 < M.2.2.1) (hb : nl x4 = true) (k : Ev E M kc ks n (x0 :: x1 :: x2 :: x3 :: x4 :: some (.long x) :: none :: ls) st μ Q) : Ev E M kc ks pc (x0 :: x1 :: x2 :: x3 :: x4 :: y :: z :: ls) (.long x :: st) μ Q := e_lstore n hp hd hi (Or.inr (fun x h => by cases h; exact hb)) rfl k
theorem e_il6 {x0 x1 x2 x3 x4 x5 : Option Value} {ls : List (Option Value)} {x : Int32} (n : Nat) (hp : pc + 2 = n) (hd : decode M.2.1 pc = .ok (.iload 6, 2)) (k : Ev E M kc ks n (x0 :: x1 :: x2 :: x3 :: x4 :: x5 :: some (.int x) :: ls) (.int x :: st) μ Q) : Ev E M kc ks pc (x0 :: x1 :: x2 :: x3 :: x4 :: x5 :: some (.int x) :: ls) st μ Q := e_iload n hp hd rfl k
theorem e_is6 {x0 x1 x2 x3 x4 x5 : Option Value} {y : Option Value} {ls : List (Option Value)} {x : Int32} (n : Nat) (hp : pc + 2 = n) (hd : decode M.2.1 pc = .ok (.istore 6, 2)) (hi : 6 < M.2.2.1) (hb : nl x5 = true) (k : Ev E M kc ks n (x0 :: x1 :: x2 :: x3 :: x4 :: x5 :: some (.int x) :: ls) st μ Q) : Ev E M kc ks pc (x0 :: x1 :: x2 :: x3 :: x4 :: x5 :: y :: ls) (.int x :: st) μ Q := e_istore n hp hd hi (Or.inr (fun x h => by cases h; exact hb)) rfl k
theorem e_al6 {x0 x1 x2 x3 x4 x5 : Option Value} {ls : List (Option Value)} {x : Nat} (n : Nat) (hp : pc + 2 = n) (hd : decode M.2.1 pc = .ok (.aload 6, 2)) (k : Ev E M kc ks n (x0 :: x1 :: x2 :: x3 :: x4 :: x5 :: some (.ref x) :: ls) (.ref x :: st) μ Q) : Ev E M kc ks pc (x0 :: x1 :: x2 :: x3 :: x4 :: x5 :: some (.ref x) :: ls) st μ Q := e_aload n hp hd rfl k
theorem e_as6 {x0 x1 x2 x3 x4 x5 : Option Value} {y : Option Value} {ls : List (Option Value)} {x : Nat} (n : Nat) (hp : pc + 2 = n) (hd : decode M.2.1 pc = .ok (.astore 6, 2)) (hi : 6 < M.2.2.1) (hb : nl x5 = true) (k : Ev E M kc ks n (x0 :: x1 :: x2 :: x3 :: x4 :: x5 :: some (.ref x) :: ls) st μ Q) : Ev E M kc ks pc (x0 :: x1 :: x2 :: x3 :: x4 :: x5 :: y :: ls) (.ref x :: st) μ Q := e_astore n hp hd hi (Or.inr (fun x h => by cases h; exact hb)) rfl k
theorem e_ll6 {x0 x1 x2 x3 x4 x5 : Option Value} {ls : List (Option Value)} {x : Int64} (n : Nat) (hp : pc + 2 = n) (hd : decode M.2.1 pc = .ok (.lload 6, 2)) (k : Ev E M kc ks n (x0 :: x1 :: x2 :: x3 :: x4 :: x5 :: some (.long x) :: ls) (.long x :: st) μ Q) : Ev E M kc ks pc (x0 :: x1 :: x2 :: x3 :: x4 :: x5 :: some (.long x) :: ls) st μ Q := e_lload n hp hd rfl k
theorem e_ii6 {x0 x1 x2 x3 x4 x5 : Option Value} {ls : List (Option Value)} {z : Int} {x : Int32} (v : Int32) (n : Nat) (hp : pc + 3 = n) (hd : decode M.2.1 pc = .ok (.iinc 6 z, 3)) (hv : x + Int32.ofInt z = v) (hb : nl x5 = true) (k : Ev E M kc ks n (x0 :: x1 :: x2 :: x3 :: x4 :: x5 :: some (.int v) :: ls) st μ Q) : Ev E M kc ks pc (x0 :: x1 :: x2 :: x3 :: x4 :: x5 :: some (.int x) :: ls) st μ Q := e_iinc v n hp hd rfl hv (Or.inr (fun x h => by cases h; exact hb)) rfl k
theorem e_ls6 {x0 x1 x2 x3 x4 x5 : Option Value} {y z : Option Value} {ls : List (Option Value)} {x : Int64} (n : Nat) (hp : pc + 2 = n) (hd : decode M.2.1 pc = .ok (.lstore 6, 2)) (hi : 6 + 1 < M.2.2.1) (hb : nl x5 = true) (k : Ev E M kc ks n (x0 :: x1 :: x2 :: x3 :: x4 :: x5 :: some (.long x) :: none :: ls) st μ Q) : Ev E M kc ks pc (x0 :: x1 :: x2 :: x3 :: x4 :: x5 :: y :: z :: ls) (.long x :: st) μ Q := e_lstore n hp hd hi (Or.inr (fun x h => by cases h; exact hb)) rfl k
theorem e_il7 {x0 x1 x2 x3 x4 x5 x6 : Option Value} {ls : List (Option Value)} {x : Int32} (n : Nat) (hp : pc + 2 = n) (hd : decode M.2.1 pc = .ok (.iload 7, 2)) (k : Ev E M kc ks n (x0 :: x1 :: x2 :: x3 :: x4 :: x5 :: x6 :: some (.int x) :: ls) (.int x :: st) μ Q) : Ev E M kc ks pc (x0 :: x1 :: x2 :: x3 :: x4 :: x5 :: x6 :: some (.int x) :: ls) st μ Q := e_iload n hp hd rfl k
theorem e_is7 {x0 x1 x2 x3 x4 x5 x6 : Option Value} {y : Option Value} {ls : List (Option Value)} {x : Int32} (n : Nat) (hp : pc + 2 = n) (hd : decode M.2.1 pc = .ok (.istore 7, 2)) (hi : 7 < M.2.2.1) (hb : nl x6 = true) (k : Ev E M kc ks n (x0 :: x1 :: x2 :: x3 :: x4 :: x5 :: x6 :: some (.int x) :: ls) st μ Q) : Ev E M kc ks pc (x0 :: x1 :: x2 :: x3 :: x4 :: x5 :: x6 :: y :: ls) (.int x :: st) μ Q := e_istore n hp hd hi (Or.inr (fun x h => by cases h; exact hb)) rfl k
theorem e_al7 {x0 x1 x2 x3 x4 x5 x6 : Option Value} {ls : List (Option Value)} {x : Nat} (n : Nat) (hp : pc + 2 = n) (hd : decode M.2.1 pc = .ok (.aload 7, 2)) (k : Ev E M kc ks n (x0 :: x1 :: x2 :: x3 :: x4 :: x5 :: x6 :: some (.ref x) :: ls) (.ref x :: st) μ Q) : Ev E M kc ks pc (x0 :: x1 :: x2 :: x3 :: x4 :: x5 :: x6 :: some (.ref x) :: ls) st μ Q := e_aload n hp hd rfl k
theorem e_as7 {x0 x1 x2 x3 x4 x5 x6 : Option Value} {y : Option Value} {ls : List (Option Value)} {x : Nat} (n : Nat) (hp : pc + 2 = n) (hd : decode M.2.1 pc = .ok (.astore 7, 2)) (hi : 7 < M.2.2.1) (hb : nl x6 = true) (k : Ev E M kc ks n (x0 :: x1 :: x2 :: x3 :: x4 :: x5 :: x6 :: some (.ref x) :: ls) st μ Q) : Ev E M kc ks pc (x0 :: x1 :: x2 :: x3 :: x4 :: x5 :: x6 :: y :: ls) (.ref x :: st) μ Q := e_astore n hp hd hi (Or.inr (fun x h => by cases h; exact hb)) rfl k
theorem e_ll7 {x0 x1 x2 x3 x4 x5 x6 : Option Value} {ls : List (Option Value)} {x : Int64} (n : Nat) (hp : pc + 2 = n) (hd : decode M.2.1 pc = .ok (.lload 7, 2)) (k : Ev E M kc ks n (x0 :: x1 :: x2 :: x3 :: x4 :: x5 :: x6 :: some (.long x) :: ls) (.long x :: st) μ Q) : Ev E M kc ks pc (x0 :: x1 :: x2 :: x3 :: x4 :: x5 :: x6 :: some (.long x) :: ls) st μ Q := e_lload n hp hd rfl k
theorem e_ii7 {x0 x1 x2 x3 x4 x5 x6 : Option Value} {ls : List (Option Value)} {z : Int} {x : Int32} (v : Int32) (n : Nat) (hp : pc + 3 = n) (hd : decode M.2.1 pc = .ok (.iinc 7 z, 3)) (hv : x + Int32.ofInt z = v) (hb : nl x6 = true) (k : Ev E M kc ks n (x0 :: x1 :: x2 :: x3 :: x4 :: x5 :: x6 :: some (.int v) :: ls) st μ Q) : Ev E M kc ks pc (x0 :: x1 :: x2 :: x3 :: x4 :: x5 :: x6 :: some (.int x) :: ls) st μ Q := e_iinc v n hp hd rfl hv (Or.inr (fun x h => by cases h; exact hb)) rfl k
theorem e_ls7 {x0 x1 x2 x3 x4 x5 x6 : Option Value} {y z : Option Value} {ls : List (Option Value)} {x : Int64} (n : Nat) (hp : pc + 2 = n) (hd : decode M.2.1 pc = .ok (.lstore 7, 2)) (hi : 7 + 1 < M.2.2.1) (hb : nl x6 = true) (k : Ev E M kc ks n (x0 :: x1 :: x2 :: x3 :: x4 :: x5 :: x6 :: some (.long x) :: none :: ls) st μ Q) : Ev E M kc ks pc (x0 :: x1 :: x2 :: x3 :: x4 :: x5 :: x6 :: y :: z :: ls) (.long x :: st) μ Q := e_lstore n hp hd hi (Or.inr (fun x h => by cases h; exact hb)) rfl k
theorem e_il8 {x0 x1 x2 x3 x4 x5 x6 x7 : Option Value} {ls : List (Option Value)} {x : Int32} (n : Nat) (hp : pc + 2 = n) (hd : decode M.2.1 pc = .ok (.iload 8, 2)) (k : Ev E M kc ks n (x0 :: x1 :: x2 :: x3 :: x4 :: x5 :: x6 :: x7 :: some (.int x) :: ls) (.int x :: st) μ Q) : Ev E M kc ks pc (x0 :: x1 :: x2 :: x3 :: x4 :: x5 :: x6 :: x7 :: some (.int x) :: ls) st μ Q := e_iload n hp hd rfl k
theorem e_is8 {x0 x1 x2 x3 x4 x5 x6 x7 : Option Value} {y : Option Value} {ls : List (Option Value)} {x : Int32} (n : Nat) (hp : pc + 2 = n) (hd : decode M.2.1 pc = .ok (.istore 8, 2)) (hi : 8 < M.2.2.1) (hb : nl x7 = true) (k : Ev E M kc ks n (x0 :: x1 :: x2 :: x3 :: x4 :: x5 :: x6 :: x7 :: some (.int x) :: ls) st μ Q) : Ev E M kc ks pc (x0 :: x1 :: x2 :: x3 :: x4 :: x5 :: x6 :: x7 :: y :: ls) (.int x :: st) μ Q := e_istore n hp hd hi (Or.inr (fun x h => by cases h; exact hb)) rfl k
theorem e_al8 {x0 x1 x2 x3 x4 x5 x6 x7 : Option Value} {ls : List (Option Value)} {x : Nat} (n : Nat) (hp : pc + 2 = n) (hd : decode M.2.1 pc = .ok (.aload 8, 2)) (k : Ev E M kc ks n (x0 :: x1 :: x2 :: x3 :: x4 :: x5 :: x6 :: x7 :: some (.ref x) :: ls) (.ref x :: st) μ Q) : Ev E M kc ks pc (x0 :: x1 :: x2 :: x3 :: x4 :: x5 :: x6 :: x7 :: some (.ref x) :: ls) st μ Q := e_aload n hp hd rfl k
theorem e_as8 {x0 x1 x2 x3 x4 x5 x6 x7 : Option Value} {y : Option Value} {ls : List (Option Value)} {x : Nat} (n : Nat) (hp : pc + 2 = n) (hd : decode M.2.1 pc = .ok (.astore 8, 2)) (hi : 8 < M.2.2.1) (hb : nl x7 = true) (k : Ev E M kc ks n (x0 :: x1 :: x2 :: x3 :: x4 :: x5 :: x6 :: x7 :: some (.ref x) :: ls) st μ Q) : Ev E M kc ks pc (x0 :: x1 :: x2 :: x3 :: x4 :: x5 :: x6 :: x7 :: y :: ls) (.ref x :: st) μ Q := e_astore n hp hd hi (Or.inr (fun x h => by cases h; exact hb)) rfl k
theorem e_ll8 {x0 x1 x2 x3 x4 x5 x6 x7 : Option Value} {ls : List (Option Value)} {x : Int64} (n : Nat) (hp : pc + 2 = n) (hd : decode M.2.1 pc = .ok (.lload 8, 2)) (k : Ev E M kc ks n (x0 :: x1 :: x2 :: x3 :: x4 :: x5 :: x6 :: x7 :: some (.long x) :: ls) (.long x :: st) μ Q) : Ev E M kc ks pc (x0 :: x1 :: x2 :: x3 :: x4 :: x5 :: x6 :: x7 :: some (.long x) :: ls) st μ Q := e_lload n hp hd rfl k
theorem e_ii8 {x0 x1 x2 x3 x4 x5 x6 x7 : Option Value} {ls : List (Option Value)} {z : Int} {x : Int32} (v : Int32) (n : Nat) (hp : pc + 3 = n) (hd : decode M.2.1 pc = .ok (.iinc 8 z, 3)) (hv : x + Int32.ofInt z = v) (hb : nl x7 = true) (k : Ev E M kc ks n (x0 :: x1 :: x2 :: x3 :: x4 :: x5 :: x6 :: x7 :: some (.int v) :: ls) st μ Q) : Ev E M kc ks pc (x0 :: x1 :: x2 :: x3 :: x4 :: x5 :: x6 :: x7 :: some (.int x) :: ls) st μ Q := e_iinc v n hp hd rfl hv (Or.inr (fun x h => by cases h; exact hb)) rfl k
theorem e_ls8 {x0 x1 x2 x3 x4 x5 x6 x7 : Option Value} {y z : Option Value} {ls : List (Option Value)} {x : Int64} (n : Nat) (hp : pc + 2 = n) (hd : decode M.2.1 pc = .ok (.lstore 8, 2)) (hi : 8 + 1 < M.2.2.1) (hb : nl x7 = true) (k : Ev E M kc ks n (x0 :: x1 :: x2 :: x3 :: x4 :: x5 :: x6 :: x7 :: some (.long x) :: none :: ls) st μ Q) : Ev E M kc ks pc (x0 :: x1 :: x2 :: x3 :: x4 :: x5 :: x6 :: x7 :: y :: z :: ls) (.long x :: st) μ Q := e_lstore n hp hd hi (Or.inr (fun x h => by cases h; exact hb)) rfl k
theorem e_il9 {x0 x1 x2 x3 x4 x5 x6 x7 x8 : Option Value} {ls : List (Option Value)} {x : Int32} (n : Nat) (hp : pc + 2 = n) (hd : decode M.2.1 pc = .ok (.iload 9, 2)) (k : Ev E M kc ks n (x0 :: x1 :: x2 :: x3 :: x4 :: x5 :: x6 :: x7 :: x8 :: some (.int x) :: ls) (.int x :: st) μ Q) : Ev E M kc ks pc (x0 :: x1 :: x2 :: x3 :: x4 :: x5 :: x6 :: x7 :: x8 :: some (.int x) :: ls) st μ Q := e_iload n hp hd rfl k
theorem e_is9 {x0 x1 x2 x3 x4 x5 x6 x7 x8 : Option Value} {y : Option Value} {ls : List (Option Value)} {x : Int32} (n : Nat) (hp : pc + 2 = n) (hd : decode M.2.1 pc = .ok (.istore 9, 2)) (hi : 9 < M.2.2.1) (hb : nl x8 = true) (k : Ev E M kc ks n (x0 :: x1 :: x2 :: x3 :: x4 :: x5 :: x6 :: x7 :: x8 :: some (.int x) :: ls) st μ Q) : Ev E M kc ks pc (x0 :: x1 :: x2 :: x3 :: x4 :: x5 :: x6 :: x7 :: x8 :: y :: ls) (.int x :: st) μ Q := e_istore n hp hd hi (Or.inr (fun x h => by cases h; exact hb)) rfl k
theorem e_al9 {x0 x1 x2 x3 x4 x5 x6 x7 x8 : Option Value} {ls : List (Option Value)} {x : Nat} (n : Nat) (hp : pc + 2 = n) (hd : decode M.2.1 pc = .ok (.aload 9, 2)) (k : Ev E M kc ks n (x0 :: x1 :: x2 :: x3 :: x4 :: x5 :: x6 :: x7 :: x8 :: some (.ref x) :: ls) (.ref x :: st) μ Q) : Ev E M kc ks pc (x0 :: x1 :: x2 :: x3 :: x4 :: x5 :: x6 :: x7 :: x8 :: some (.ref x) :: ls) st μ Q := e_aload n hp hd rfl k
theorem e_as9 {x0 x1 x2 x3 x4 x5 x6 x7 x8 : Option Value} {y : Option Value} {ls : List (Option Value)} {x : Nat} (n : Nat) (hp : pc + 2 = n) (hd : decode M.2.1 pc = .ok (.astore 9, 2)) (hi : 9 < M.2.2.1) (hb : nl x8 = true) (k : Ev E M kc ks n (x0 :: x1 :: x2 :: x3 :: x4 :: x5 :: x6 :: x7 :: x8 :: some (.ref x) :: ls) st μ Q) : Ev E M kc ks pc (x0 :: x1 :: x2 :: x3 :: x4 :: x5 :: x6 :: x7 :: x8 :: y :: ls) (.ref x :: st) μ Q := e_astore n hp hd hi (Or.inr (fun x h => by cases h; exact hb)) rfl k
theorem e_ll9 {x0 x1 x2 x3 x4 x5 x6 x7 x8 : Option Value} {ls : List (Option Value)} {x : Int64} (n : Nat) (hp : pc + 2 = n) (hd : decode M.2.1 pc = .ok (.lload 9, 2)) (k : Ev E M kc ks n (x0 :: x1 :: x2 :: x3 :: x4 :: x5 :: x6 :: x7 :: x8 :: some (.long x) :: ls) (.long x :: st) μ Q) : Ev E M kc ks pc (x0 :: x1 :: x2 :: x3 :: x4 :: x5 :: x6 :: x7 :: x8 :: some (.long x) :: ls) st μ Q := e_lload n hp hd rfl k
theorem e_ii9 {x0 x1 x2 x3 x4 x5 x6 x7 x8 : Option Value} {ls : List (Option Value)} {z : Int} {x : Int32} (v : Int32) (n : Nat) (hp : pc + 3 = n) (hd : decode M.2.1 pc = .ok (.iinc 9 z, 3)) (hv : x + Int32.ofInt z = v) (hb : nl x8 = true) (k : Ev E M kc ks n (x0 :: x1 :: x2 :: x3 :: x4 :: x5 :: x6 :: x7 :: x8 :: some (.int v) :: ls) st μ Q) : Ev E M kc ks pc (x0 :: x1 :: x2 :: x3 :: x4 :: x5 :: x6 :: x7 :: x8 :: some (.int x) :: ls) st μ Q := e_iinc v n hp hd rfl hv (Or.inr (fun x h => by cases h; exact hb)) rfl k
theorem e_ls9 {x0 x1 x2 x3 x4 x5 x6 x7 x8 : Option Value} {y z : Option Value} {ls : List (Option Value)} {x : Int64} (n : Nat) (hp : pc + 2 = n) (hd : decode M.2.1 pc = .ok (.lstore 9, 2)) (hi : 9 + 1 < M.2.2.1) (hb : nl x8 = true) (k : Ev E M kc ks n (x0 :: x1 :: x2 :: x3 :: x4 :: x5 :: x6 :: x7 :: x8 :: some (.long x) :: none :: ls) st μ Q) : Ev E M kc ks pc (x0 :: x1 :: x2 :: x3 :: x4 :: x5 :: x6 :: x7 :: x8 :: y :: z :: ls) (.long x :: st) μ Q := e_lstore n hp hd hi (Or.inr (fun x h => by cases h; exact hb)) rfl k
end ROWS
end
section
/-! rows of the judgement that read and write cells -/
section CELLS
def CI (ci : Nat) (C : String) (T : u_T) (N : Nat) (ty : Nat → FieldType) : Prop := vwCl[ci]? = some (C, T, N) ∧ (∀ w ∈ u_ws C T N, w ∈ wtab) ∧ (∀ k, k < N → parseFieldDescriptor (T k).2.2.1 = some (ty k)) ∧ (∀ a, a < N → ∀ b, b < N → a ≠ b → (T a).2.1 ≠ (T b).2.1) ∧ (fty ci).length = N ∧ ci < 11
/-- entry idx of the pool of class own is field k (of type t, a reference or not, final or not) of class ci -/
def GF (own : String) (idx ci k : Nat) (t : FieldType) (r fin : Bool) : Prop := ∃ (C : String) (T : u_T) (N : Nat) (ty : Nat → FieldType), CI ci C T N ty ∧ k < N ∧ Cond.fieldLink own idx (T k).1 (T k).2.1 (T k).2.2.1 ∈ wtab ∧ (fty ci)[k]? = some r ∧ ty k = t ∧ (T k).2.2.2 = fin ∧ (T k).1 = C
variable {E : En} {M : Mt} {kc ks pc : Nat} {ls : List (Option Value)} {st : List Value} {μ : Mm} {Q : Option Value → Mm → Prop}
theorem e_getI {idx ci k a : Nat} {t : FieldType} {fin : Bool} (n : Nat) (hp : pc + 3 = n) (hd : decode M.2.1 pc = .ok (.getfield idx, 3)) (hG : GF M.1.cls idx ci k t false fin) (hk : mK μ a = ci + 1) (kk : Ev E M kc ks n ls (.int (mF μ a k) :: st) μ Q) : Ev E M kc ks pc ls (.ref a :: st) μ Q := by
  subst hp
  obtain ⟨C', T, N, ty, ⟨h1, h2, h3, h4, h5, h6⟩, hkN, hl, hr, -⟩ := hG
  refine Ev.step (fun p e s m args below meth c H locs cells slots lsA Z C R hL k2 => ?_) kk
  exact va_get (D := xD E) (ci := ci) C.1 C.2.1 C.2.2.2.2.1 h2 C.2.2.2.1 C.2.2.2.2.2.1.1 (R.at (cell_obj hk h6)) 0 rfl h1 k hkN (C.2.2.2.2.1 _ hl) (fun _ h9 => h9) (by rw [flds_get, hr, Nat.zero_add]; rfl) hd (k2 lsA hL)
theorem e_getR {idx ci k a b : Nat} {t : FieldType} {fin : Bool} (n : Nat) (hp : pc + 3 = n) (hd : decode M.2.1 pc = .ok (.getfield idx, 3)) (hG : GF M.1.cls idx ci k t true fin) (hk : mK μ a = ci + 1) (hv : mP μ a k = some b) (kk : Ev E M kc ks n ls (.ref b :: st) μ Q) : Ev E M kc ks pc ls (.ref a :: st) μ Q := by
  subst hp
  obtain ⟨C', T, N, ty, ⟨h1, h2, h3, h4, h5, h6⟩, hkN, hl, hr, -⟩ := hG
  refine Ev.step (fun p e s m args below meth c H locs cells slots lsA Z C R hL k2 => ?_) kk
  exact va_get (D := xD E) (ci := ci) C.1 C.2.1 C.2.2.2.2.1 h2 C.2.2.2.1 C.2.2.2.2.2.1.1 (R.at (cell_obj hk h6)) 0 rfl h1 k hkN (C.2.2.2.2.1 _ hl) (fun _ h9 => h9) (by rw [flds_get, hr, Nat.zero_add]; simp [hv, va_rf]) hd (k2 lsA hL)
theorem w_put {p : Program} {e : Env} {s : State} {m : MethodId} {args : Array Value} {below : List Frame} {meth : Method} {c : Code} {H : Heap} {locs : List Loc} {cells slots : Nat} {lsA : Array Slot} {Z : State → Prop} {idx ci k a : Nat} {t : FieldType} {r fin : Bool} {v : Value} (C : Cx E M p s m args meth c) (R : Rl E μ H) (hd : decode M.2.1 pc = .ok (.putfield idx, 3)) (hG : GF M.1.cls idx ci k t r fin) (hk : mK μ a = ci + 1) (hn : narrow t v = v) (hfit : fits t v = true) (hfin : fin = true → M.1.name = "<init>" ∧ (vwCl[ci]?).map (fun q => q.1) = some M.1.cls)
    (kk : ∀ (H' : Heap) (i : Nat), H'.size = H.size → (∀ q, q ≠ a → H'[q]? = H[q]?) → va_at (xD E) vwCl (a, .inr (ci, (flds μ a 0 (fty ci)).set k v)) H' → W p (xl E) e M.2.2.2.2 s m args below meth c H' (locs ++ [⟨a, i⟩]) cells slots Z (F0 m (pc + 3) lsA st)) : W p (xl E) e M.2.2.2.2 s m args below meth c H locs cells slots Z (F0 m pc lsA (v :: .ref a :: st)) := by
  obtain ⟨C', T, N, ty, ⟨hc, hin, hty, hnm, h5, h6⟩, hkN, hl, hr, ht, hf, hcl⟩ := hG
  obtain ⟨hx, hb, hml, hown, hts, hS, hmn⟩ := C
  have hK := hS.1
  have hlink := hts _ hl
  have hdd := hty k hkN
  rw [ht] at hdd
  have hap := va_apart (own := M.1.cls) hts hin ty hty hnm hK hc
  obtain ⟨r', h1, cell, q1, q2, q3, q4⟩ := R.at (cell_obj hk h6) 0 _ rfl
  have hr' : r' = (C', T, N) := Option.some.inj (h1.symm.trans hc)
  subst hr'
  obtain ⟨hSl, hfc, kC, hkC, hkind⟩ := hK.1 ci _ hc
  obtain ⟨cf, kf, fi, f, hi, hsl⟩ := hSl k hkN
  have hlay := hts _ (hin _ (u_in_lay hkN))
  have hst := (u_facts hfc hkC (u_lays hts hin hkN) hi).1
  have hlen : k < (flds μ a 0 (fty ci)).length := by rw [flds_len, h5]; exact hkN
  have hend : ∀ H' : Heap, H'[a]? = some (cell.setSlot f.slot v) → va_at (xD E) vwCl (a, .inr (ci, (flds μ a 0 (fty ci)).set k v)) H' := by
    intro H' e1
    rw [hsl] at e1
    exact ⟨_, hc, t_OB.to (V := updV (vp_V (flds μ a 0 (fty ci))) k v) ⟨_, e1, q2, q3, t_set q4 hap hkN v⟩ (fun j _ => vp_updV_set hlen v j)⟩
  unfold u_lay at hlay
  cases fin with
  | false =>
    rw [if_neg (by rw [hf]; decide)] at hlay
    have h6 := u_store hfc hkC hkind hlay hi hdd hn hfit
    exact W.putK hx hb (f := f) ⟨hown, hlink, ⟨_, _, _, hi⟩, hst⟩ (by rw [q2]; exact h6) q1 q3 (by rw [hsl]; exact k2_hasslot (q4 k hkN)) rfl rfl hd fun H' e1 e2 e3 => kk H' _ e2 e3 (hend H' e1)
  | true =>
    rw [if_pos hf] at hlay
    obtain ⟨f1, f2⟩ := hfin rfl
    rw [hc] at f2
    have hdecl : C' = M.1.cls := Option.some.inj f2
    have hcf : m.cls = cf := by
      obtain ⟨_, _, c', _, _, _, -, -, hf', -, -, -, hown2, -⟩ := Cond.laysFinal_spec hlay
      have e1 : c' = cf := by have := hi.symm.trans hf'; simp at this; exact this.1.symm
      rw [hcl, hdecl] at hown2
      rw [← e1]; exact Option.some.inj (hown.symm.trans hown2)
    have h6 := u_fits hfc hkC hkind (Or.inr hlay) hi hdd hn hfit
    exact W.putFinK hx hb hown hlink hi hst hcf (hmn.trans f1) (by rw [q2]; exact h6) q1 q3 (by rw [hsl]; exact k2_hasslot (q4 k hkN)) rfl rfl hd fun H' e1 e2 e3 => kk H' _ e2 e3 (hend H' e1)
theorem Rl.lo {E : En} {μ : Mm} {H : Heap} {a : Nat} {e : va_E} (h : Rl E μ H) (he : cellOf E μ a = some e) : xo E ≤ a := (h.2.2.2.2 a e he).1
/-- a write off a leaves the other cells -/
theorem cell_sF {a b k : Nat} {v : Int32} (h : b ≠ a) : cellOf E (sF μ a k v) b = cellOf E μ b := cell_congr rfl rfl (up2_a h) rfl rfl rfl rfl rfl
theorem cell_sB {a b k : Nat} {v : Int32} (h : b ≠ a) : cellOf E (sB μ a k v) b = cellOf E μ b := cell_congr rfl rfl rfl (up2_a h) rfl rfl rfl rfl
theorem cell_sA {a b k : Nat} {v : Int32} (h : b ≠ a) : cellOf E (sA μ a k v) b = cellOf E μ b := cell_congr rfl rfl rfl rfl (up2_a h) rfl rfl rfl
theorem cell_sJ {a b k : Nat} {v : Int64} (h : b ≠ a) : cellOf E (sJ μ a k v) b = cellOf E μ b := cell_congr rfl rfl rfl rfl rfl (up2_a h) rfl rfl
theorem cell_sP {a b k : Nat} {v : Option Nat} (h : b ≠ a) : cellOf E (sP μ a k v) b = cellOf E μ b := cell_congr rfl rfl rfl rfl rfl rfl (up2_a h) rfl
theorem cell_sO {a b k : Nat} {v : Option Nat} (h : b ≠ a) : cellOf E (sO μ a k v) b = cellOf E μ b := cell_congr rfl rfl rfl rfl rfl rfl rfl (up2_a h)
theorem e_putX {idx ci k a : Nat} {t : FieldType} {fin : Bool} {v : Int32} (n : Nat) (hp : pc + 3 = n) (hd : decode M.2.1 pc = .ok (.putfield idx, 3)) (hG : GF M.1.cls idx ci k t false fin) (hk : mK μ a = ci + 1) (hn : narrow t (.int v) = .int v) (hfit : fits t (.int v) = true) (hfin : fin = true → M.1.name = "<init>" ∧ (vwCl[ci]?).map (fun q => q.1) = some M.1.cls) (kk : Ev E M kc ks n ls st (sF μ a k v) Q) : Ev E M kc ks pc ls (.int v :: .ref a :: st) μ Q := by
  subst hp
  have hci : ci < 11 := by obtain ⟨_, _, _, _, ⟨-, -, -, -, -, h6⟩, -⟩ := hG; exact h6
  have hr : (fty ci)[k]? = some false := by obtain ⟨_, _, _, _, -, -, -, h, -⟩ := hG; exact h
  refine Ev.store (a := a) (μ' := sF μ a k v) (fun p e s m args below meth c H locs cells slots lsA Z C R k2 => ?_) (fun H R => R.lo (cell_obj hk hci)) kk
  refine w_put C R hd hG hk hn hfit hfin (fun H' i e2 e3 hat => k2 H' i ?_)
  refine R.put e2 e3 rfl rfl (fun b hb => cell_sF hb) (cell_obj (c := ci) hk hci) (R.lo (cell_obj hk hci)) ?_
  rw [flds_setF μ a k v _ hr]
  exact hat
theorem e_putI {idx ci k a : Nat} {v : Int32} (n : Nat) (hp : pc + 3 = n) (hd : decode M.2.1 pc = .ok (.putfield idx, 3)) (hG : GF M.1.cls idx ci k .int false false) (hk : mK μ a = ci + 1) (kk : Ev E M kc ks n ls st (sF μ a k v) Q) : Ev E M kc ks pc ls (.int v :: .ref a :: st) μ Q := e_putX n hp hd hG hk rfl rfl (fun h => by cases h) kk
theorem nar_bool {v : Int32} (h : v = 0 ∨ v = 1) : narrow .boolean (.int v) = .int v ∧ fits .boolean (.int v) = true := by rcases h with rfl | rfl <;> exact ⟨by decide, by decide⟩
theorem e_putZ {idx ci k a : Nat} {v : Int32} (n : Nat) (hp : pc + 3 = n) (hd : decode M.2.1 pc = .ok (.putfield idx, 3)) (hG : GF M.1.cls idx ci k .boolean false false) (hk : mK μ a = ci + 1) (hv : v = 0 ∨ v = 1) (kk : Ev E M kc ks n ls st (sF μ a k v) Q) : Ev E M kc ks pc ls (.int v :: .ref a :: st) μ Q := e_putX n hp hd hG hk (nar_bool hv).1 (nar_bool hv).2 (fun h => by cases h) kk
theorem e_putR {idx ci k a b : Nat} {t : FieldType} {fin : Bool} (n : Nat) (hp : pc + 3 = n) (hd : decode M.2.1 pc = .ok (.putfield idx, 3)) (hG : GF M.1.cls idx ci k t true fin) (hk : mK μ a = ci + 1) (hn : narrow t (.ref b) = .ref b) (hfit : fits t (.ref b) = true) (hfin : fin = true → M.1.name = "<init>" ∧ (vwCl[ci]?).map (fun q => q.1) = some M.1.cls) (kk : Ev E M kc ks n ls st (sP μ a k (some b)) Q) : Ev E M kc ks pc ls (.ref b :: .ref a :: st) μ Q := by
  subst hp
  have hci : ci < 11 := by obtain ⟨_, _, _, _, ⟨-, -, -, -, -, h6⟩, -⟩ := hG; exact h6
  have hr : (fty ci)[k]? = some true := by obtain ⟨_, _, _, _, -, -, -, h, -⟩ := hG; exact h
  refine Ev.store (a := a) (μ' := sP μ a k (some b)) (fun p e s m args below meth c H locs cells slots lsA Z C R k2 => ?_) (fun H R => R.lo (cell_obj hk hci)) kk
  refine w_put C R hd hG hk hn hfit hfin (fun H' i e2 e3 hat => k2 H' i ?_)
  refine R.put e2 e3 rfl rfl (fun b hb => cell_sP hb) (cell_obj (c := ci) hk hci) (R.lo (cell_obj hk hci)) ?_
  rw [flds_setP μ a k (some b) _ hr]
  exact hat
/-! arrays -/
theorem e_alen {a j : Nat} (n : Nat) (hp : pc + 1 = n) (hd : decode M.2.1 pc = .ok (.arraylength, 1)) (hk : mK μ a = 12 ∨ mK μ a = 13 ∨ mK μ a = 14) (hv : mL μ a = j) (kk : Ev E M kc ks n ls (.int (nI j) :: st) μ Q) : Ev E M kc ks pc ls (.ref a :: st) μ Q := by
  subst hp; subst hv
  refine Ev.step (fun p e s m args below meth c H locs cells slots lsA Z C R hL k2 => ?_) kk
  have hK := C.2.2.2.2.2.1.1
  rcases hk with hk | hk | hk
  · exact va_alen C.1 C.2.1 hK (R.at (cell_B hk)) 0 0 rfl (ty := .byte) rfl rfl hd (k2 lsA hL)
  · exact va_alen C.1 C.2.1 hK (R.at (cell_A hk)) 0 1 rfl (ty := .int) rfl rfl hd (k2 lsA hL)
  · exact va_alen C.1 C.2.1 hK (R.at (cell_J hk)) 0 2 rfl (ty := .long) rfl rfl hd (k2 lsA hL)
theorem e_iald {a j len : Nat} {i : Int32} (n : Nat) (hp : pc + 1 = n) (hd : decode M.2.1 pc = .ok (.iaload, 1)) (hk : mK μ a = 13) (hL : mL μ a = len) (hi : i = nI j) (hj : j < len) (hs : len < 2 ^ 31) (kk : Ev E M kc ks n ls (.int (mA μ a j) :: st) μ Q) : Ev E M kc ks pc ls (.int i :: .ref a :: st) μ Q := by
  subst hp; subst hi; subst hL
  refine Ev.step (fun p e s m args below meth c H locs cells slots lsA Z C R hL k2 => ?_) kk
  have k3 := k2 lsA hL
  refine va_iald C.1 C.2.1 C.2.2.2.2.2.1.1 (R.at (cell_A hk)) 0 1 rfl rfl (vp_in_nI hj hs) hd ?_
  rw [nI_clamp (by omega)]
  exact k3
theorem e_bald {a j len : Nat} {i : Int32} (n : Nat) (hp : pc + 1 = n) (hd : decode M.2.1 pc = .ok (.baload, 1)) (hk : mK μ a = 12) (hL : mL μ a = len) (hi : i = nI j) (hj : j < len) (hs : len < 2 ^ 31) (kk : Ev E M kc ks n ls (.int (mB μ a j) :: st) μ Q) : Ev E M kc ks pc ls (.int i :: .ref a :: st) μ Q := by
  subst hp; subst hi; subst hL
  refine Ev.step (fun p e s m args below meth c H locs cells slots lsA Z C R hL k2 => ?_) kk
  have k3 := k2 lsA hL
  refine va_bald C.1 C.2.1 C.2.2.2.2.2.1.1 (R.at (cell_B hk)) 0 0 rfl rfl (vp_in_nI hj hs) hd ?_
  rw [nI_clamp (by omega)]
  exact k3
theorem e_zald {a j len : Nat} {i : Int32} (n : Nat) (hp : pc + 1 = n) (hd : decode M.2.1 pc = .ok (.baload, 1)) (hk : mK μ a = 15) (hL : mL μ a = len) (hi : i = nI j) (hj : j < len) (hs : len < 2 ^ 31) (kk : Ev E M kc ks n ls (.int (mB μ a j) :: st) μ Q) : Ev E M kc ks pc ls (.int i :: .ref a :: st) μ Q := by
  subst hp; subst hi; subst hL
  refine Ev.step (fun p e s m args below meth c H locs cells slots lsA Z C R hL k2 => ?_) kk
  have k3 := k2 lsA hL
  refine va_zald C.1 C.2.1 C.2.2.2.2.2.1.1 (R.at (cell_Z hk)) 0 3 rfl rfl (vp_in_nI hj hs) hd ?_
  rw [nI_clamp (by omega)]
  exact k3
theorem e_lald {a j len : Nat} {i : Int32} (n : Nat) (hp : pc + 1 = n) (hd : decode M.2.1 pc = .ok (.laload, 1)) (hk : mK μ a = 14) (hL : mL μ a = len) (hi : i = nI j) (hj : j < len) (hs : len < 2 ^ 31) (kk : Ev E M kc ks n ls (.long (mJ μ a j) :: st) μ Q) : Ev E M kc ks pc ls (.int i :: .ref a :: st) μ Q := by
  subst hp; subst hi; subst hL
  refine Ev.step (fun p e s m args below meth c H locs cells slots lsA Z C R hL k2 => ?_) kk
  have k3 := k2 lsA hL
  refine va_lald C.1 C.2.1 C.2.2.2.2.2.1.1 (R.at (cell_J hk)) 0 2 rfl rfl (vp_in_nI hj hs) hd ?_
  rw [nI_clamp (by omega)]
  exact k3
end CELLS
end
section
/-! rows of the judgement: stores into arrays, references out of arrays, new cells -/
section STORES
variable {E : En} {M : Mt} {kc ks pc : Nat} {ls : List (Option Value)} {st : List Value} {μ : Mm} {Q : Option Value → Mm → Prop}
theorem e_iast {a j len : Nat} {i x : Int32} (n : Nat) (hp : pc + 1 = n) (hd : decode M.2.1 pc = .ok (.iastore, 1)) (hk : mK μ a = 13) (hL : mL μ a = len) (hi : i = nI j) (hj : j < len) (hs : len < 2 ^ 31) (kk : Ev E M kc ks n ls st (sA μ a j x) Q) : Ev E M kc ks pc ls (.int x :: .int i :: .ref a :: st) μ Q := by
  subst hp; subst hi; subst hL
  refine Ev.store (a := a) (μ' := sA μ a j x) (fun p e s m args below meth c H locs cells slots lsA Z C R k2 => ?_) (fun H R => R.lo (cell_A hk)) kk
  have hin := vp_in_nI hj hs
  refine W.iast C.1 C.2.1 (R.at (cell_A hk) 0 _ rfl) ((C.2.2.2.2.2.1.1.2 1 _ rfl).1 (mL μ a) (fun j => .int (mA μ a j))) (fun q => by cases q) (by show ¬ (nI j < 0 ∨ (arrV _ _ _).slots.size ≤ _); rw [arrV_size]; exact hin) rfl rfl hd fun H1 e z oq => k2 H1 _ ?_
  refine R.put z oq rfl rfl (fun b hb => cell_sA hb) (cell_A (show mK (sA μ a j x) a = 13 from hk)) (R.lo (cell_A hk)) ?_
  show H1[a]? = some (vp_cell _ _)
  rw [e, nI_clamp (by omega)]
  rw [vp_cell_i, vp_cell_i, arrV_store]
  congr 2
  funext q
  show updV _ _ _ _ = Value.int (up2 (mA μ) a j x a q)
  by_cases hq : q = j
  · simp [updV, up2, hq]
  · simp [updV, up2, hq]
theorem e_bast {a j len : Nat} {i x : Int32} (n : Nat) (hp : pc + 1 = n) (hd : decode M.2.1 pc = .ok (.bastore, 1)) (hk : mK μ a = 12) (hL : mL μ a = len) (hi : i = nI j) (hj : j < len) (hs : len < 2 ^ 31) (kk : Ev E M kc ks n ls st (sB μ a j x.toInt8.toInt32) Q) : Ev E M kc ks pc ls (.int x :: .int i :: .ref a :: st) μ Q := by
  subst hp; subst hi; subst hL
  refine Ev.store (a := a) (μ' := sB μ a j x.toInt8.toInt32) (fun p e s m args below meth c H locs cells slots lsA Z C R k2 => ?_) (fun H R => R.lo (cell_B hk)) kk
  have hin := vp_in_nI hj hs
  refine W.bast C.1 C.2.1 (R.at (cell_B hk) 0 _ rfl) ((C.2.2.2.2.2.1.1.2 0 _ rfl).1 (mL μ a) (fun j => .int (mB μ a j))) (fun q => by cases q) (by show ¬ (nI j < 0 ∨ (arrV _ _ _).slots.size ≤ _); rw [arrV_size]; exact hin) rfl rfl hd fun H1 e z oq => k2 H1 _ ?_
  refine R.put z oq rfl rfl (fun b hb => cell_sB hb) (cell_B (show mK (sB μ a j x.toInt8.toInt32) a = 12 from hk)) (R.lo (cell_B hk)) ?_
  show H1[a]? = some (vp_cell _ _)
  rw [e, nI_clamp (by omega)]
  rw [vp_cell_i, vp_cell_i, arrV_store]
  congr 2
  funext q
  show updV _ _ _ _ = Value.int (up2 (mB μ) a j x.toInt8.toInt32 a q)
  by_cases hq : q = j
  · simp [updV, up2, hq]
    try rfl
  · simp [updV, up2, hq]
theorem e_zast {a j len : Nat} {i x : Int32} (n : Nat) (hp : pc + 1 = n) (hd : decode M.2.1 pc = .ok (.bastore, 1)) (hk : mK μ a = 15) (hL : mL μ a = len) (hi : i = nI j) (hj : j < len) (hs : len < 2 ^ 31) (hx : x = 0 ∨ x = 1) (kk : Ev E M kc ks n ls st (sB μ a j x) Q) : Ev E M kc ks pc ls (.int x :: .int i :: .ref a :: st) μ Q := by
  subst hp; subst hi; subst hL
  refine Ev.store (a := a) (μ' := sB μ a j x) (fun p e s m args below meth c H locs cells slots lsA Z C R k2 => ?_) (fun H R => R.lo (cell_Z hk)) kk
  have hin := vp_in_nI hj hs
  refine W.zast C.1 C.2.1 (R.at (cell_Z hk) 0 _ rfl) ((C.2.2.2.2.2.1.1.2 3 _ rfl).1 (mL μ a) (fun j => .int (mB μ a j))) (fun q => by cases q) (by show ¬ (nI j < 0 ∨ (arrV _ _ _).slots.size ≤ _); rw [arrV_size]; exact hin) rfl rfl hd fun H1 e z oq => k2 H1 _ ?_
  refine R.put z oq rfl rfl (fun b hb => cell_sB hb) (cell_Z (show mK (sB μ a j x) a = 15 from hk)) (R.lo (cell_Z hk)) ?_
  show H1[a]? = some (vp_cell _ _)
  rw [e, nI_clamp (by omega)]
  rw [vp_cell_i, vp_cell_i, arrV_store]
  congr 2
  funext q
  show updV _ _ _ _ = Value.int (up2 (mB μ) a j x a q)
  by_cases hq : q = j
  · rcases hx with rfl | rfl
    · simp [updV, up2, hq]
      try rfl
    · simp [updV, up2, hq]
      try rfl
  · simp [updV, up2, hq]
theorem e_last {a j len : Nat} {i : Int32} {x : Int64} (n : Nat) (hp : pc + 1 = n) (hd : decode M.2.1 pc = .ok (.lastore, 1)) (hk : mK μ a = 14) (hL : mL μ a = len) (hi : i = nI j) (hj : j < len) (hs : len < 2 ^ 31) (kk : Ev E M kc ks n ls st (sJ μ a j x) Q) : Ev E M kc ks pc ls (.long x :: .int i :: .ref a :: st) μ Q := by
  subst hp; subst hi; subst hL
  refine Ev.store (a := a) (μ' := sJ μ a j x) (fun p e s m args below meth c H locs cells slots lsA Z C R k2 => ?_) (fun H R => R.lo (cell_J hk)) kk
  have hin := vp_in_nI hj hs
  refine W.last C.1 C.2.1 (R.at (cell_J hk) 0 _ rfl) ((C.2.2.2.2.2.1.1.2 2 _ rfl).1 (mL μ a) (fun j => .long (mJ μ a j))) (fun q => by cases q) (by show ¬ (nI j < 0 ∨ (arrV _ _ _).slots.size ≤ _); rw [arrV_size]; exact hin) rfl rfl hd fun H1 e z oq => k2 H1 _ ?_
  refine R.put z oq rfl rfl (fun b hb => cell_sJ hb) (cell_J (show mK (sJ μ a j x) a = 14 from hk)) (R.lo (cell_J hk)) ?_
  show H1[a]? = some (vp_cell _ _)
  rw [e, nI_clamp (by omega)]
  rw [vp_cell_l, vp_cell_l, arrV_store]
  congr 2
  funext q
  show updV _ _ _ _ = Value.long (up2 (mJ μ) a j x a q)
  by_cases hq : q = j
  · simp [updV, up2, hq]
  · simp [updV, up2, hq]
/-- a reference out of an array; k: 0 Name, 1 Shape, 2 Word, 3 int[] -/
theorem e_aald {a b j len k : Nat} {i : Int32} (n : Nat) (hp : pc + 1 = n) (hd : decode M.2.1 pc = .ok (.aaload, 1)) (hk : mK μ a = k + 16) (hk4 : k < 4) (hL : mL μ a = len) (hi : i = nI j) (hj : j < len) (hs : len < 2 ^ 31) (hv : mO μ a j = some b) (kk : Ev E M kc ks n ls (.ref b :: st) μ Q) : Ev E M kc ks pc ls (.int i :: .ref a :: st) μ Q := by
  subst hp; subst hi; subst hL
  refine Ev.step (fun p e s m args below meth c H locs cells slots lsA Z C R hL k2 => ?_) kk
  have k3 := k2 lsA hL
  have hin := vp_in_nI hj hs
  have hK := C.2.2.2.2.2.1.1
  have key : ∀ (t : FieldType), (xT E)[k + 4]? = some (xC E (k + 4), t) → t.isReference = true → W p (xl E) e M.2.2.2.2 s m args below meth c H locs cells slots Z (F0 m pc lsA (.int (nI j) :: .ref a :: st)) := by
    intro t ht hr
    refine W.aald (v := .ref b) (ty := t) C.1 C.2.1 (R.at (cell_O hk hk4) 0 _ rfl) ((hK.2 (k + 4) _ ht).1 (mL μ a) (fun j => va_rf (mO μ a j))) hr (fun q => by cases q) (by show ¬ (nI j < 0 ∨ (arrV _ _ _).slots.size ≤ _); rw [arrV_size]; exact hin) (by show (arrV _ _ _).slots[_]? = _; rw [nI_clamp (by omega), arrV_read _ _ hj, hv]; rfl) rfl rfl hd k3
  match k, hk4, key with
  | 0, _, key => exact key _ rfl rfl
  | 1, _, key => exact key _ rfl rfl
  | 2, _, key => exact key _ rfl rfl
  | 3, _, key => exact key _ rfl rfl
/-- a reference into an array; k: 0 Name, 1 Shape, 2 Word -/
theorem e_aast {a b j len k ci : Nat} {i : Int32} (n : Nat) (hp : pc + 1 = n) (hd : decode M.2.1 pc = .ok (.aastore, 1)) (hk : mK μ a = k + 16) (hk3 : (k = 0 ∧ ci = 2) ∨ (k = 1 ∧ ci = 4) ∨ (k = 2 ∧ ci = 8)) (hL : mL μ a = len) (hi : i = nI j) (hj : j < len) (hs : len < 2 ^ 31) (hb : mK μ b = ci + 1) (kk : Ev E M kc ks n ls st (sO μ a j (some b)) Q) : Ev E M kc ks pc ls (.ref b :: .int i :: .ref a :: st) μ Q := by
  subst hp; subst hi; subst hL
  have hk4 : k < 4 := by omega
  have hci : ci < 11 := by omega
  refine Ev.store (a := a) (μ' := sO μ a j (some b)) (fun p e s m args below meth c H locs cells slots lsA Z C R k2 => ?_) (fun H R => R.lo (cell_O hk hk4)) kk
  have hin := vp_in_nI hj hs
  have hK := C.2.2.2.2.2.1.1
  have key : ∀ (r : vw_C), (xT E)[k + 4]? = some (xC E (k + 4), .object r.1) → vwCl[ci]? = some r → W p (xl E) e M.2.2.2.2 s m args below meth c H locs cells slots Z (F0 m pc lsA (.ref b :: .int (nI j) :: .ref a :: st)) := by
    intro r ht hc
    obtain ⟨r', hr', cellV, g1, g2, g3, -⟩ := R.at (cell_obj hb hci) 0 _ rfl
    have hcls := (hK.1 ci r hc).2
    obtain ⟨kA, comp, k1, k2', k3, -⟩ := (hK.2 (k + 4) _ ht).2
    have hcomp : comp = (xD E).1 ci := Option.some.inj (k3.symm.trans hcls.1)
    subst hcomp
    obtain ⟨kC, hkC, -⟩ := hcls.2
    refine W.aast C.1 C.2.1 (R.at (cell_O hk hk4) 0 _ rfl) (fun q h => by cases h) (fun h => by cases h) k1 k2' rfl hkC ⟨fun q => hin (Or.inl q), by show _ < (arrV _ _ _).slots.size; rw [arrV_size, nI_clamp (by omega)]; exact hj⟩ g1 (fun q h => by rw [g3] at h; cases h) (by rw [g2]; exact hkC) (by rw [g2]; exact va_assign hcls) rfl rfl hd fun H1 e z oq => k2 H1 _ ?_
    refine R.put z oq rfl rfl (fun b hb => cell_sO hb) (cell_O (show mK (sO μ a j (some b)) a = k + 16 from hk) hk4) (R.lo (cell_O hk hk4)) ?_
    show H1[a]? = some (vp_cell _ _)
    rw [e, nI_clamp (by omega)]
    rw [vp_cell_q, vp_cell_q, arrV_store]
    congr 2
    funext q
    show updV _ _ _ _ = va_rf (up2 (mO μ) a j (some b) a q)
    by_cases hq : q = j
    · simp [updV, up2, hq, va_rf]
    · simp [updV, up2, hq]
  rcases hk3 with ⟨rfl, rfl⟩ | ⟨rfl, rfl⟩ | ⟨rfl, rfl⟩
  · exact key (RX2, TX2, 10) rfl rfl
  · exact key (RX4, TX4, 13) rfl rfl
  · exact key (RX8, TX8, 4) rfl rfl
/-- new cells -/
theorem Ev.alloc {pc' dc ds : Nat} {st' : List Value} {μ' : Mm}
    (h : ∀ (p : Program) (e : Env) (s : State) (m : MethodId) (args : Array Value) (below : List Frame) (meth : Method) (c : Code) (H : Heap) (locs : List Loc) (cells slots : Nat) (lsA : Array Slot) (Z : State → Prop),
      Cx E M p s m args meth c → Rl E μ H → cells + dc ≤ M.2.2.2.2.cells → slots + ds ≤ M.2.2.2.2.slots → (∀ (H' : Heap), Rl E μ' H' → W p (xl E) e M.2.2.2.2 s m args below meth c H' locs (cells + dc) (slots + ds) Z (F0 m pc' lsA st')) → W p (xl E) e M.2.2.2.2 s m args below meth c H locs cells slots Z (F0 m pc lsA st))
    (k : Ev E M kc ks pc' ls st' μ' Q) : Ev E M (kc + dc) (ks + ds) pc ls st μ Q := by
  intro hX p e s m args below meth c H locs cells slots mc ms lsA Z C R hL hb hl hr
  exact h p e s m args below meth c H locs cells slots lsA Z C R (by omega) (by omega) (fun H' R' => k hX p e s m args below meth c H' locs _ _ mc ms lsA Z C R' hL ⟨by omega, by omega, hb.2.2⟩ hl hr)
/-- entry idx of the pool of class own is the class ci, which can be made, of N fields -/
def NC (own : String) (idx ci N : Nat) : Prop := ∃ (C : String) (T : u_T) (ty : Nat → FieldType), CI ci C T N ty ∧ Cond.classLink own idx C ∈ wtab ∧ Cond.instantiable C N ∈ wtab ∧ Cond.initialized C ∈ wtab ∧ ∀ k, k < N → ((fty ci)[k]? = some true ∧ defaultValue (ty k) = .null) ∨ ((fty ci)[k]? = some false ∧ defaultValue (ty k) = .int 0)
theorem e_new {idx ci N : Nat} (n : Nat) (hp : pc + 3 = n) (hd : decode M.2.1 pc = .ok (.new idx, 3)) (hN : NC M.1.cls idx ci N) (kk : Ev E M kc ks n ls (.ref (mN μ) :: st) (sN μ (ci + 1) 0) Q) : Ev E M (kc + 1) (ks + N) pc ls st μ Q := by
  subst hp
  obtain ⟨C', T, ty, ⟨hc, hin, hty, hnm, h5, h6⟩, h1, h2, h3, h4⟩ := hN
  refine Ev.alloc (fun p e s m args below meth c H locs cells slots lsA Z C R hcl hsl k2 => ?_) kk
  have hts := C.2.2.2.2.1
  have hKn := C.2.2.2.2.2.1.1.1 ci _ hc
  refine W.newcK C.1 C.2.1 C.2.2.2.1 (hts _ h1) (hts _ h2) (hts _ h3) rfl hd hcl hsl hKn.2.1 R.1.symm fun H1 kC hkC e1 z1 o1 => k2 H1 ?_
  refine R.new (by rw [z1, R.1]) (fun q hq => o1 q (by rw [R.1]; exact hq)) (cell_obj (c := ci) up1_s h6) ?_
  refine ⟨_, hc, (u_born ty hts hin hKn hkC e1 hty).to (fun k hk => ?_)⟩
  show _ = (flds (sN μ (ci + 1) 0) (mN μ) 0 (fty ci)).getD k .null
  rw [List.getD_eq_getElem?_getD, flds_get]
  rcases h4 k hk with ⟨q1, q2⟩ | ⟨q1, q2⟩
  · rw [q1, q2]; simp [sN, mP, up1, va_rf]
  · rw [q1, q2]; simp [sN, mF, up1]
/-- a new array of numbers: kinds 12 byte, 13 int, 14 long, 15 boolean -/
theorem e_newa {at0 : ArrayType} {len k : Nat} {i : Int32} (n : Nat) (hp : pc + 2 = n) (hd : decode M.2.1 pc = .ok (.newarray at0, 2)) (hk : (k = 0 ∧ newarray.typeOf at0 = .byte) ∨ (k = 1 ∧ newarray.typeOf at0 = .int) ∨ (k = 2 ∧ newarray.typeOf at0 = .long) ∨ (k = 3 ∧ newarray.typeOf at0 = .boolean)) (hw : Cond.arrayClass (newarray.typeOf at0) ∈ wtab) (hi : i = nI len) (hs : len < 100000) (kk : Ev E M kc ks n ls (.ref (mN μ) :: st) (sN μ (k + 12) len) Q) : Ev E M (kc + 1) (ks + len) pc ls (.int i :: st) μ Q := by
  subst hp; subst hi
  refine Ev.alloc (fun p e s m args below meth c H locs cells slots lsA Z C R hcl hsl k2 => ?_) kk
  have hts := C.2.2.2.2.1
  have hK := C.2.2.2.2.2.1.1
  have hbytes : len * componentBytes (newarray.typeOf at0) ≤ 536870912 := by
    have : componentBytes (newarray.typeOf at0) ≤ 8 := by rcases hk with ⟨-, h⟩ | ⟨-, h⟩ | ⟨-, h⟩ | ⟨-, h⟩ <;> rw [h] <;> decide
    calc len * componentBytes (newarray.typeOf at0) ≤ len * 8 := Nat.mul_le_mul_left _ this
      _ ≤ 536870912 := by omega
  refine va_newaK C.1 C.2.1 (hts _ hw) rfl hd rfl (nI_pos (by omega)) (nI_clamp (by omega)) hbytes hcl hsl R.1.symm fun H1 cA e1 z1 o1 hAr hNm => k2 H1 ?_
  have hK1 : mK (sN μ (k + 12) len) (mN μ) = k + 12 := up1_s
  have hL1 : mL (sN μ (k + 12) len) (mN μ) = len := up1_s
  rcases hk with ⟨rfl, h⟩ | ⟨rfl, h⟩ | ⟨rfl, h⟩ | ⟨rfl, h⟩
  · rw [h] at e1 hNm
    have ec : cA = xC E 0 := Option.some.inj (hNm.symm.trans (hK.2 0 _ rfl).2)
    subst ec
    refine R.new (by rw [z1, R.1]) (fun q hq => o1 q (by rw [R.1]; exact hq)) (cell_B hK1) ?_
    show H1[mN μ]? = some (vp_cell _ _)
    rw [e1, hL1, vp_cell_i]
    congr 2
    funext q
    show Value.int 0 = Value.int (up1 (mB μ) (mN μ) (fun _ => 0) (mN μ) q)
    rw [up1_s]
  · rw [h] at e1 hNm
    have ec : cA = xC E 1 := Option.some.inj (hNm.symm.trans (hK.2 1 _ rfl).2)
    subst ec
    refine R.new (by rw [z1, R.1]) (fun q hq => o1 q (by rw [R.1]; exact hq)) (cell_A hK1) ?_
    show H1[mN μ]? = some (vp_cell _ _)
    rw [e1, hL1, vp_cell_i]
    congr 2
    funext q
    show Value.int 0 = Value.int (up1 (mA μ) (mN μ) (fun _ => 0) (mN μ) q)
    rw [up1_s]
  · rw [h] at e1 hNm
    have ec : cA = xC E 2 := Option.some.inj (hNm.symm.trans (hK.2 2 _ rfl).2)
    subst ec
    refine R.new (by rw [z1, R.1]) (fun q hq => o1 q (by rw [R.1]; exact hq)) (cell_J hK1) ?_
    show H1[mN μ]? = some (vp_cell _ _)
    rw [e1, hL1, vp_cell_l]
    congr 2
    funext q
    show Value.long 0 = Value.long (up1 (mJ μ) (mN μ) (fun _ => 0) (mN μ) q)
    rw [up1_s]
  · rw [h] at e1 hNm
    have ec : cA = xC E 3 := Option.some.inj (hNm.symm.trans (hK.2 3 _ rfl).2)
    subst ec
    refine R.new (by rw [z1, R.1]) (fun q hq => o1 q (by rw [R.1]; exact hq)) (cell_Z hK1) ?_
    show H1[mN μ]? = some (vp_cell _ _)
    rw [e1, hL1, vp_cell_i]
    congr 2
    funext q
    show Value.int 0 = Value.int (up1 (mB μ) (mN μ) (fun _ => 0) (mN μ) q)
    rw [up1_s]
/-- a new array of references; k: 0 Name, 1 Shape, 2 Word -/
theorem e_newq {idx len k : Nat} {i : Int32} {C0 : String} (n : Nat) (hp : pc + 3 = n) (hd : decode M.2.1 pc = .ok (.anewarray idx, 3)) (hk : (k = 0 ∧ C0 = RX2) ∨ (k = 1 ∧ C0 = RX4) ∨ (k = 2 ∧ C0 = RX8)) (hw : Cond.classLink M.1.cls idx C0 ∈ wtab) (hi : i = nI len) (hs : len < 100000) (kk : Ev E M kc ks n ls (.ref (mN μ) :: st) (sN μ (k + 16) len) Q) : Ev E M (kc + 1) (ks + len) pc ls (.int i :: st) μ Q := by
  subst hp; subst hi
  refine Ev.alloc (fun p e s m args below meth c H locs cells slots lsA Z C R hcl hsl k2 => ?_) kk
  have hts := C.2.2.2.2.1
  have hK := C.2.2.2.2.2.1.1
  have hAO : va_AO C0 s := by
    obtain ⟨q1, q2, q3⟩ := C.2.2.2.2.2.1.2.2.1
    rcases hk with ⟨-, rfl⟩ | ⟨-, rfl⟩ | ⟨-, rfl⟩
    · exact q1
    · exact q2
    · exact q3
  have ecl : (nI len).toNatClampNeg = len := nI_clamp (by omega)
  refine W.anew C.1 C.2.1 C.2.2.2.1 (hts _ hw) (va_AO.use hAO) rfl hd rfl (nI_pos (by omega)) (by rw [ecl]; omega) hcl (by rw [ecl]; exact hsl) fun cA kA comp f1 f2 f3 f4 => ?_
  rw [ecl]
  have ec : cA = xC E (k + 4) := by
    rcases hk with ⟨rfl, rfl⟩ | ⟨rfl, rfl⟩ | ⟨rfl, rfl⟩
    · obtain ⟨_, _, -, -, -, h⟩ := (hK.2 4 _ rfl).2; exact Option.some.inj (f1.symm.trans h)
    · obtain ⟨_, _, -, -, -, h⟩ := (hK.2 5 _ rfl).2; exact Option.some.inj (f1.symm.trans h)
    · obtain ⟨_, _, -, -, -, h⟩ := (hK.2 6 _ rfl).2; exact Option.some.inj (f1.symm.trans h)
  have eN : H.size = mN μ := R.1.symm
  rw [eN]
  refine k2 _ ?_
  have hk4 : k < 4 := by omega
  refine R.new (by rw [Array.size_push]) (fun q hq => by rw [Array.getElem?_push, if_neg (Nat.ne_of_lt hq)]) (cell_O (k := k) up1_s hk4) ?_
  show (H.push _)[mN μ]? = some (vp_cell _ _)
  rw [← eN, Array.getElem?_push_size, arrV_new, vp_cell_q, ec, eN]
  show some (arrV _ _ _) = some (arrV _ (up1 (mL μ) (mN μ) len (mN μ)) _)
  rw [up1_s]
  congr 2
  funext q
  show Value.null = va_rf (up1 (mO μ) (mN μ) (fun _ => none) (mN μ) q)
  rw [up1_s]
  rfl
end STORES
end
section
/-! rows of the judgement: calls, ends, switches -/
section CALLS
variable {E : En} {M : Mt} {kc ks pc : Nat} {ls : List (Option Value)} {st : List Value} {μ : Mm} {Q : Option Value → Mm → Prop}
/-- a method that can be called: its code is known, its class is made, it takes n values besides its object -/
def MO (N : Mt) (n : Nat) : Prop := codeW N ∈ wtab ∧ Cond.initialized N.1.cls ∈ wtab ∧ (N.1.cls ≠ "java/lang/invoke/MethodHandle" ∧ N.1.cls ≠ "java/lang/invoke/VarHandle" ∧ (parseMethodDescriptor N.1.desc).map (fun d => d.parameters.length) = some n)
def RM (M N : Mt) : Prop := N.2.2.2.2.frames + 1 ≤ M.2.2.2.2.frames ∧ 8 + (N.2.2.1 + 11) + N.2.2.2.2.locals ≤ M.2.2.2.2.locals
theorem pre_blind {E : En} (hX : XP E) {As : List Value} {μ : Mm} : FrameBlind (va_Pc As (fun U => Rl E μ U.heap ∧ St E U)) := fun a U g mk h => ⟨h.1, h.2.1, St.blind hX g mk a h.2.2⟩
/-- behind a call -/
theorem Ev.called {N : Mt} {As st0 rest : List Value} (hf : ∀ (p : Program) (e : Env) (s : State) (m : MethodId) (args : Array Value) (below : List Frame) (meth : Method) (c : Code) (H : Heap) (locs : List Loc) (cells slots : Nat) (lsA : Array Slot) (Qc : Array Value → State → Outcome → State → Prop), XP E → Cx E M p s m args meth c → Rl E μ H → lsA.size = M.2.2.1 → cells + N.2.2.2.2.cells ≤ M.2.2.2.2.cells ∧ slots + N.2.2.2.2.slots ≤ M.2.2.2.2.slots → Met (xl E) N.1 (wsM N) N.2.2.2.2 (va_Pc As (fun U => Rl E μ U.heap ∧ St E U)) Qc N.2.2.2.2.cells N.2.2.2.2.slots (fun q => xo E ≤ q) →
      va_Run p (xl E) e M.2.2.2.2 s m args below meth c H locs cells slots N.2.2.2.2.cells N.2.2.2.2.slots (F0 m pc lsA st0) rest (Qc As.toArray) (fun q => xo E ≤ q))
    (k : Cl E N As μ (fun r μ' => Ev E M kc ks (pc + 3) ls (r.toList ++ rest) μ' Q)) : Ev E M (kc + N.2.2.2.2.cells) (ks + N.2.2.2.2.slots) pc ls st0 μ Q := by
  intro hX p e s m args below meth c H locs cells slots mc ms lsA Z C R hL hb hl hr
  have hrun := hf p e s m args below meth c H locs cells slots lsA _ hX C R hl.1 ⟨by omega, by omega⟩ (k hX)
  intro T hT X
  obtain ⟨v, st₀, t, T', L, h0, X', hL', e1, e2, ⟨r, μ', hv, hK, hR'⟩, stp⟩ := hrun T hT X
  cases hv
  have hw := hK hX p e s m args below meth c T'.heap (locs ++ L) (cells + N.2.2.2.2.cells) (slots + N.2.2.2.2.slots) mc ms lsA Z C (by rw [e1]; exact hR') (fun q hq => by
    rcases List.mem_append.mp hq with h | h
    · exact hL q h
    · exact hL' q h) ⟨by omega, by omega, hb.2.2⟩ hl hr
  obtain ⟨t2, a1, b1⟩ := hw T' rfl X'
  exact ⟨t2, stp t2 a1, b1⟩
theorem room_ok {m : MethodId} {lsA : Array Slot} {st0 rest : List Value} (h : (rest.map fun v => v.category).sum ≤ 8) : 2 * (F0 m pc lsA st0).monitorRoom + (rest.map fun v => v.category).sum ≤ 8 := lv_room h
theorem zz_recv {s : State} {H : Heap} {b ci : Nat} {r : vw_C} (hS : St E s) (R : Rl E μ H) (hk : mK μ b = ci + 1) (hci : ci < 11) (hr : vwCl[ci]? = some r) : ∃ cellB : Cell, H[b]? = some cellB ∧ cellB.vm.isStatics = false ∧ s.vm.findClass r.1 = some cellB.cls := va_recv hS.1 (R.at (cell_obj hk hci)) hr (q0 := 0) rfl
/-- invokevirtual of a method of the system -/
def LV (own : String) (idx ci : Nat) (N : Mt) : Prop := Cond.methodLink own idx N.1 ∈ wtab ∧ Cond.instanceMethod N.1 ∈ wtab ∧ Cond.selects N.1.cls N.1 N.1 ∈ wtab ∧ ∃ r : vw_C, vwCl[ci]? = some r ∧ r.1 = N.1.cls ∧ ci < 11
theorem e_invV {N : Mt} {idx ci na b : Nat} (As : List Value) {rest : List Value} (n : Nat) (hp : pc + 3 = n) (hd : decode M.2.1 pc = .ok (.invokevirtual idx, 3)) (hV : LV M.1.cls idx ci N) (hO : MO N na) (hRm : RM M N) (hna : As.length = na) (hk : mK μ b = ci + 1) (hrest : (rest.map fun v => v.category).sum ≤ 8) (k : Cl E N (.ref b :: As) μ (fun r μ' => Ev E M kc ks n ls (r.toList ++ rest) μ' Q)) : Ev E M (kc + N.2.2.2.2.cells) (ks + N.2.2.2.2.slots) pc ls (As.reverse ++ .ref b :: rest) μ Q := by
  subst hp
  obtain ⟨w1, w2, w3, rr, hr1, hr2, hci⟩ := hV
  obtain ⟨o1, o2, o3⟩ := hO
  refine Ev.called (fun p e s m args below meth c H locs cells slots lsA Qc hX C R hsz hb hM => ?_) k
  have hts := C.2.2.2.2.1
  have hcb := callB_of (own := M.1.cls) (index := idx) (R := M.2.2.2.2) na hts (wsM_good o1) rfl rfl rfl (hts _ o2) (hts _ w1) o3 hRm
  exact va_runV (C := N.1.cls) (As := As) ⟨C.1, C.2.1, C.2.2.1, C.2.2.2.1, hts⟩ hM ⟨hcb, hts _ w2, hts _ w3⟩ ⟨pre_blind hX, hr2 ▸ zz_recv C.2.2.2.2.2.1 R hk hci hr1, fun U hU hW => ⟨rfl, by rw [hU]; exact R, St.warm hX hW C.2.2.2.2.2.1⟩⟩ rfl hna hsz rfl (room_ok hrest) hd hb
/-- invokestatic of a method of the same class, or of a class that the tables name -/
def LStat (own : String) (idx : Nat) (N : Mt) : Prop := Cond.methodLink own idx N.1 ∈ wtab ∧ Cond.static N.1 ∈ wtab
theorem e_invS {N : Mt} {idx na : Nat} (As : List Value) {rest : List Value} (n : Nat) (hp : pc + 3 = n) (hd : decode M.2.1 pc = .ok (.invokestatic idx, 3)) (hV : LStat M.1.cls idx N) (hO : MO N na) (hRm : RM M N) (hna : As.length = na) (hrest : (rest.map fun v => v.category).sum ≤ 8) (k : Cl E N As μ (fun r μ' => Ev E M kc ks n ls (r.toList ++ rest) μ' Q)) : Ev E M (kc + N.2.2.2.2.cells) (ks + N.2.2.2.2.slots) pc ls (As.reverse ++ rest) μ Q := by
  subst hp
  obtain ⟨w1, w2⟩ := hV
  obtain ⟨o1, o2, o3⟩ := hO
  refine Ev.called (fun p e s m args below meth c H locs cells slots lsA Qc hX C R hsz hb hM => ?_) k
  have hts := C.2.2.2.2.1
  have hcb := callB_of (own := M.1.cls) (index := idx) (R := M.2.2.2.2) na hts (wsM_good o1) rfl rfl rfl (hts _ o2) (hts _ w1) o3 hRm
  exact va_runS (As := As) ⟨C.1, C.2.1, C.2.2.1, C.2.2.2.1, hts⟩ hM ⟨hcb, hts _ w2⟩ ⟨pre_blind hX, fun U hU hW => ⟨rfl, by rw [hU]; exact R, St.warm hX hW C.2.2.2.2.2.1⟩⟩ rfl hna hsz rfl (room_ok hrest) hd hb
/-- .. of a nest mate's own -/
def LSN (own : String) (idx : Nat) (N : Mt) : Prop := (own, idx, N.1, RX9) ∈ nestL ∧ Cond.static N.1 ∈ wtab
theorem e_invSN {N : Mt} {idx na : Nat} (As : List Value) {rest : List Value} (n : Nat) (hp : pc + 3 = n) (hd : decode M.2.1 pc = .ok (.invokestatic idx, 3)) (hV : LSN M.1.cls idx N) (hO : MO N na) (hRm : RM M N) (hna : As.length = na) (hrest : (rest.map fun v => v.category).sum ≤ 8) (k : Cl E N As μ (fun r μ' => Ev E M kc ks n ls (r.toList ++ rest) μ' Q)) : Ev E M (kc + N.2.2.2.2.cells) (ks + N.2.2.2.2.slots) pc ls (As.reverse ++ rest) μ Q := by
  subst hp
  obtain ⟨w1, w2⟩ := hV
  obtain ⟨o1, o2, o3⟩ := hO
  refine Ev.called (fun p e s m args below meth c H locs cells slots lsA Qc hX C R hsz hb hM => ?_) k
  have hts := C.2.2.2.2.1
  have hcn := va_cnB (own := M.1.cls) (host := RX9) (index := idx) (R := M.2.2.2.2) na hts (wsM_good o1) rfl rfl rfl (C.2.2.2.2.2.1.2.1 _ w1) (hts _ o2) o3 hRm
  exact va_runSN (As := As) ⟨C.1, C.2.1, C.2.2.1, C.2.2.2.1, hts⟩ hM ⟨hcn, hts _ w2, trivial⟩ ⟨pre_blind hX, fun U hU hW => ⟨rfl, by rw [hU]; exact R, St.warm hX hW C.2.2.2.2.2.1⟩⟩ rfl hna hsz rfl (room_ok hrest) hd hb
/-- a constructor -/
def LI (own : String) (idx : Nat) (N : Mt) : Prop := Cond.methodLink own idx N.1 ∈ wtab ∧ Cond.instanceMethod N.1 ∈ wtab ∧ N.1.name = "<init>" ∧ N.2.2.2.1 = none
theorem e_invI {N : Mt} {idx na b : Nat} (As : List Value) {rest : List Value} (n : Nat) (hp : pc + 3 = n) (hd : decode M.2.1 pc = .ok (.invokespecial idx, 3)) (hV : LI M.1.cls idx N) (hO : MO N na) (hRm : RM M N) (hna : As.length = na) (hrest : (rest.map fun v => v.category).sum ≤ 8) (k : Cl E N (.ref b :: As) μ (fun r μ' => Ev E M kc ks n ls (r.toList ++ rest) μ' Q)) : Ev E M (kc + N.2.2.2.2.cells) (ks + N.2.2.2.2.slots) pc ls (As.reverse ++ .ref b :: rest) μ Q := by
  subst hp
  obtain ⟨w1, w2, w3, w4⟩ := hV
  obtain ⟨o1, o2, o3⟩ := hO
  refine Ev.called (fun p e s m args below meth c H locs cells slots lsA Qc hX C R hsz hb hM => ?_) k
  have hts := C.2.2.2.2.1
  have hcb := callB_of (own := M.1.cls) (index := idx) (R := M.2.2.2.2) (ret := none) (bytes := N.2.1) (maxL := N.2.2.1) (ws' := wtab) na hts (wsM_good o1) (by unfold wsM codeW; rw [w4]) rfl rfl (hts _ o2) (hts _ w1) o3 hRm
  exact va_runI (As := As) ⟨C.1, C.2.1, C.2.2.1, C.2.2.2.1, hts⟩ hM ⟨hcb, w3, hts _ w2⟩ ⟨pre_blind hX, fun U hU hW => ⟨rfl, by rw [hU]; exact R, St.warm hX hW C.2.2.2.2.2.1⟩⟩ rfl hna hsz rfl (room_ok hrest) hd hb
def LIN (own : String) (idx : Nat) (N : Mt) : Prop := (own, idx, N.1, RX9) ∈ nestL ∧ Cond.instanceMethod N.1 ∈ wtab ∧ N.1.name = "<init>" ∧ N.2.2.2.1 = none
theorem e_invIN {N : Mt} {idx na b : Nat} (As : List Value) {rest : List Value} (n : Nat) (hp : pc + 3 = n) (hd : decode M.2.1 pc = .ok (.invokespecial idx, 3)) (hV : LIN M.1.cls idx N) (hO : MO N na) (hRm : RM M N) (hna : As.length = na) (hrest : (rest.map fun v => v.category).sum ≤ 8) (k : Cl E N (.ref b :: As) μ (fun r μ' => Ev E M kc ks n ls (r.toList ++ rest) μ' Q)) : Ev E M (kc + N.2.2.2.2.cells) (ks + N.2.2.2.2.slots) pc ls (As.reverse ++ .ref b :: rest) μ Q := by
  subst hp
  obtain ⟨w1, w2, w3, w4⟩ := hV
  obtain ⟨o1, o2, o3⟩ := hO
  refine Ev.called (fun p e s m args below meth c H locs cells slots lsA Qc hX C R hsz hb hM => ?_) k
  have hts := C.2.2.2.2.1
  have hcn := va_cnB (own := M.1.cls) (host := RX9) (index := idx) (R := M.2.2.2.2) (ret := none) (bytes := N.2.1) (maxL := N.2.2.1) (ws' := wtab) na hts (wsM_good o1) (by unfold wsM codeW; rw [w4]) rfl rfl (C.2.2.2.2.2.1.2.1 _ w1) (hts _ o2) o3 hRm
  exact va_runIN (As := As) ⟨C.1, C.2.1, C.2.2.1, C.2.2.2.1, hts⟩ hM ⟨hcn, w3, hts _ w2⟩ ⟨pre_blind hX, fun U hU hW => ⟨rfl, by rw [hU]; exact R, St.warm hX hW C.2.2.2.2.2.1⟩⟩ rfl hna hsz rfl (room_ok hrest) hd hb
/-- Object's constructor -/
def LO (own : String) (idx : Nat) : Prop := Cond.methodLink own idx objectInit ∈ wtab ∧ Cond.instanceMethod objectInit ∈ wtab ∧ Cond.code objectInit ⟨#[0xb1]⟩ 1 none ∈ wtab
theorem e_obj {idx a : Nat} (n : Nat) (hp : pc + 3 = n) (hd : decode M.2.1 pc = .ok (.invokespecial idx, 3)) (hV : LO M.1.cls idx) (hf : 1 ≤ M.2.2.2.2.frames) (hl : 2 * (0 : Nat) + (st.map fun v => v.category).sum + 12 ≤ M.2.2.2.2.locals) (kk : Ev E M kc ks n ls st μ Q) : Ev E M kc ks pc ls (.ref a :: st) μ Q := by
  subst hp
  refine Ev.step (fun p e s m args below meth c H locs cells slots lsA Z C R hL k2 => ?_) kk
  have hts := C.2.2.2.2.1
  exact W.objInit C.1 C.2.1 C.2.2.2.1 (hts _ hV.1) (hts _ hV.2.1) (hts _ hV.2.2) rfl (by rw [C.2.2.1]; exact hL.1) rfl hd hf hl (k2 lsA hL)
/-- Math.max, Math.min -/
def LMx (own : String) (idx : Nat) : Prop := Cond.methodLink own idx Lib.Math.max.name ∈ wtab ∧ Cond.static Lib.Math.max.name ∈ wtab ∧ Cond.initialized "java/lang/Math" ∈ wtab ∧ Cond.code Lib.Math.max.name Lib.Math.max.code 2 (some .int) ∈ wtab
def LMn (own : String) (idx : Nat) : Prop := Cond.methodLink own idx Lib.Math.min.name ∈ wtab ∧ Cond.static Lib.Math.min.name ∈ wtab ∧ Cond.initialized "java/lang/Math" ∈ wtab ∧ Cond.code Lib.Math.min.name Lib.Math.min.code 2 (some .int) ∈ wtab
theorem Ev.cells {pc' : Nat} {st' : List Value} (h : ∀ (p : Program) (e : Env) (s : State) (m : MethodId) (args : Array Value) (below : List Frame) (meth : Method) (c : Code) (H : Heap) (locs : List Loc) (cells slots : Nat) (lsA : Array Slot) (Z : State → Prop),
      Cx E M p s m args meth c → LsOK lsA M.2.2.1 ls → cells ≤ M.2.2.2.2.cells → slots ≤ M.2.2.2.2.slots → W p (xl E) e M.2.2.2.2 s m args below meth c H locs cells slots Z (F0 m pc' lsA st') → W p (xl E) e M.2.2.2.2 s m args below meth c H locs cells slots Z (F0 m pc lsA st))
    (k : Ev E M kc ks pc' ls st' μ Q) : Ev E M kc ks pc ls st μ Q := by
  intro hX p e s m args below meth c H locs cells slots mc ms lsA Z C R hL hb hl hr
  exact h p e s m args below meth c H locs cells slots lsA Z C hl (by omega) (by omega) (k hX p e s m args below meth c H locs cells slots mc ms lsA Z C R hL hb hl hr)
theorem e_max {idx : Nat} {x y : Int32} (n : Nat) (hp : pc + 3 = n) (hd : decode M.2.1 pc = .ok (.invokestatic idx, 3)) (hV : LMx M.1.cls idx) (hf : 1 ≤ M.2.2.2.2.frames) (hl : (st.map fun v => v.category).sum + 13 ≤ M.2.2.2.2.locals) (kk : Ev E M kc ks n ls (.int (if x < y then y else x) :: st) μ Q) : Ev E M kc ks pc ls (.int y :: .int x :: st) μ Q := by
  subst hp
  refine Ev.cells (fun p e s m args below meth c H locs cells slots lsA Z C hL h1 h2 k2 => ?_) kk
  have hts := C.2.2.2.2.1
  exact va_mmax C.1 C.2.1 (by rw [C.2.2.1]; exact hL.1.symm) C.2.2.2.1 (hts _ hV.1) (hts _ hV.2.1) (hts _ hV.2.2.1) (hts _ hV.2.2.2) hf hl h1 h2 hd k2
theorem e_min {idx : Nat} {x y : Int32} (n : Nat) (hp : pc + 3 = n) (hd : decode M.2.1 pc = .ok (.invokestatic idx, 3)) (hV : LMn M.1.cls idx) (hf : 1 ≤ M.2.2.2.2.frames) (hl : (st.map fun v => v.category).sum + 13 ≤ M.2.2.2.2.locals) (kk : Ev E M kc ks n ls (.int (if y < x then y else x) :: st) μ Q) : Ev E M kc ks pc ls (.int y :: .int x :: st) μ Q := by
  subst hp
  refine Ev.cells (fun p e s m args below meth c H locs cells slots lsA Z C hL h1 h2 k2 => ?_) kk
  have hts := C.2.2.2.2.1
  exact va_mmin C.1 C.2.1 (by rw [C.2.2.1]; exact hL.1.symm) C.2.2.2.1 (hts _ hV.1) (hts _ hV.2.1) (hts _ hV.2.2.1) (hts _ hV.2.2.2) hf hl h1 h2 hd k2
/-! ends -/
theorem e_iret {v : Int32} (hd : decode M.2.1 pc = .ok (.ireturn, 1)) (hr : M.2.2.2.1 = some .int) (hQ : Q (some (.int v)) μ) : Ev E M kc ks pc ls [.int v] μ Q := Ev.ret (r := some (.int v)) rfl (Or.inl ⟨v, .int, rfl, hr, rfl, hd⟩) hQ
theorem e_zret {v : Int32} (hd : decode M.2.1 pc = .ok (.ireturn, 1)) (hr : M.2.2.2.1 = some .boolean) (hv : v = 0 ∨ v = 1) (hQ : Q (some (.int v)) μ) : Ev E M kc ks pc ls [.int v] μ Q := Ev.ret (r := some (.int v)) rfl (Or.inl ⟨v, .boolean, rfl, hr, (nar_bool hv).1, hd⟩) hQ
theorem e_aret {a : Nat} {C : String} (hd : decode M.2.1 pc = .ok (.areturn, 1)) (hr : M.2.2.2.1 = some (.object C)) (hQ : Q (some (.ref a)) μ) : Ev E M kc ks pc ls [.ref a] μ Q := Ev.ret (r := some (.ref a)) rfl (Or.inr (Or.inl ⟨a, C, rfl, hr, hd⟩)) hQ
theorem e_ret (hd : decode M.2.1 pc = .ok (.return_, 1)) (hr : M.2.2.2.1 = none) (hQ : Q none μ) : Ev E M kc ks pc ls [] μ Q := Ev.ret (r := none) rfl (Or.inr (Or.inr ⟨rfl, hr, hd⟩)) hQ
/-! a table of places -/
theorem e_tabIn {dflt lo hi : Int} {offs : Array Int} {len : Nat} {x : Int32} {off : Int} (t : Nat) (hd : decode M.2.1 pc = .ok (.tableswitch dflt lo hi offs, len)) (h1 : ¬ x.toInt < lo) (h2 : ¬ hi < x.toInt) (ho : offs[(x.toInt - lo).toNat]? = some off) (ht : (pc : Int) + off = (t : Int)) (kk : Ev E M kc ks t ls st μ Q) : Ev E M kc ks pc ls (.int x :: st) μ Q :=
  Ev.step (fun p e s m args below meth c H locs cells slots lsA Z C R hL k2 => lv_tableIn C.1 C.2.1 hd h1 h2 ho ht (k2 lsA hL)) kk
theorem e_tabOut {dflt lo hi : Int} {offs : Array Int} {len : Nat} {x : Int32} (t : Nat) (hd : decode M.2.1 pc = .ok (.tableswitch dflt lo hi offs, len)) (h : x.toInt < lo ∨ hi < x.toInt) (ht : (pc : Int) + dflt = (t : Int)) (kk : Ev E M kc ks t ls st μ Q) : Ev E M kc ks pc ls (.int x :: st) μ Q :=
  Ev.step (fun p e s m args below meth c H locs cells slots lsA Z C R hL k2 => lv_tableOut C.1 C.2.1 hd h ht (k2 lsA hL)) kk
theorem e_ldc2 {idx : Nat} (v : Int64) (n : Nat) (hp : pc + 3 = n) (hd : decode M.2.1 pc = .ok (.ldc2_w idx, 3)) (hw : Cond.constantLong M.1.cls idx v ∈ wtab) (kk : Ev E M kc ks n ls (.long v :: st) μ Q) : Ev E M kc ks pc ls st μ Q := by
  subst hp
  exact Ev.step (fun p e s m args below meth c H locs cells slots lsA Z C R hL k2 => lv_ldc2 C.1 C.2.1 C.2.2.2.1 (C.2.2.2.2.1 _ hw) hd (k2 lsA hL)) kk
end CALLS
end
section
/-! methods, and what the tables say; by program -/
theorem wt (i : Nat) {w : Cond} (h : lw_tbl[i]? = some w) (hg : goodWord w = true) : w ∈ wtab := List.mem_filter.mpr ⟨List.mem_of_getElem? h, hg⟩
theorem wts (is : List Nat) {l : List Cond} (h : is.map (fun i => lw_tbl[i]?) = l.map some) (hg : l.all goodWord = true) : ∀ w ∈ l, w ∈ wtab := by
  intro w hw
  refine List.mem_filter.mpr ⟨?_, List.all_eq_true.mp hg w hw⟩
  have h1 : some w ∈ is.map (fun i => lw_tbl[i]?) := by rw [h]; exact List.mem_map_of_mem hw
  obtain ⟨i, -, hi⟩ := List.mem_map.mp h1
  exact List.mem_of_getElem? hi
theorem ci_0 : CI 0 RX0 TX0 4 tyX0 := ⟨rfl, wts [232, 234, 236, 238] (by decide +kernel) (by decide +kernel), tyX0_ok, nmX0, by decide +kernel, by decide⟩
theorem ci_1 : CI 1 RX1 TX1 2 tyX1 := ⟨rfl, wts [303, 305] (by decide +kernel) (by decide +kernel), tyX1_ok, nmX1, by decide +kernel, by decide⟩
theorem ci_2 : CI 2 RX2 TX2 10 tyX2 := ⟨rfl, wts [340, 342, 344, 346, 348, 350, 352, 354, 356, 358] (by decide +kernel) (by decide +kernel), tyX2_ok, nmX2, by decide +kernel, by decide⟩
theorem ci_3 : CI 3 RX3 TX3 8 tyX3 := ⟨rfl, wts [263, 265, 267, 269, 271, 273, 275, 277] (by decide +kernel) (by decide +kernel), tyX3_ok, nmX3, by decide +kernel, by decide⟩
theorem ci_4 : CI 4 RX4 TX4 13 tyX4 := ⟨rfl, wts [164, 166, 168, 170, 172, 174, 176, 178, 180, 182, 184, 186, 188] (by decide +kernel) (by decide +kernel), tyX4_ok, nmX4, by decide +kernel, by decide⟩
theorem ci_5 : CI 5 RX5 TX5 5 tyX5 := ⟨rfl, wts [115, 117, 119, 121, 123] (by decide +kernel) (by decide +kernel), tyX5_ok, nmX5, by decide +kernel, by decide⟩
theorem ci_6 : CI 6 RX6 TX6 2 tyX6 := ⟨rfl, wts [289, 291] (by decide +kernel) (by decide +kernel), tyX6_ok, nmX6, by decide +kernel, by decide⟩
theorem ci_7 : CI 7 RX7 TX7 2 tyX7 := ⟨rfl, wts [94, 96] (by decide +kernel) (by decide +kernel), tyX7_ok, nmX7, by decide +kernel, by decide⟩
theorem ci_8 : CI 8 RX8 TX8 4 tyX8 := ⟨rfl, wts [218, 220, 222, 224] (by decide +kernel) (by decide +kernel), tyX8_ok, nmX8, by decide +kernel, by decide⟩
theorem ci_9 : CI 9 RX9 TX9 15 tyX9 := ⟨rfl, wts [376, 378, 380, 382, 384, 386, 388, 390, 392, 394, 396, 398, 400, 402, 404] (by decide +kernel) (by decide +kernel), tyX9_ok, nmX9, by decide +kernel, by decide⟩
theorem ci_10 : CI 10 RX10 TX10 49 tyX10 := ⟨rfl, wts [976, 978, 980, 982, 984, 986, 988, 990, 992, 994, 996, 998, 1000, 1002, 1004, 1006, 1008, 1010, 1012, 1014, 1016, 1018, 1020, 1022, 1024, 1026, 1028, 1030, 1032, 1034, 1036, 1038, 1040, 1042, 1044, 1046, 1048, 1050, 1052, 1054, 1056, 1058, 1060, 1062, 1064, 1066, 1068, 1070, 1072] (by decide +kernel) (by decide +kernel), tyX10_ok, nmX10, by decide +kernel, by decide⟩
abbrev M_X9_init : Mt := (yX9_init, cX9_init, 2, none, { frames := 3, cells := 1254, slots := 45117, locals := 61 })
abbrev M_X9_feed : Mt := (yX9_feed, cX9_feed, 6, (some .int), { frames := 1, cells := 0, slots := 0, locals := 22 })
abbrev M_X9_shape : Mt := (yX9_shape, cX9_shape, 5, (some .int), { frames := 9, cells := 0, slots := 0, locals := 200 })
abbrev M_X9_fault : Mt := (yX9_fault, cX9_fault, 2, (some .int), { frames := 0, cells := 0, slots := 0, locals := 0 })
abbrev M_X9_know : Mt := (yX9_know, cX9_know, 4, (some .int), { frames := 4, cells := 0, slots := 0, locals := 89 })
abbrev M_X9_forget : Mt := (yX9_forget, cX9_forget, 5, (some .boolean), { frames := 4, cells := 0, slots := 0, locals := 89 })
abbrev M_X9_name : Mt := (yX9_name, cX9_name, 4, (some .int), { frames := 4, cells := 0, slots := 0, locals := 90 })
abbrev M_X9_readings : Mt := (yX9_readings, cX9_readings, 3, (some .int), { frames := 5, cells := 0, slots := 0, locals := 123 })
abbrev M_X9_cost : Mt := (yX9_cost, cX9_cost, 3, (some .int), { frames := 5, cells := 0, slots := 0, locals := 123 })
abbrev M_X9_kind : Mt := (yX9_kind, cX9_kind, 4, (some .int), { frames := 5, cells := 0, slots := 0, locals := 123 })
abbrev M_X9_look : Mt := (yX9_look, cX9_look, 3, (some .int), { frames := 6, cells := 1, slots := 6, locals := 150 })
abbrev M_X9_order : Mt := (yX9_order, cX9_order, 2, (some .int), { frames := 6, cells := 0, slots := 0, locals := 147 })
abbrev M_X9_sign : Mt := (yX9_sign, cX9_sign, 4, (some .int), { frames := 6, cells := 0, slots := 0, locals := 150 })
abbrev M_X9_agree : Mt := (yX9_agree, cX9_agree, 5, (some .int), { frames := 5, cells := 0, slots := 0, locals := 124 })
abbrev M_X9_father : Mt := (yX9_father, cX9_father, 7, (some .int), { frames := 5, cells := 0, slots := 0, locals := 124 })
abbrev M_X9_table : Mt := (yX9_table, cX9_table, 4, (some .boolean), { frames := 2, cells := 0, slots := 0, locals := 44 })
abbrev M_X9_fallen : Mt := (yX9_fallen, cX9_fallen, 4, (some .int), { frames := 3, cells := 0, slots := 0, locals := 69 })
abbrev M_X9_count : Mt := (yX9_count, cX9_count, 2, (some .int), { frames := 1, cells := 0, slots := 0, locals := 22 })
abbrev M_X9_isLand : Mt := (yX9_isLand, cX9_isLand, 1, (some .boolean), { frames := 0, cells := 0, slots := 0, locals := 0 })
abbrev M_X9_isName : Mt := (yX9_isName, cX9_isName, 2, (some .boolean), { frames := 0, cells := 0, slots := 0, locals := 0 })
abbrev M_X9_isEntry : Mt := (yX9_isEntry, cX9_isEntry, 4, (some .boolean), { frames := 3, cells := 0, slots := 0, locals := 66 })
abbrev M_X9_shapeCount : Mt := (yX9_shapeCount, cX9_shapeCount, 3, (some .int), { frames := 0, cells := 0, slots := 0, locals := 0 })
abbrev M_X9_landChanged : Mt := (yX9_landChanged, cX9_landChanged, 3, none, { frames := 0, cells := 0, slots := 0, locals := 0 })
abbrev M_X9_listReadings : Mt := (yX9_listReadings, cX9_listReadings, 3, none, { frames := 4, cells := 0, slots := 0, locals := 101 })
abbrev M_X9_freshName : Mt := (yX9_freshName, cX9_freshName, 4, (some (.object "NameDesk$Name")), { frames := 4, cells := 0, slots := 0, locals := 101 })
abbrev M_X9_rank : Mt := (yX9_rank, cX9_rank, 4, none, { frames := 5, cells := 0, slots := 0, locals := 124 })
abbrev M_X9_placeInRanking : Mt := (yX9_placeInRanking, cX9_placeInRanking, 3, (some .int), { frames := 0, cells := 0, slots := 0, locals := 0 })
abbrev M_X9_lineOf : Mt := (yX9_lineOf, cX9_lineOf, 7, (some (.object "NameDesk$Line")), { frames := 5, cells := 0, slots := 0, locals := 124 })
abbrev M_X9_putLine : Mt := (yX9_putLine, cX9_putLine, 3, (some (.object "NameDesk$Line")), { frames := 2, cells := 0, slots := 0, locals := 47 })
abbrev M_X9_sameFamily : Mt := (yX9_sameFamily, cX9_sameFamily, 5, (some .boolean), { frames := 2, cells := 0, slots := 0, locals := 44 })
abbrev M_X9_fittingGiven : Mt := (yX9_fittingGiven, cX9_fittingGiven, 6, (some .boolean), { frames := 3, cells := 0, slots := 0, locals := 65 })
abbrev M_X9_isSmall : Mt := (yX9_isSmall, cX9_isSmall, 1, (some .boolean), { frames := 0, cells := 0, slots := 0, locals := 0 })
abbrev M_X9_isBig : Mt := (yX9_isBig, cX9_isBig, 1, (some .boolean), { frames := 0, cells := 0, slots := 0, locals := 0 })
abbrev M_X10_init : Mt := (yX10_init, cX10_init, 2, none, { frames := 1, cells := 37, slots := 26957, locals := 20 })
abbrev M_X10_thrown : Mt := (yX10_thrown, cX10_thrown, 1, (some .int), { frames := 0, cells := 0, slots := 0, locals := 0 })
abbrev M_X10_feed : Mt := (yX10_feed, cX10_feed, 8, (some .int), { frames := 0, cells := 0, slots := 0, locals := 0 })
abbrev M_X10_wrong : Mt := (yX10_wrong, cX10_wrong, 3, (some .boolean), { frames := 0, cells := 0, slots := 0, locals := 0 })
abbrev M_X10_see : Mt := (yX10_see, cX10_see, 1, (some .int), { frames := 0, cells := 0, slots := 0, locals := 0 })
abbrev M_X10_kindOf : Mt := (yX10_kindOf, cX10_kindOf, 1, (some .int), { frames := 0, cells := 0, slots := 0, locals := 0 })
abbrev M_X10_slotsRead : Mt := (yX10_slotsRead, cX10_slotsRead, 4, (some .boolean), { frames := 1, cells := 0, slots := 0, locals := 22 })
abbrev M_X10_lettersRead : Mt := (yX10_lettersRead, cX10_lettersRead, 5, (some .boolean), { frames := 1, cells := 0, slots := 0, locals := 22 })
abbrev M_X10_endingRead : Mt := (yX10_endingRead, cX10_endingRead, 3, (some .boolean), { frames := 1, cells := 0, slots := 0, locals := 22 })
abbrev M_X10_shape : Mt := (yX10_shape, cX10_shape, 4, (some .int), { frames := 2, cells := 0, slots := 0, locals := 46 })
abbrev M_X10_fault : Mt := (yX10_fault, cX10_fault, 2, (some .int), { frames := 0, cells := 0, slots := 0, locals := 0 })
abbrev M_X10_isLetter : Mt := (yX10_isLetter, cX10_isLetter, 1, (some .boolean), { frames := 0, cells := 0, slots := 0, locals := 0 })
abbrev M_X10_isWord : Mt := (yX10_isWord, cX10_isWord, 8, (some .boolean), { frames := 1, cells := 0, slots := 0, locals := 20 })
abbrev M_X10_entry : Mt := (yX10_entry, cX10_entry, 9, (some .int), { frames := 0, cells := 0, slots := 0, locals := 0 })
abbrev M_X10_isKept : Mt := (yX10_isKept, cX10_isKept, 1, (some .boolean), { frames := 0, cells := 0, slots := 0, locals := 0 })
abbrev M_X10_know : Mt := (yX10_know, cX10_know, 5, (some .int), { frames := 2, cells := 0, slots := 0, locals := 47 })
abbrev M_X10_forget : Mt := (yX10_forget, cX10_forget, 7, (some .boolean), { frames := 2, cells := 0, slots := 0, locals := 47 })
abbrev M_X10_name : Mt := (yX10_name, cX10_name, 8, (some .int), { frames := 2, cells := 0, slots := 0, locals := 47 })
abbrev M_X10_costOf : Mt := (yX10_costOf, cX10_costOf, 7, (some .int), { frames := 1, cells := 0, slots := 0, locals := 28 })
abbrev M_X10_slips : Mt := (yX10_slips, cX10_slips, 6, (some .int), { frames := 0, cells := 0, slots := 0, locals := 0 })
abbrev M_X10_goes : Mt := (yX10_goes, cX10_goes, 7, (some .int), { frames := 0, cells := 0, slots := 0, locals := 0 })
abbrev M_X10_fill : Mt := (yX10_fill, cX10_fill, 9, none, { frames := 2, cells := 0, slots := 0, locals := 54 })
abbrev M_X10_reading : Mt := (yX10_reading, cX10_reading, 7, (some .int), { frames := 3, cells := 0, slots := 0, locals := 82 })
abbrev M_X10_isName : Mt := (yX10_isName, cX10_isName, 2, (some .boolean), { frames := 0, cells := 0, slots := 0, locals := 0 })
abbrev M_X10_readings : Mt := (yX10_readings, cX10_readings, 5, (some .int), { frames := 3, cells := 0, slots := 0, locals := 82 })
abbrev M_X10_cost : Mt := (yX10_cost, cX10_cost, 4, (some .int), { frames := 4, cells := 0, slots := 0, locals := 108 })
abbrev M_X10_kindIn : Mt := (yX10_kindIn, cX10_kindIn, 4, (some .int), { frames := 0, cells := 0, slots := 0, locals := 0 })
abbrev M_X10_kind : Mt := (yX10_kind, cX10_kind, 5, (some .int), { frames := 4, cells := 0, slots := 0, locals := 108 })
abbrev M_X10_first : Mt := (yX10_first, cX10_first, 4, none, { frames := 4, cells := 0, slots := 0, locals := 108 })
abbrev M_X10_firstAll : Mt := (yX10_firstAll, cX10_firstAll, 2, none, { frames := 5, cells := 0, slots := 0, locals := 131 })
abbrev M_X10_pick : Mt := (yX10_pick, cX10_pick, 8, none, { frames := 0, cells := 0, slots := 0, locals := 0 })
abbrev M_X10_compare : Mt := (yX10_compare, cX10_compare, 4, (some .int), { frames := 0, cells := 0, slots := 0, locals := 0 })
abbrev M_X10_ahead : Mt := (yX10_ahead, cX10_ahead, 5, (some .boolean), { frames := 1, cells := 0, slots := 0, locals := 23 })
abbrev M_X10_orderAll : Mt := (yX10_orderAll, cX10_orderAll, 2, none, { frames := 6, cells := 0, slots := 0, locals := 152 })
abbrev M_X10_placeOf : Mt := (yX10_placeOf, cX10_placeOf, 4, (some .int), { frames := 2, cells := 0, slots := 0, locals := 47 })
abbrev M_X10_signs : Mt := (yX10_signs, cX10_signs, 6, (some .int), { frames := 5, cells := 0, slots := 0, locals := 131 })
abbrev M_X10_fails : Mt := (yX10_fails, cX10_fails, 2, (some .int), { frames := 0, cells := 0, slots := 0, locals := 0 })
abbrev M_X10_look : Mt := (yX10_look, cX10_look, 3, (some .int), { frames := 7, cells := 0, slots := 0, locals := 173 })
abbrev M_X10_order : Mt := (yX10_order, cX10_order, 3, (some .int), { frames := 7, cells := 0, slots := 0, locals := 173 })
abbrev M_X10_over : Mt := (yX10_over, cX10_over, 7, (some .int), { frames := 0, cells := 0, slots := 0, locals := 0 })
abbrev M_X10_sign : Mt := (yX10_sign, cX10_sign, 8, (some .int), { frames := 5, cells := 0, slots := 0, locals := 131 })
abbrev M_X10_wordOf : Mt := (yX10_wordOf, cX10_wordOf, 8, (some .int), { frames := 0, cells := 0, slots := 0, locals := 0 })
abbrev M_X10_agree : Mt := (yX10_agree, cX10_agree, 7, (some .int), { frames := 5, cells := 0, slots := 0, locals := 131 })
abbrev M_X10_father : Mt := (yX10_father, cX10_father, 8, (some .int), { frames := 5, cells := 0, slots := 0, locals := 131 })
abbrev M_X10_table : Mt := (yX10_table, cX10_table, 4, (some .boolean), { frames := 0, cells := 0, slots := 0, locals := 0 })
abbrev M_X10_alike : Mt := (yX10_alike, cX10_alike, 4, (some .boolean), { frames := 1, cells := 0, slots := 0, locals := 23 })
abbrev M_X10_overAlike : Mt := (yX10_overAlike, cX10_overAlike, 5, (some .boolean), { frames := 6, cells := 0, slots := 0, locals := 156 })
abbrev M_X10_fallen : Mt := (yX10_fallen, cX10_fallen, 4, (some .int), { frames := 7, cells := 0, slots := 0, locals := 180 })
abbrev M_X10_count : Mt := (yX10_count, cX10_count, 4, (some .int), { frames := 0, cells := 0, slots := 0, locals := 0 })
abbrev M_X0_init : Mt := (yX0_init, cX0_init, 2, none, { frames := 2, cells := 243, slots := 3840, locals := 40 })
abbrev M_X0_find : Mt := (yX0_find, cX0_find, 5, (some .int), { frames := 2, cells := 0, slots := 0, locals := 44 })
abbrev M_X0_add : Mt := (yX0_add, cX0_add, 4, none, { frames := 1, cells := 0, slots := 0, locals := 22 })
abbrev M_X0_remove : Mt := (yX0_remove, cX0_remove, 4, none, { frames := 0, cells := 0, slots := 0, locals := 0 })
abbrev M_X0_kindsOf : Mt := (yX0_kindsOf, cX0_kindsOf, 6, (some .int), { frames := 1, cells := 0, slots := 0, locals := 23 })
abbrev M_X1_init : Mt := (yX1_init, cX1_init, 1, none, { frames := 1, cells := 1, slots := 488, locals := 20 })
abbrev M_X1_add : Mt := (yX1_add, cX1_add, 2, none, { frames := 0, cells := 0, slots := 0, locals := 0 })
abbrev M_X1_addWord : Mt := (yX1_addWord, cX1_addWord, 5, none, { frames := 1, cells := 0, slots := 0, locals := 21 })
abbrev M_X1_signAt : Mt := (yX1_signAt, cX1_signAt, 2, (some .int), { frames := 0, cells := 0, slots := 0, locals := 0 })
abbrev M_X1_alike : Mt := (yX1_alike, cX1_alike, 3, (some .boolean), { frames := 0, cells := 0, slots := 0, locals := 0 })
abbrev M_X2_init : Mt := (yX2_init, cX2_init, 2, none, { frames := 2, cells := 29, slots := 874, locals := 40 })
abbrev M_X2_take : Mt := (yX2_take, cX2_take, 5, (some .boolean), { frames := 3, cells := 0, slots := 0, locals := 66 })
abbrev M_X2_nextOf : Mt := (yX2_nextOf, cX2_nextOf, 4, (some .int), { frames := 0, cells := 0, slots := 0, locals := 0 })
abbrev M_X2_choose : Mt := (yX2_choose, cX2_choose, 7, (some .int), { frames := 0, cells := 0, slots := 0, locals := 0 })
abbrev M_X2_isBefore : Mt := (yX2_isBefore, cX2_isBefore, 4, (some .boolean), { frames := 1, cells := 0, slots := 0, locals := 22 })
abbrev M_X2_alikeFolded : Mt := (yX2_alikeFolded, cX2_alikeFolded, 3, (some .boolean), { frames := 2, cells := 0, slots := 0, locals := 44 })
abbrev M_X3_init : Mt := (yX3_init, cX3_init, 1, none, { frames := 2, cells := 30, slots := 13119, locals := 40 })
abbrev M_X3_weigh : Mt := (yX3_weigh, cX3_weigh, 7, none, { frames := 3, cells := 0, slots := 0, locals := 75 })
abbrev M_X3_weighWord : Mt := (yX3_weighWord, cX3_weighWord, 8, none, { frames := 2, cells := 0, slots := 0, locals := 48 })
abbrev M_X3_leastFrom : Mt := (yX3_leastFrom, cX3_leastFrom, 5, (some .int), { frames := 1, cells := 0, slots := 0, locals := 21 })
abbrev M_X3_readFirst : Mt := (yX3_readFirst, cX3_readFirst, 7, (some .boolean), { frames := 2, cells := 0, slots := 0, locals := 45 })
abbrev M_X3_listRows : Mt := (yX3_listRows, cX3_listRows, 2, none, { frames := 3, cells := 0, slots := 0, locals := 77 })
abbrev M_X3_swapRows : Mt := (yX3_swapRows, cX3_swapRows, 2, none, { frames := 0, cells := 0, slots := 0, locals := 0 })
abbrev M_X3_lengthenRows : Mt := (yX3_lengthenRows, cX3_lengthenRows, 13, none, { frames := 2, cells := 0, slots := 0, locals := 45 })
abbrev M_X3_sortByCost : Mt := (yX3_sortByCost, cX3_sortByCost, 3, none, { frames := 2, cells := 0, slots := 0, locals := 42 })
abbrev M_X3_costIn : Mt := (yX3_costIn, cX3_costIn, 2, (some .int), { frames := 1, cells := 0, slots := 0, locals := 21 })
abbrev M_X3_rowsUpTo : Mt := (yX3_rowsUpTo, cX3_rowsUpTo, 2, (some .int), { frames := 1, cells := 0, slots := 0, locals := 21 })
abbrev M_X3_isRow : Mt := (yX3_isRow, cX3_isRow, 2, (some .boolean), { frames := 0, cells := 0, slots := 0, locals := 0 })
abbrev M_X3_costOfRow : Mt := (yX3_costOfRow, cX3_costOfRow, 2, (some .int), { frames := 2, cells := 0, slots := 0, locals := 42 })
abbrev M_X3_kindInRow : Mt := (yX3_kindInRow, cX3_kindInRow, 3, (some .int), { frames := 1, cells := 0, slots := 0, locals := 21 })
abbrev M_X4_init : Mt := (yX4_init, cX4_init, 1, none, { frames := 1, cells := 8, slots := 59, locals := 20 })
abbrev M_X4_link : Mt := (yX4_link, cX4_link, 2, none, { frames := 1, cells := 0, slots := 0, locals := 23 })
abbrev M_X4_openFrom : Mt := (yX4_openFrom, cX4_openFrom, 4, (some .int), { frames := 0, cells := 0, slots := 0, locals := 0 })
abbrev M_X4_openBehind : Mt := (yX4_openBehind, cX4_openBehind, 6, (some .int), { frames := 0, cells := 0, slots := 0, locals := 0 })
abbrev M_X4_isMade : Mt := (yX4_isMade, cX4_isMade, 2, (some .boolean), { frames := 1, cells := 0, slots := 0, locals := 23 })
abbrev M_X4_makes : Mt := (yX4_makes, cX4_makes, 3, (some .boolean), { frames := 2, cells := 0, slots := 0, locals := 44 })
abbrev M_X5_init : Mt := (yX5_init, cX5_init, 1, none, { frames := 1, cells := 1, slots := 0, locals := 20 })
abbrev M_X5_readInto : Mt := (yX5_readInto, cX5_readInto, 4, (some .boolean), { frames := 8, cells := 0, slots := 0, locals := 177 })
abbrev M_X5_here : Mt := (yX5_here, cX5_here, 1, (some .int), { frames := 0, cells := 0, slots := 0, locals := 0 })
abbrev M_X5_kindHere : Mt := (yX5_kindHere, cX5_kindHere, 2, (some .int), { frames := 6, cells := 0, slots := 0, locals := 131 })
abbrev M_X5_stopWith : Mt := (yX5_stopWith, cX5_stopWith, 2, (some .boolean), { frames := 0, cells := 0, slots := 0, locals := 0 })
abbrev M_X5_pass : Mt := (yX5_pass, cX5_pass, 2, (some .boolean), { frames := 1, cells := 0, slots := 0, locals := 21 })
abbrev M_X5_readSlots : Mt := (yX5_readSlots, cX5_readSlots, 5, (some .boolean), { frames := 7, cells := 0, slots := 0, locals := 152 })
abbrev M_X5_readLetters : Mt := (yX5_readLetters, cX5_readLetters, 6, (some .int), { frames := 7, cells := 0, slots := 0, locals := 152 })
abbrev M_X5_readEnding : Mt := (yX5_readEnding, cX5_readEnding, 3, (some .boolean), { frames := 1, cells := 0, slots := 0, locals := 21 })
abbrev M_X6_init : Mt := (yX6_init, cX6_init, 2, none, { frames := 1, cells := 2, slots := 104, locals := 20 })
abbrev M_X6_change : Mt := (yX6_change, cX6_change, 5, (some .boolean), { frames := 1, cells := 0, slots := 0, locals := 20 })
abbrev M_X6_putOver : Mt := (yX6_putOver, cX6_putOver, 7, none, { frames := 1, cells := 0, slots := 0, locals := 21 })
abbrev M_X7_init : Mt := (yX7_init, cX7_init, 1, none, { frames := 1, cells := 1, slots := 400, locals := 20 })
abbrev M_X7_holds : Mt := (yX7_holds, cX7_holds, 2, (some .boolean), { frames := 0, cells := 0, slots := 0, locals := 0 })
abbrev M_X7_add : Mt := (yX7_add, cX7_add, 3, none, { frames := 0, cells := 0, slots := 0, locals := 0 })
abbrev M_X8_init : Mt := (yX8_init, cX8_init, 1, none, { frames := 1, cells := 2, slots := 41, locals := 20 })
abbrev M_X8_take : Mt := (yX8_take, cX8_take, 6, (some .boolean), { frames := 2, cells := 0, slots := 0, locals := 41 })
abbrev M_X8_takeSign : Mt := (yX8_takeSign, cX8_takeSign, 2, (some .boolean), { frames := 1, cells := 0, slots := 0, locals := 20 })
abbrev M_X8_copyLetters : Mt := (yX8_copyLetters, cX8_copyLetters, 3, none, { frames := 0, cells := 0, slots := 0, locals := 0 })
abbrev M_X8_isBeginning : Mt := (yX8_isBeginning, cX8_isBeginning, 4, (some .boolean), { frames := 0, cells := 0, slots := 0, locals := 0 })
abbrev M_X8_alike : Mt := (yX8_alike, cX8_alike, 2, (some .boolean), { frames := 1, cells := 0, slots := 0, locals := 23 })
abbrev M_X8_fits : Mt := (yX8_fits, cX8_fits, 2, (some .boolean), { frames := 2, cells := 0, slots := 0, locals := 44 })
abbrev M_X8_endsWith : Mt := (yX8_endsWith, cX8_endsWith, 4, (some .boolean), { frames := 0, cells := 0, slots := 0, locals := 0 })
abbrev M_X8_compareLetters : Mt := (yX8_compareLetters, cX8_compareLetters, 3, (some .int), { frames := 0, cells := 0, slots := 0, locals := 0 })
theorem f_X0_11 : GF RX0 11 0 0 (.array (.object "NameDesk$Word")) true true := ⟨_, _, _, _, ci_0, by decide, (wt 227 (by decide +kernel) rfl), by decide, rfl, rfl, rfl⟩
theorem f_X0_17 : GF RX0 17 0 1 (.array .int) true true := ⟨_, _, _, _, ci_0, by decide, (wt 228 (by decide +kernel) rfl), by decide, rfl, rfl, rfl⟩
theorem f_X0_21 : GF RX0 21 0 2 (.array .int) true true := ⟨_, _, _, _, ci_0, by decide, (wt 229 (by decide +kernel) rfl), by decide, rfl, rfl, rfl⟩
theorem f_X0_24 : GF RX0 24 0 3 .int false false := ⟨_, _, _, _, ci_0, by decide, (wt 230 (by decide +kernel) rfl), by decide, rfl, rfl, rfl⟩
theorem f_X1_9 : GF RX1 9 1 0 (.array .byte) true true := ⟨_, _, _, _, ci_1, by decide, (wt 300 (by decide +kernel) rfl), by decide, rfl, rfl, rfl⟩
theorem f_X1_15 : GF RX1 15 1 1 .int false false := ⟨_, _, _, _, ci_1, by decide, (wt 301 (by decide +kernel) rfl), by decide, rfl, rfl, rfl⟩
theorem f_X10_7 : GF RX10 7 10 0 (.array .int) true true := ⟨_, _, _, _, ci_10, by decide, (wt 927 (by decide +kernel) rfl), by decide, rfl, rfl, rfl⟩
theorem f_X10_13 : GF RX10 13 10 4 (.array .int) true true := ⟨_, _, _, _, ci_10, by decide, (wt 931 (by decide +kernel) rfl), by decide, rfl, rfl, rfl⟩
theorem f_X10_16 : GF RX10 16 10 5 (.array .int) true true := ⟨_, _, _, _, ci_10, by decide, (wt 932 (by decide +kernel) rfl), by decide, rfl, rfl, rfl⟩
theorem f_X10_19 : GF RX10 19 10 6 (.array .int) true true := ⟨_, _, _, _, ci_10, by decide, (wt 933 (by decide +kernel) rfl), by decide, rfl, rfl, rfl⟩
theorem f_X10_22 : GF RX10 22 10 7 (.array .int) true true := ⟨_, _, _, _, ci_10, by decide, (wt 934 (by decide +kernel) rfl), by decide, rfl, rfl, rfl⟩
theorem f_X10_25 : GF RX10 25 10 8 (.array .boolean) true true := ⟨_, _, _, _, ci_10, by decide, (wt 935 (by decide +kernel) rfl), by decide, rfl, rfl, rfl⟩
theorem f_X10_29 : GF RX10 29 10 9 (.array .int) true true := ⟨_, _, _, _, ci_10, by decide, (wt 936 (by decide +kernel) rfl), by decide, rfl, rfl, rfl⟩
theorem f_X10_32 : GF RX10 32 10 10 (.array .int) true true := ⟨_, _, _, _, ci_10, by decide, (wt 937 (by decide +kernel) rfl), by decide, rfl, rfl, rfl⟩
theorem f_X10_35 : GF RX10 35 10 11 (.array .int) true true := ⟨_, _, _, _, ci_10, by decide, (wt 938 (by decide +kernel) rfl), by decide, rfl, rfl, rfl⟩
theorem f_X10_38 : GF RX10 38 10 12 (.array .int) true true := ⟨_, _, _, _, ci_10, by decide, (wt 939 (by decide +kernel) rfl), by decide, rfl, rfl, rfl⟩
theorem f_X10_41 : GF RX10 41 10 13 (.array .int) true true := ⟨_, _, _, _, ci_10, by decide, (wt 940 (by decide +kernel) rfl), by decide, rfl, rfl, rfl⟩
theorem f_X10_44 : GF RX10 44 10 14 (.array .int) true true := ⟨_, _, _, _, ci_10, by decide, (wt 941 (by decide +kernel) rfl), by decide, rfl, rfl, rfl⟩
theorem f_X10_47 : GF RX10 47 10 15 (.array .int) true true := ⟨_, _, _, _, ci_10, by decide, (wt 942 (by decide +kernel) rfl), by decide, rfl, rfl, rfl⟩
theorem f_X10_50 : GF RX10 50 10 16 (.array .int) true true := ⟨_, _, _, _, ci_10, by decide, (wt 943 (by decide +kernel) rfl), by decide, rfl, rfl, rfl⟩
theorem f_X10_53 : GF RX10 53 10 17 (.array .int) true true := ⟨_, _, _, _, ci_10, by decide, (wt 944 (by decide +kernel) rfl), by decide, rfl, rfl, rfl⟩
theorem f_X10_56 : GF RX10 56 10 19 .int false false := ⟨_, _, _, _, ci_10, by decide, (wt 946 (by decide +kernel) rfl), by decide, rfl, rfl, rfl⟩
theorem f_X10_60 : GF RX10 60 10 21 (.array .int) true true := ⟨_, _, _, _, ci_10, by decide, (wt 948 (by decide +kernel) rfl), by decide, rfl, rfl, rfl⟩
theorem f_X10_63 : GF RX10 63 10 22 (.array .int) true true := ⟨_, _, _, _, ci_10, by decide, (wt 949 (by decide +kernel) rfl), by decide, rfl, rfl, rfl⟩
theorem f_X10_66 : GF RX10 66 10 23 (.array .int) true true := ⟨_, _, _, _, ci_10, by decide, (wt 950 (by decide +kernel) rfl), by decide, rfl, rfl, rfl⟩
theorem f_X10_69 : GF RX10 69 10 24 (.array .int) true true := ⟨_, _, _, _, ci_10, by decide, (wt 951 (by decide +kernel) rfl), by decide, rfl, rfl, rfl⟩
theorem f_X10_72 : GF RX10 72 10 25 (.array .int) true true := ⟨_, _, _, _, ci_10, by decide, (wt 952 (by decide +kernel) rfl), by decide, rfl, rfl, rfl⟩
theorem f_X10_75 : GF RX10 75 10 26 (.array .int) true true := ⟨_, _, _, _, ci_10, by decide, (wt 953 (by decide +kernel) rfl), by decide, rfl, rfl, rfl⟩
theorem f_X10_78 : GF RX10 78 10 27 (.array .int) true true := ⟨_, _, _, _, ci_10, by decide, (wt 954 (by decide +kernel) rfl), by decide, rfl, rfl, rfl⟩
theorem f_X10_81 : GF RX10 81 10 28 (.array .int) true true := ⟨_, _, _, _, ci_10, by decide, (wt 955 (by decide +kernel) rfl), by decide, rfl, rfl, rfl⟩
theorem f_X10_84 : GF RX10 84 10 32 (.array .int) true true := ⟨_, _, _, _, ci_10, by decide, (wt 959 (by decide +kernel) rfl), by decide, rfl, rfl, rfl⟩
theorem f_X10_87 : GF RX10 87 10 33 (.array .int) true true := ⟨_, _, _, _, ci_10, by decide, (wt 960 (by decide +kernel) rfl), by decide, rfl, rfl, rfl⟩
theorem f_X10_90 : GF RX10 90 10 34 (.array .int) true true := ⟨_, _, _, _, ci_10, by decide, (wt 961 (by decide +kernel) rfl), by decide, rfl, rfl, rfl⟩
theorem f_X10_93 : GF RX10 93 10 35 (.array .int) true true := ⟨_, _, _, _, ci_10, by decide, (wt 962 (by decide +kernel) rfl), by decide, rfl, rfl, rfl⟩
theorem f_X10_96 : GF RX10 96 10 37 (.array .int) true true := ⟨_, _, _, _, ci_10, by decide, (wt 964 (by decide +kernel) rfl), by decide, rfl, rfl, rfl⟩
theorem f_X10_99 : GF RX10 99 10 38 (.array .int) true true := ⟨_, _, _, _, ci_10, by decide, (wt 965 (by decide +kernel) rfl), by decide, rfl, rfl, rfl⟩
theorem f_X10_102 : GF RX10 102 10 40 (.array .int) true true := ⟨_, _, _, _, ci_10, by decide, (wt 967 (by decide +kernel) rfl), by decide, rfl, rfl, rfl⟩
theorem f_X10_105 : GF RX10 105 10 41 (.array .int) true true := ⟨_, _, _, _, ci_10, by decide, (wt 968 (by decide +kernel) rfl), by decide, rfl, rfl, rfl⟩
theorem f_X10_108 : GF RX10 108 10 42 (.array .int) true true := ⟨_, _, _, _, ci_10, by decide, (wt 969 (by decide +kernel) rfl), by decide, rfl, rfl, rfl⟩
theorem f_X10_111 : GF RX10 111 10 43 (.array .int) true true := ⟨_, _, _, _, ci_10, by decide, (wt 970 (by decide +kernel) rfl), by decide, rfl, rfl, rfl⟩
theorem f_X10_114 : GF RX10 114 10 45 (.array .int) true true := ⟨_, _, _, _, ci_10, by decide, (wt 972 (by decide +kernel) rfl), by decide, rfl, rfl, rfl⟩
theorem f_X10_117 : GF RX10 117 10 46 (.array .boolean) true true := ⟨_, _, _, _, ci_10, by decide, (wt 973 (by decide +kernel) rfl), by decide, rfl, rfl, rfl⟩
theorem f_X10_120 : GF RX10 120 10 47 (.array .int) true true := ⟨_, _, _, _, ci_10, by decide, (wt 974 (by decide +kernel) rfl), by decide, rfl, rfl, rfl⟩
theorem f_X10_123 : GF RX10 123 10 48 (.array .int) true true := ⟨_, _, _, _, ci_10, by decide, (wt 975 (by decide +kernel) rfl), by decide, rfl, rfl, rfl⟩
theorem f_X10_126 : GF RX10 126 10 2 .int false false := ⟨_, _, _, _, ci_10, by decide, (wt 929 (by decide +kernel) rfl), by decide, rfl, rfl, rfl⟩
theorem f_X10_129 : GF RX10 129 10 1 .int false false := ⟨_, _, _, _, ci_10, by decide, (wt 928 (by decide +kernel) rfl), by decide, rfl, rfl, rfl⟩
theorem f_X10_132 : GF RX10 132 10 18 .int false false := ⟨_, _, _, _, ci_10, by decide, (wt 945 (by decide +kernel) rfl), by decide, rfl, rfl, rfl⟩
theorem f_X10_135 : GF RX10 135 10 29 .int false false := ⟨_, _, _, _, ci_10, by decide, (wt 956 (by decide +kernel) rfl), by decide, rfl, rfl, rfl⟩
theorem f_X10_138 : GF RX10 138 10 30 .int false false := ⟨_, _, _, _, ci_10, by decide, (wt 957 (by decide +kernel) rfl), by decide, rfl, rfl, rfl⟩
theorem f_X10_141 : GF RX10 141 10 31 .int false false := ⟨_, _, _, _, ci_10, by decide, (wt 958 (by decide +kernel) rfl), by decide, rfl, rfl, rfl⟩
theorem f_X10_156 : GF RX10 156 10 36 .int false false := ⟨_, _, _, _, ci_10, by decide, (wt 963 (by decide +kernel) rfl), by decide, rfl, rfl, rfl⟩
theorem f_X10_173 : GF RX10 173 10 39 .int false false := ⟨_, _, _, _, ci_10, by decide, (wt 966 (by decide +kernel) rfl), by decide, rfl, rfl, rfl⟩
theorem f_X10_176 : GF RX10 176 10 3 .int false false := ⟨_, _, _, _, ci_10, by decide, (wt 930 (by decide +kernel) rfl), by decide, rfl, rfl, rfl⟩
theorem f_X10_189 : GF RX10 189 10 20 .int false false := ⟨_, _, _, _, ci_10, by decide, (wt 947 (by decide +kernel) rfl), by decide, rfl, rfl, rfl⟩
theorem f_X10_192 : GF RX10 192 10 44 .int false false := ⟨_, _, _, _, ci_10, by decide, (wt 971 (by decide +kernel) rfl), by decide, rfl, rfl, rfl⟩
theorem f_X2_9 : GF RX2 9 2 0 .int false false := ⟨_, _, _, _, ci_2, by decide, (wt 317 (by decide +kernel) rfl), by decide, rfl, rfl, rfl⟩
theorem f_X2_15 : GF RX2 15 2 1 .int false false := ⟨_, _, _, _, ci_2, by decide, (wt 320 (by decide +kernel) rfl), by decide, rfl, rfl, rfl⟩
theorem f_X2_20 : GF RX2 20 2 2 (.array (.object "NameDesk$Word")) true true := ⟨_, _, _, _, ci_2, by decide, (wt 323 (by decide +kernel) rfl), by decide, rfl, rfl, rfl⟩
theorem f_X2_24 : GF RX2 24 2 3 .boolean false false := ⟨_, _, _, _, ci_2, by decide, (wt 326 (by decide +kernel) rfl), by decide, rfl, rfl, rfl⟩
theorem f_X2_28 : GF RX2 28 2 4 .boolean false false := ⟨_, _, _, _, ci_2, by decide, (wt 328 (by decide +kernel) rfl), by decide, rfl, rfl, rfl⟩
theorem f_X2_31 : GF RX2 31 2 5 (.array .int) true true := ⟨_, _, _, _, ci_2, by decide, (wt 330 (by decide +kernel) rfl), by decide, rfl, rfl, rfl⟩
theorem f_X2_35 : GF RX2 35 2 6 (.array .int) true true := ⟨_, _, _, _, ci_2, by decide, (wt 332 (by decide +kernel) rfl), by decide, rfl, rfl, rfl⟩
theorem f_X2_38 : GF RX2 38 2 7 .int false false := ⟨_, _, _, _, ci_2, by decide, (wt 334 (by decide +kernel) rfl), by decide, rfl, rfl, rfl⟩
theorem f_X2_41 : GF RX2 41 2 8 .boolean false false := ⟨_, _, _, _, ci_2, by decide, (wt 336 (by decide +kernel) rfl), by decide, rfl, rfl, rfl⟩
theorem f_X2_47 : GF RX2 47 2 9 (.object "NameDesk$Line") true true := ⟨_, _, _, _, ci_2, by decide, (wt 338 (by decide +kernel) rfl), by decide, rfl, rfl, rfl⟩
theorem f_X3_12 : GF RX3 12 3 0 (.object "NameDesk$Shape") true false := ⟨_, _, _, _, ci_3, by decide, (wt 255 (by decide +kernel) rfl), by decide, rfl, rfl, rfl⟩
theorem f_X3_18 : GF RX3 18 3 1 .int false false := ⟨_, _, _, _, ci_3, by decide, (wt 256 (by decide +kernel) rfl), by decide, rfl, rfl, rfl⟩
theorem f_X3_24 : GF RX3 24 3 2 (.array (.array .int)) true true := ⟨_, _, _, _, ci_3, by decide, (wt 257 (by decide +kernel) rfl), by decide, rfl, rfl, rfl⟩
theorem f_X3_27 : GF RX3 27 3 3 (.array (.array .int)) true true := ⟨_, _, _, _, ci_3, by decide, (wt 258 (by decide +kernel) rfl), by decide, rfl, rfl, rfl⟩
theorem f_X3_30 : GF RX3 30 3 4 (.array .long) true false := ⟨_, _, _, _, ci_3, by decide, (wt 259 (by decide +kernel) rfl), by decide, rfl, rfl, rfl⟩
theorem f_X3_34 : GF RX3 34 3 5 (.array .long) true false := ⟨_, _, _, _, ci_3, by decide, (wt 260 (by decide +kernel) rfl), by decide, rfl, rfl, rfl⟩
theorem f_X3_37 : GF RX3 37 3 6 .int false false := ⟨_, _, _, _, ci_3, by decide, (wt 261 (by decide +kernel) rfl), by decide, rfl, rfl, rfl⟩
theorem f_X3_40 : GF RX3 40 3 7 (.array .int) true true := ⟨_, _, _, _, ci_3, by decide, (wt 262 (by decide +kernel) rfl), by decide, rfl, rfl, rfl⟩
theorem f_X3_44 : GF RX3 44 2 1 .int false false := ⟨_, _, _, _, ci_2, by decide, (wt 321 (by decide +kernel) rfl), by decide, rfl, rfl, rfl⟩
theorem f_X3_53 : GF RX3 53 2 2 (.array (.object "NameDesk$Word")) true true := ⟨_, _, _, _, ci_2, by decide, (wt 324 (by decide +kernel) rfl), by decide, rfl, rfl, rfl⟩
theorem f_X3_57 : GF RX3 57 2 0 .int false false := ⟨_, _, _, _, ci_2, by decide, (wt 318 (by decide +kernel) rfl), by decide, rfl, rfl, rfl⟩
theorem f_X3_64 : GF RX3 64 4 0 .int false false := ⟨_, _, _, _, ci_4, by decide, (wt 132 (by decide +kernel) rfl), by decide, rfl, rfl, rfl⟩
theorem f_X3_67 : GF RX3 67 4 1 (.array .int) true true := ⟨_, _, _, _, ci_4, by decide, (wt 136 (by decide +kernel) rfl), by decide, rfl, rfl, rfl⟩
theorem f_X3_70 : GF RX3 70 4 5 (.array .int) true true := ⟨_, _, _, _, ci_4, by decide, (wt 145 (by decide +kernel) rfl), by decide, rfl, rfl, rfl⟩
theorem f_X3_76 : GF RX3 76 8 3 .int false false := ⟨_, _, _, _, ci_8, by decide, (wt 214 (by decide +kernel) rfl), by decide, rfl, rfl, rfl⟩
theorem f_X3_91 : GF RX3 91 4 12 .int false false := ⟨_, _, _, _, ci_4, by decide, (wt 162 (by decide +kernel) rfl), by decide, rfl, rfl, rfl⟩
theorem f_X3_94 : GF RX3 94 4 4 .int false false := ⟨_, _, _, _, ci_4, by decide, (wt 143 (by decide +kernel) rfl), by decide, rfl, rfl, rfl⟩
theorem f_X4_9 : GF RX4 9 4 0 .int false false := ⟨_, _, _, _, ci_4, by decide, (wt 131 (by decide +kernel) rfl), by decide, rfl, rfl, rfl⟩
theorem f_X4_15 : GF RX4 15 4 1 (.array .int) true true := ⟨_, _, _, _, ci_4, by decide, (wt 135 (by decide +kernel) rfl), by decide, rfl, rfl, rfl⟩
theorem f_X4_19 : GF RX4 19 4 2 (.array .boolean) true true := ⟨_, _, _, _, ci_4, by decide, (wt 138 (by decide +kernel) rfl), by decide, rfl, rfl, rfl⟩
theorem f_X4_23 : GF RX4 23 4 3 (.array .boolean) true true := ⟨_, _, _, _, ci_4, by decide, (wt 140 (by decide +kernel) rfl), by decide, rfl, rfl, rfl⟩
theorem f_X4_26 : GF RX4 26 4 4 .int false false := ⟨_, _, _, _, ci_4, by decide, (wt 142 (by decide +kernel) rfl), by decide, rfl, rfl, rfl⟩
theorem f_X4_29 : GF RX4 29 4 5 (.array .int) true true := ⟨_, _, _, _, ci_4, by decide, (wt 144 (by decide +kernel) rfl), by decide, rfl, rfl, rfl⟩
theorem f_X4_32 : GF RX4 32 4 6 (.array .int) true true := ⟨_, _, _, _, ci_4, by decide, (wt 146 (by decide +kernel) rfl), by decide, rfl, rfl, rfl⟩
theorem f_X4_35 : GF RX4 35 4 7 (.array .int) true true := ⟨_, _, _, _, ci_4, by decide, (wt 147 (by decide +kernel) rfl), by decide, rfl, rfl, rfl⟩
theorem f_X4_38 : GF RX4 38 4 8 .int false false := ⟨_, _, _, _, ci_4, by decide, (wt 150 (by decide +kernel) rfl), by decide, rfl, rfl, rfl⟩
theorem f_X4_41 : GF RX4 41 4 9 (.array .int) true true := ⟨_, _, _, _, ci_4, by decide, (wt 153 (by decide +kernel) rfl), by decide, rfl, rfl, rfl⟩
theorem f_X4_44 : GF RX4 44 4 10 .int false false := ⟨_, _, _, _, ci_4, by decide, (wt 156 (by decide +kernel) rfl), by decide, rfl, rfl, rfl⟩
theorem f_X4_47 : GF RX4 47 4 11 (.array .byte) true true := ⟨_, _, _, _, ci_4, by decide, (wt 159 (by decide +kernel) rfl), by decide, rfl, rfl, rfl⟩
theorem f_X4_51 : GF RX4 51 4 12 .int false false := ⟨_, _, _, _, ci_4, by decide, (wt 161 (by decide +kernel) rfl), by decide, rfl, rfl, rfl⟩
theorem f_X4_58 : GF RX4 58 8 3 .int false false := ⟨_, _, _, _, ci_8, by decide, (wt 216 (by decide +kernel) rfl), by decide, rfl, rfl, rfl⟩
theorem f_X5_9 : GF RX5 9 5 0 (.array .byte) true false := ⟨_, _, _, _, ci_5, by decide, (wt 108 (by decide +kernel) rfl), by decide, rfl, rfl, rfl⟩
theorem f_X5_15 : GF RX5 15 5 1 .int false false := ⟨_, _, _, _, ci_5, by decide, (wt 109 (by decide +kernel) rfl), by decide, rfl, rfl, rfl⟩
theorem f_X5_19 : GF RX5 19 5 2 .int false false := ⟨_, _, _, _, ci_5, by decide, (wt 110 (by decide +kernel) rfl), by decide, rfl, rfl, rfl⟩
theorem f_X5_22 : GF RX5 22 5 3 .int false false := ⟨_, _, _, _, ci_5, by decide, (wt 111 (by decide +kernel) rfl), by decide, rfl, rfl, rfl⟩
theorem f_X5_25 : GF RX5 25 5 4 .int false false := ⟨_, _, _, _, ci_5, by decide, (wt 113 (by decide +kernel) rfl), by decide, rfl, rfl, rfl⟩
theorem f_X5_38 : GF RX5 38 4 7 (.array .int) true true := ⟨_, _, _, _, ci_4, by decide, (wt 148 (by decide +kernel) rfl), by decide, rfl, rfl, rfl⟩
theorem f_X5_48 : GF RX5 48 4 8 .int false false := ⟨_, _, _, _, ci_4, by decide, (wt 151 (by decide +kernel) rfl), by decide, rfl, rfl, rfl⟩
theorem f_X5_51 : GF RX5 51 4 9 (.array .int) true true := ⟨_, _, _, _, ci_4, by decide, (wt 154 (by decide +kernel) rfl), by decide, rfl, rfl, rfl⟩
theorem f_X5_54 : GF RX5 54 4 10 .int false false := ⟨_, _, _, _, ci_4, by decide, (wt 157 (by decide +kernel) rfl), by decide, rfl, rfl, rfl⟩
theorem f_X5_83 : GF RX5 83 4 0 .int false false := ⟨_, _, _, _, ci_4, by decide, (wt 134 (by decide +kernel) rfl), by decide, rfl, rfl, rfl⟩
theorem f_X5_89 : GF RX5 89 4 1 (.array .int) true true := ⟨_, _, _, _, ci_4, by decide, (wt 137 (by decide +kernel) rfl), by decide, rfl, rfl, rfl⟩
theorem f_X5_92 : GF RX5 92 4 2 (.array .boolean) true true := ⟨_, _, _, _, ci_4, by decide, (wt 139 (by decide +kernel) rfl), by decide, rfl, rfl, rfl⟩
theorem f_X5_96 : GF RX5 96 4 3 (.array .boolean) true true := ⟨_, _, _, _, ci_4, by decide, (wt 141 (by decide +kernel) rfl), by decide, rfl, rfl, rfl⟩
theorem f_X5_99 : GF RX5 99 4 12 .int false false := ⟨_, _, _, _, ci_4, by decide, (wt 163 (by decide +kernel) rfl), by decide, rfl, rfl, rfl⟩
theorem f_X5_105 : GF RX5 105 4 11 (.array .byte) true true := ⟨_, _, _, _, ci_4, by decide, (wt 160 (by decide +kernel) rfl), by decide, rfl, rfl, rfl⟩
theorem f_X6_9 : GF RX6 9 6 0 (.array .byte) true true := ⟨_, _, _, _, ci_6, by decide, (wt 287 (by decide +kernel) rfl), by decide, rfl, rfl, rfl⟩
theorem f_X6_15 : GF RX6 15 6 1 (.array .int) true true := ⟨_, _, _, _, ci_6, by decide, (wt 288 (by decide +kernel) rfl), by decide, rfl, rfl, rfl⟩
theorem f_X6_29 : GF RX6 29 8 3 .int false false := ⟨_, _, _, _, ci_8, by decide, (wt 215 (by decide +kernel) rfl), by decide, rfl, rfl, rfl⟩
theorem f_X6_35 : GF RX6 35 8 2 (.array .byte) true true := ⟨_, _, _, _, ci_8, by decide, (wt 211 (by decide +kernel) rfl), by decide, rfl, rfl, rfl⟩
theorem f_X7_9 : GF RX7 9 7 0 (.array .byte) true true := ⟨_, _, _, _, ci_7, by decide, (wt 90 (by decide +kernel) rfl), by decide, rfl, rfl, rfl⟩
theorem f_X7_15 : GF RX7 15 7 1 .int false false := ⟨_, _, _, _, ci_7, by decide, (wt 92 (by decide +kernel) rfl), by decide, rfl, rfl, rfl⟩
theorem f_X8_9 : GF RX8 9 8 0 (.array .byte) true true := ⟨_, _, _, _, ci_8, by decide, (wt 206 (by decide +kernel) rfl), by decide, rfl, rfl, rfl⟩
theorem f_X8_15 : GF RX8 15 8 1 .int false false := ⟨_, _, _, _, ci_8, by decide, (wt 208 (by decide +kernel) rfl), by decide, rfl, rfl, rfl⟩
theorem f_X8_19 : GF RX8 19 8 2 (.array .byte) true true := ⟨_, _, _, _, ci_8, by decide, (wt 210 (by decide +kernel) rfl), by decide, rfl, rfl, rfl⟩
theorem f_X8_22 : GF RX8 22 8 3 .int false false := ⟨_, _, _, _, ci_8, by decide, (wt 213 (by decide +kernel) rfl), by decide, rfl, rfl, rfl⟩
theorem f_X9_12 : GF RX9 12 9 0 (.object "NameDesk$Tape") true true := ⟨_, _, _, _, ci_9, by decide, (wt 361 (by decide +kernel) rfl), by decide, rfl, rfl, rfl⟩
theorem f_X9_18 : GF RX9 18 9 1 (.array (.object "NameDesk$Shape")) true true := ⟨_, _, _, _, ci_9, by decide, (wt 362 (by decide +kernel) rfl), by decide, rfl, rfl, rfl⟩
theorem f_X9_25 : GF RX9 25 9 2 (.object "NameDesk$ShapeText") true true := ⟨_, _, _, _, ci_9, by decide, (wt 363 (by decide +kernel) rfl), by decide, rfl, rfl, rfl⟩
theorem f_X9_30 : GF RX9 30 9 3 (.object "NameDesk$Shape") true false := ⟨_, _, _, _, ci_9, by decide, (wt 364 (by decide +kernel) rfl), by decide, rfl, rfl, rfl⟩
theorem f_X9_37 : GF RX9 37 9 4 (.object "NameDesk$Book") true true := ⟨_, _, _, _, ci_9, by decide, (wt 365 (by decide +kernel) rfl), by decide, rfl, rfl, rfl⟩
theorem f_X9_44 : GF RX9 44 9 5 (.object "NameDesk$Word") true true := ⟨_, _, _, _, ci_9, by decide, (wt 366 (by decide +kernel) rfl), by decide, rfl, rfl, rfl⟩
theorem f_X9_50 : GF RX9 50 9 6 (.array (.object "NameDesk$Name")) true true := ⟨_, _, _, _, ci_9, by decide, (wt 367 (by decide +kernel) rfl), by decide, rfl, rfl, rfl⟩
theorem f_X9_54 : GF RX9 54 9 7 .int false false := ⟨_, _, _, _, ci_9, by decide, (wt 368 (by decide +kernel) rfl), by decide, rfl, rfl, rfl⟩
theorem f_X9_61 : GF RX9 61 9 8 (.object "NameDesk$Reader") true true := ⟨_, _, _, _, ci_9, by decide, (wt 369 (by decide +kernel) rfl), by decide, rfl, rfl, rfl⟩
theorem f_X9_65 : GF RX9 65 9 9 .int false false := ⟨_, _, _, _, ci_9, by decide, (wt 370 (by decide +kernel) rfl), by decide, rfl, rfl, rfl⟩
theorem f_X9_68 : GF RX9 68 9 10 (.array .int) true true := ⟨_, _, _, _, ci_9, by decide, (wt 371 (by decide +kernel) rfl), by decide, rfl, rfl, rfl⟩
theorem f_X9_72 : GF RX9 72 9 11 .boolean false false := ⟨_, _, _, _, ci_9, by decide, (wt 372 (by decide +kernel) rfl), by decide, rfl, rfl, rfl⟩
theorem f_X9_79 : GF RX9 79 9 12 (.object "NameDesk$Table") true true := ⟨_, _, _, _, ci_9, by decide, (wt 373 (by decide +kernel) rfl), by decide, rfl, rfl, rfl⟩
theorem f_X9_86 : GF RX9 86 9 13 (.object "NameDesk$Line") true true := ⟨_, _, _, _, ci_9, by decide, (wt 374 (by decide +kernel) rfl), by decide, rfl, rfl, rfl⟩
theorem f_X9_90 : GF RX9 90 9 14 (.array .int) true true := ⟨_, _, _, _, ci_9, by decide, (wt 375 (by decide +kernel) rfl), by decide, rfl, rfl, rfl⟩
theorem f_X9_94 : GF RX9 94 7 1 .int false false := ⟨_, _, _, _, ci_7, by decide, (wt 93 (by decide +kernel) rfl), by decide, rfl, rfl, rfl⟩
theorem f_X9_108 : GF RX9 108 7 0 (.array .byte) true true := ⟨_, _, _, _, ci_7, by decide, (wt 91 (by decide +kernel) rfl), by decide, rfl, rfl, rfl⟩
theorem f_X9_119 : GF RX9 119 4 0 .int false false := ⟨_, _, _, _, ci_4, by decide, (wt 133 (by decide +kernel) rfl), by decide, rfl, rfl, rfl⟩
theorem f_X9_122 : GF RX9 122 5 3 .int false false := ⟨_, _, _, _, ci_5, by decide, (wt 112 (by decide +kernel) rfl), by decide, rfl, rfl, rfl⟩
theorem f_X9_125 : GF RX9 125 5 4 .int false false := ⟨_, _, _, _, ci_5, by decide, (wt 114 (by decide +kernel) rfl), by decide, rfl, rfl, rfl⟩
theorem f_X9_132 : GF RX9 132 0 3 .int false false := ⟨_, _, _, _, ci_0, by decide, (wt 231 (by decide +kernel) rfl), by decide, rfl, rfl, rfl⟩
theorem f_X9_147 : GF RX9 147 2 0 .int false false := ⟨_, _, _, _, ci_2, by decide, (wt 319 (by decide +kernel) rfl), by decide, rfl, rfl, rfl⟩
theorem f_X9_150 : GF RX9 150 2 3 .boolean false false := ⟨_, _, _, _, ci_2, by decide, (wt 327 (by decide +kernel) rfl), by decide, rfl, rfl, rfl⟩
theorem f_X9_153 : GF RX9 153 2 8 .boolean false false := ⟨_, _, _, _, ci_2, by decide, (wt 337 (by decide +kernel) rfl), by decide, rfl, rfl, rfl⟩
theorem f_X9_180 : GF RX9 180 2 1 .int false false := ⟨_, _, _, _, ci_2, by decide, (wt 322 (by decide +kernel) rfl), by decide, rfl, rfl, rfl⟩
theorem f_X9_191 : GF RX9 191 2 7 .int false false := ⟨_, _, _, _, ci_2, by decide, (wt 335 (by decide +kernel) rfl), by decide, rfl, rfl, rfl⟩
theorem f_X9_198 : GF RX9 198 1 1 .int false false := ⟨_, _, _, _, ci_1, by decide, (wt 302 (by decide +kernel) rfl), by decide, rfl, rfl, rfl⟩
theorem f_X9_207 : GF RX9 207 2 4 .boolean false false := ⟨_, _, _, _, ci_2, by decide, (wt 329 (by decide +kernel) rfl), by decide, rfl, rfl, rfl⟩
theorem f_X9_220 : GF RX9 220 2 2 (.array (.object "NameDesk$Word")) true true := ⟨_, _, _, _, ci_2, by decide, (wt 325 (by decide +kernel) rfl), by decide, rfl, rfl, rfl⟩
theorem f_X9_258 : GF RX9 258 2 5 (.array .int) true true := ⟨_, _, _, _, ci_2, by decide, (wt 331 (by decide +kernel) rfl), by decide, rfl, rfl, rfl⟩
theorem f_X9_265 : GF RX9 265 4 7 (.array .int) true true := ⟨_, _, _, _, ci_4, by decide, (wt 149 (by decide +kernel) rfl), by decide, rfl, rfl, rfl⟩
theorem f_X9_268 : GF RX9 268 4 8 .int false false := ⟨_, _, _, _, ci_4, by decide, (wt 152 (by decide +kernel) rfl), by decide, rfl, rfl, rfl⟩
theorem f_X9_271 : GF RX9 271 2 6 (.array .int) true true := ⟨_, _, _, _, ci_2, by decide, (wt 333 (by decide +kernel) rfl), by decide, rfl, rfl, rfl⟩
theorem f_X9_281 : GF RX9 281 8 2 (.array .byte) true true := ⟨_, _, _, _, ci_8, by decide, (wt 212 (by decide +kernel) rfl), by decide, rfl, rfl, rfl⟩
theorem f_X9_284 : GF RX9 284 8 3 .int false false := ⟨_, _, _, _, ci_8, by decide, (wt 217 (by decide +kernel) rfl), by decide, rfl, rfl, rfl⟩
theorem f_X9_291 : GF RX9 291 4 9 (.array .int) true true := ⟨_, _, _, _, ci_4, by decide, (wt 155 (by decide +kernel) rfl), by decide, rfl, rfl, rfl⟩
theorem f_X9_294 : GF RX9 294 4 10 .int false false := ⟨_, _, _, _, ci_4, by decide, (wt 158 (by decide +kernel) rfl), by decide, rfl, rfl, rfl⟩
theorem f_X9_297 : GF RX9 297 8 0 (.array .byte) true true := ⟨_, _, _, _, ci_8, by decide, (wt 207 (by decide +kernel) rfl), by decide, rfl, rfl, rfl⟩
theorem f_X9_300 : GF RX9 300 8 1 .int false false := ⟨_, _, _, _, ci_8, by decide, (wt 209 (by decide +kernel) rfl), by decide, rfl, rfl, rfl⟩
theorem f_X9_303 : GF RX9 303 2 9 (.object "NameDesk$Line") true true := ⟨_, _, _, _, ci_2, by decide, (wt 339 (by decide +kernel) rfl), by decide, rfl, rfl, rfl⟩
theorem nc_L_8 : NC RL 8 9 15 := ⟨_, _, _, ci_9, (wt 76 (by decide +kernel) rfl), (wt 77 (by decide +kernel) rfl), (wt 54 (by decide +kernel) rfl), by decide +kernel⟩
theorem nc_L_18 : NC RL 18 10 49 := ⟨_, _, _, ci_10, (wt 921 (by decide +kernel) rfl), (wt 922 (by decide +kernel) rfl), (wt 64 (by decide +kernel) rfl), by decide +kernel⟩
theorem nc_X0_9 : NC RX0 9 8 4 := ⟨_, _, _, ci_8, (wt 199 (by decide +kernel) rfl), (wt 201 (by decide +kernel) rfl), (wt 59 (by decide +kernel) rfl), by decide +kernel⟩
theorem nc_X2_18 : NC RX2 18 8 4 := ⟨_, _, _, ci_8, (wt 313 (by decide +kernel) rfl), (wt 201 (by decide +kernel) rfl), (wt 59 (by decide +kernel) rfl), by decide +kernel⟩
theorem nc_X2_44 : NC RX2 44 1 2 := ⟨_, _, _, ci_1, (wt 314 (by decide +kernel) rfl), (wt 295 (by decide +kernel) rfl), (wt 62 (by decide +kernel) rfl), by decide +kernel⟩
theorem nc_X3_9 : NC RX3 9 4 13 := ⟨_, _, _, ci_4, (wt 251 (by decide +kernel) rfl), (wt 126 (by decide +kernel) rfl), (wt 57 (by decide +kernel) rfl), by decide +kernel⟩
theorem nc_X9_9 : NC RX9 9 7 2 := ⟨_, _, _, ci_7, (wt 84 (by decide +kernel) rfl), (wt 85 (by decide +kernel) rfl), (wt 55 (by decide +kernel) rfl), by decide +kernel⟩
theorem nc_X9_16 : NC RX9 16 4 13 := ⟨_, _, _, ci_4, (wt 100 (by decide +kernel) rfl), (wt 126 (by decide +kernel) rfl), (wt 57 (by decide +kernel) rfl), by decide +kernel⟩
theorem nc_X9_22 : NC RX9 22 5 5 := ⟨_, _, _, ci_5, (wt 102 (by decide +kernel) rfl), (wt 103 (by decide +kernel) rfl), (wt 56 (by decide +kernel) rfl), by decide +kernel⟩
theorem nc_X9_34 : NC RX9 34 0 4 := ⟨_, _, _, ci_0, (wt 193 (by decide +kernel) rfl), (wt 194 (by decide +kernel) rfl), (wt 58 (by decide +kernel) rfl), by decide +kernel⟩
theorem nc_X9_41 : NC RX9 41 8 4 := ⟨_, _, _, ci_8, (wt 241 (by decide +kernel) rfl), (wt 201 (by decide +kernel) rfl), (wt 59 (by decide +kernel) rfl), by decide +kernel⟩
theorem nc_X9_48 : NC RX9 48 2 10 := ⟨_, _, _, ci_2, (wt 243 (by decide +kernel) rfl), (wt 308 (by decide +kernel) rfl), (wt 63 (by decide +kernel) rfl), by decide +kernel⟩
theorem nc_X9_58 : NC RX9 58 3 8 := ⟨_, _, _, ci_3, (wt 245 (by decide +kernel) rfl), (wt 246 (by decide +kernel) rfl), (wt 60 (by decide +kernel) rfl), by decide +kernel⟩
theorem nc_X9_76 : NC RX9 76 6 2 := ⟨_, _, _, ci_6, (wt 281 (by decide +kernel) rfl), (wt 282 (by decide +kernel) rfl), (wt 61 (by decide +kernel) rfl), by decide +kernel⟩
theorem nc_X9_83 : NC RX9 83 1 2 := ⟨_, _, _, ci_1, (wt 294 (by decide +kernel) rfl), (wt 295 (by decide +kernel) rfl), (wt 62 (by decide +kernel) rfl), by decide +kernel⟩
theorem cl_X0_9 : Cond.classLink RX0 9 RX8 ∈ wtab := (wt 199 (by decide +kernel) rfl)
theorem cl_X2_18 : Cond.classLink RX2 18 RX8 ∈ wtab := (wt 313 (by decide +kernel) rfl)
theorem cl_X9_16 : Cond.classLink RX9 16 RX4 ∈ wtab := (wt 100 (by decide +kernel) rfl)
theorem cl_X9_48 : Cond.classLink RX9 48 RX2 ∈ wtab := (wt 243 (by decide +kernel) rfl)
theorem ac_byte : Cond.arrayClass .byte ∈ wtab := (wt 99 (by decide +kernel) rfl)
theorem ac_int : Cond.arrayClass .int ∈ wtab := (wt 191 (by decide +kernel) rfl)
theorem ac_long : Cond.arrayClass .long ∈ wtab := (wt 280 (by decide +kernel) rfl)
theorem ac_boolean : Cond.arrayClass .boolean ∈ wtab := (wt 192 (by decide +kernel) rfl)
theorem kl_107 : Cond.constantLong RX3 107 16777215 ∈ wtab := (wt 672 (by decide +kernel) rfl)
theorem mo_X0_add : MO M_X0_add 3 := ⟨wt 600 (by decide +kernel) rfl, (wt 58 (by decide +kernel) rfl), by decide +kernel, by decide +kernel, by decide +kernel⟩
theorem mo_X0_find : MO M_X0_find 3 := ⟨wt 588 (by decide +kernel) rfl, (wt 58 (by decide +kernel) rfl), by decide +kernel, by decide +kernel, by decide +kernel⟩
theorem mo_X0_init : MO M_X0_init 0 := ⟨wt 197 (by decide +kernel) rfl, (wt 58 (by decide +kernel) rfl), by decide +kernel, by decide +kernel, by decide +kernel⟩
theorem mo_X0_kindsOf : MO M_X0_kindsOf 3 := ⟨wt 646 (by decide +kernel) rfl, (wt 58 (by decide +kernel) rfl), by decide +kernel, by decide +kernel, by decide +kernel⟩
theorem mo_X0_remove : MO M_X0_remove 1 := ⟨wt 612 (by decide +kernel) rfl, (wt 58 (by decide +kernel) rfl), by decide +kernel, by decide +kernel, by decide +kernel⟩
theorem mo_X10_agree : MO M_X10_agree 2 := ⟨wt 1235 (by decide +kernel) rfl, (wt 64 (by decide +kernel) rfl), by decide +kernel, by decide +kernel, by decide +kernel⟩
theorem mo_X10_ahead : MO M_X10_ahead 2 := ⟨wt 1211 (by decide +kernel) rfl, (wt 64 (by decide +kernel) rfl), by decide +kernel, by decide +kernel, by decide +kernel⟩
theorem mo_X10_alike : MO M_X10_alike 2 := ⟨wt 1255 (by decide +kernel) rfl, (wt 64 (by decide +kernel) rfl), by decide +kernel, by decide +kernel, by decide +kernel⟩
theorem mo_X10_compare : MO M_X10_compare 2 := ⟨wt 1215 (by decide +kernel) rfl, (wt 64 (by decide +kernel) rfl), by decide +kernel, by decide +kernel, by decide +kernel⟩
theorem mo_X10_cost : MO M_X10_cost 2 := ⟨wt 1167 (by decide +kernel) rfl, (wt 64 (by decide +kernel) rfl), by decide +kernel, by decide +kernel, by decide +kernel⟩
theorem mo_X10_costOf : MO M_X10_costOf 3 := ⟨wt 1155 (by decide +kernel) rfl, (wt 64 (by decide +kernel) rfl), by decide +kernel, by decide +kernel, by decide +kernel⟩
theorem mo_X10_count : MO M_X10_count 1 := ⟨wt 1263 (by decide +kernel) rfl, (wt 64 (by decide +kernel) rfl), by decide +kernel, by decide +kernel, by decide +kernel⟩
theorem mo_X10_endingRead : MO M_X10_endingRead 0 := ⟨wt 1109 (by decide +kernel) rfl, (wt 64 (by decide +kernel) rfl), by decide +kernel, by decide +kernel, by decide +kernel⟩
theorem mo_X10_entry : MO M_X10_entry 5 := ⟨wt 1131 (by decide +kernel) rfl, (wt 64 (by decide +kernel) rfl), by decide +kernel, by decide +kernel, by decide +kernel⟩
theorem mo_X10_fails : MO M_X10_fails 1 := ⟨wt 1187 (by decide +kernel) rfl, (wt 64 (by decide +kernel) rfl), by decide +kernel, by decide +kernel, by decide +kernel⟩
theorem mo_X10_fallen : MO M_X10_fallen 0 := ⟨wt 1251 (by decide +kernel) rfl, (wt 64 (by decide +kernel) rfl), by decide +kernel, by decide +kernel, by decide +kernel⟩
theorem mo_X10_father : MO M_X10_father 2 := ⟨wt 1243 (by decide +kernel) rfl, (wt 64 (by decide +kernel) rfl), by decide +kernel, by decide +kernel, by decide +kernel⟩
theorem mo_X10_fault : MO M_X10_fault 1 := ⟨wt 1113 (by decide +kernel) rfl, (wt 64 (by decide +kernel) rfl), by decide +kernel, by decide +kernel, by decide +kernel⟩
theorem mo_X10_feed : MO M_X10_feed 5 := ⟨wt 1082 (by decide +kernel) rfl, (wt 64 (by decide +kernel) rfl), by decide +kernel, by decide +kernel, by decide +kernel⟩
theorem mo_X10_fill : MO M_X10_fill 1 := ⟨wt 1151 (by decide +kernel) rfl, (wt 64 (by decide +kernel) rfl), by decide +kernel, by decide +kernel, by decide +kernel⟩
theorem mo_X10_first : MO M_X10_first 1 := ⟨wt 1199 (by decide +kernel) rfl, (wt 64 (by decide +kernel) rfl), by decide +kernel, by decide +kernel, by decide +kernel⟩
theorem mo_X10_firstAll : MO M_X10_firstAll 0 := ⟨wt 1195 (by decide +kernel) rfl, (wt 64 (by decide +kernel) rfl), by decide +kernel, by decide +kernel, by decide +kernel⟩
theorem mo_X10_forget : MO M_X10_forget 3 := ⟨wt 1135 (by decide +kernel) rfl, (wt 64 (by decide +kernel) rfl), by decide +kernel, by decide +kernel, by decide +kernel⟩
theorem mo_X10_goes : MO M_X10_goes 3 := ⟨wt 1163 (by decide +kernel) rfl, (wt 64 (by decide +kernel) rfl), by decide +kernel, by decide +kernel, by decide +kernel⟩
theorem mo_X10_init : MO M_X10_init 0 := ⟨wt 925 (by decide +kernel) rfl, (wt 64 (by decide +kernel) rfl), by decide +kernel, by decide +kernel, by decide +kernel⟩
theorem mo_X10_isKept : MO M_X10_isKept 1 := ⟨wt 1120 (by decide +kernel) rfl, (wt 64 (by decide +kernel) rfl), by decide +kernel, by decide +kernel, by decide +kernel⟩
theorem mo_X10_isLetter : MO M_X10_isLetter 1 := ⟨wt 1127 (by decide +kernel) rfl, (wt 64 (by decide +kernel) rfl), by decide +kernel, by decide +kernel, by decide +kernel⟩
theorem mo_X10_isName : MO M_X10_isName 1 := ⟨wt 1147 (by decide +kernel) rfl, (wt 64 (by decide +kernel) rfl), by decide +kernel, by decide +kernel, by decide +kernel⟩
theorem mo_X10_isWord : MO M_X10_isWord 2 := ⟨wt 1124 (by decide +kernel) rfl, (wt 64 (by decide +kernel) rfl), by decide +kernel, by decide +kernel, by decide +kernel⟩
theorem mo_X10_kind : MO M_X10_kind 3 := ⟨wt 1175 (by decide +kernel) rfl, (wt 64 (by decide +kernel) rfl), by decide +kernel, by decide +kernel, by decide +kernel⟩
theorem mo_X10_kindIn : MO M_X10_kindIn 3 := ⟨wt 1179 (by decide +kernel) rfl, (wt 64 (by decide +kernel) rfl), by decide +kernel, by decide +kernel, by decide +kernel⟩
theorem mo_X10_kindOf : MO M_X10_kindOf 1 := ⟨wt 1097 (by decide +kernel) rfl, (wt 64 (by decide +kernel) rfl), by decide +kernel, by decide +kernel, by decide +kernel⟩
theorem mo_X10_know : MO M_X10_know 3 := ⟨wt 1117 (by decide +kernel) rfl, (wt 64 (by decide +kernel) rfl), by decide +kernel, by decide +kernel, by decide +kernel⟩
theorem mo_X10_lettersRead : MO M_X10_lettersRead 1 := ⟨wt 1105 (by decide +kernel) rfl, (wt 64 (by decide +kernel) rfl), by decide +kernel, by decide +kernel, by decide +kernel⟩
theorem mo_X10_look : MO M_X10_look 2 := ⟨wt 1183 (by decide +kernel) rfl, (wt 64 (by decide +kernel) rfl), by decide +kernel, by decide +kernel, by decide +kernel⟩
theorem mo_X10_name : MO M_X10_name 2 := ⟨wt 1139 (by decide +kernel) rfl, (wt 64 (by decide +kernel) rfl), by decide +kernel, by decide +kernel, by decide +kernel⟩
theorem mo_X10_order : MO M_X10_order 1 := ⟨wt 1223 (by decide +kernel) rfl, (wt 64 (by decide +kernel) rfl), by decide +kernel, by decide +kernel, by decide +kernel⟩
theorem mo_X10_orderAll : MO M_X10_orderAll 0 := ⟨wt 1191 (by decide +kernel) rfl, (wt 64 (by decide +kernel) rfl), by decide +kernel, by decide +kernel, by decide +kernel⟩
theorem mo_X10_over : MO M_X10_over 2 := ⟨wt 1231 (by decide +kernel) rfl, (wt 64 (by decide +kernel) rfl), by decide +kernel, by decide +kernel, by decide +kernel⟩
theorem mo_X10_overAlike : MO M_X10_overAlike 2 := ⟨wt 1259 (by decide +kernel) rfl, (wt 64 (by decide +kernel) rfl), by decide +kernel, by decide +kernel, by decide +kernel⟩
theorem mo_X10_pick : MO M_X10_pick 2 := ⟨wt 1203 (by decide +kernel) rfl, (wt 64 (by decide +kernel) rfl), by decide +kernel, by decide +kernel, by decide +kernel⟩
theorem mo_X10_placeOf : MO M_X10_placeOf 1 := ⟨wt 1207 (by decide +kernel) rfl, (wt 64 (by decide +kernel) rfl), by decide +kernel, by decide +kernel, by decide +kernel⟩
theorem mo_X10_reading : MO M_X10_reading 2 := ⟨wt 1171 (by decide +kernel) rfl, (wt 64 (by decide +kernel) rfl), by decide +kernel, by decide +kernel, by decide +kernel⟩
theorem mo_X10_readings : MO M_X10_readings 2 := ⟨wt 1143 (by decide +kernel) rfl, (wt 64 (by decide +kernel) rfl), by decide +kernel, by decide +kernel, by decide +kernel⟩
theorem mo_X10_see : MO M_X10_see 0 := ⟨wt 1094 (by decide +kernel) rfl, (wt 64 (by decide +kernel) rfl), by decide +kernel, by decide +kernel, by decide +kernel⟩
theorem mo_X10_shape : MO M_X10_shape 2 := ⟨wt 1086 (by decide +kernel) rfl, (wt 64 (by decide +kernel) rfl), by decide +kernel, by decide +kernel, by decide +kernel⟩
theorem mo_X10_sign : MO M_X10_sign 3 := ⟨wt 1227 (by decide +kernel) rfl, (wt 64 (by decide +kernel) rfl), by decide +kernel, by decide +kernel, by decide +kernel⟩
theorem mo_X10_signs : MO M_X10_signs 2 := ⟨wt 1219 (by decide +kernel) rfl, (wt 64 (by decide +kernel) rfl), by decide +kernel, by decide +kernel, by decide +kernel⟩
theorem mo_X10_slips : MO M_X10_slips 2 := ⟨wt 1159 (by decide +kernel) rfl, (wt 64 (by decide +kernel) rfl), by decide +kernel, by decide +kernel, by decide +kernel⟩
theorem mo_X10_slotsRead : MO M_X10_slotsRead 0 := ⟨wt 1090 (by decide +kernel) rfl, (wt 64 (by decide +kernel) rfl), by decide +kernel, by decide +kernel, by decide +kernel⟩
theorem mo_X10_table : MO M_X10_table 2 := ⟨wt 1247 (by decide +kernel) rfl, (wt 64 (by decide +kernel) rfl), by decide +kernel, by decide +kernel, by decide +kernel⟩
theorem mo_X10_thrown : MO M_X10_thrown 0 := ⟨wt 1078 (by decide +kernel) rfl, (wt 64 (by decide +kernel) rfl), by decide +kernel, by decide +kernel, by decide +kernel⟩
theorem mo_X10_wordOf : MO M_X10_wordOf 4 := ⟨wt 1239 (by decide +kernel) rfl, (wt 64 (by decide +kernel) rfl), by decide +kernel, by decide +kernel, by decide +kernel⟩
theorem mo_X10_wrong : MO M_X10_wrong 2 := ⟨wt 1101 (by decide +kernel) rfl, (wt 64 (by decide +kernel) rfl), by decide +kernel, by decide +kernel, by decide +kernel⟩
theorem mo_X1_add : MO M_X1_add 1 := ⟨wt 756 (by decide +kernel) rfl, (wt 62 (by decide +kernel) rfl), by decide +kernel, by decide +kernel, by decide +kernel⟩
theorem mo_X1_addWord : MO M_X1_addWord 3 := ⟨wt 760 (by decide +kernel) rfl, (wt 62 (by decide +kernel) rfl), by decide +kernel, by decide +kernel, by decide +kernel⟩
theorem mo_X1_alike : MO M_X1_alike 1 := ⟨wt 812 (by decide +kernel) rfl, (wt 62 (by decide +kernel) rfl), by decide +kernel, by decide +kernel, by decide +kernel⟩
theorem mo_X1_init : MO M_X1_init 0 := ⟨wt 298 (by decide +kernel) rfl, (wt 62 (by decide +kernel) rfl), by decide +kernel, by decide +kernel, by decide +kernel⟩
theorem mo_X1_signAt : MO M_X1_signAt 1 := ⟨wt 765 (by decide +kernel) rfl, (wt 62 (by decide +kernel) rfl), by decide +kernel, by decide +kernel, by decide +kernel⟩
theorem mo_X2_alikeFolded : MO M_X2_alikeFolded 1 := ⟨wt 816 (by decide +kernel) rfl, (wt 63 (by decide +kernel) rfl), by decide +kernel, by decide +kernel, by decide +kernel⟩
theorem mo_X2_choose : MO M_X2_choose 3 := ⟨wt 728 (by decide +kernel) rfl, (wt 63 (by decide +kernel) rfl), by decide +kernel, by decide +kernel, by decide +kernel⟩
theorem mo_X2_init : MO M_X2_init 0 := ⟨wt 311 (by decide +kernel) rfl, (wt 63 (by decide +kernel) rfl), by decide +kernel, by decide +kernel, by decide +kernel⟩
theorem mo_X2_isBefore : MO M_X2_isBefore 1 := ⟨wt 732 (by decide +kernel) rfl, (wt 63 (by decide +kernel) rfl), by decide +kernel, by decide +kernel, by decide +kernel⟩
theorem mo_X2_nextOf : MO M_X2_nextOf 2 := ⟨wt 776 (by decide +kernel) rfl, (wt 63 (by decide +kernel) rfl), by decide +kernel, by decide +kernel, by decide +kernel⟩
theorem mo_X2_take : MO M_X2_take 2 := ⟨wt 620 (by decide +kernel) rfl, (wt 63 (by decide +kernel) rfl), by decide +kernel, by decide +kernel, by decide +kernel⟩
theorem mo_X3_costIn : MO M_X3_costIn 1 := ⟨wt 683 (by decide +kernel) rfl, (wt 60 (by decide +kernel) rfl), by decide +kernel, by decide +kernel, by decide +kernel⟩
theorem mo_X3_costOfRow : MO M_X3_costOfRow 1 := ⟨wt 696 (by decide +kernel) rfl, (wt 60 (by decide +kernel) rfl), by decide +kernel, by decide +kernel, by decide +kernel⟩
theorem mo_X3_init : MO M_X3_init 0 := ⟨wt 249 (by decide +kernel) rfl, (wt 60 (by decide +kernel) rfl), by decide +kernel, by decide +kernel, by decide +kernel⟩
theorem mo_X3_isRow : MO M_X3_isRow 1 := ⟨wt 700 (by decide +kernel) rfl, (wt 60 (by decide +kernel) rfl), by decide +kernel, by decide +kernel, by decide +kernel⟩
theorem mo_X3_kindInRow : MO M_X3_kindInRow 2 := ⟨wt 708 (by decide +kernel) rfl, (wt 60 (by decide +kernel) rfl), by decide +kernel, by decide +kernel, by decide +kernel⟩
theorem mo_X3_leastFrom : MO M_X3_leastFrom 2 := ⟨wt 659 (by decide +kernel) rfl, (wt 60 (by decide +kernel) rfl), by decide +kernel, by decide +kernel, by decide +kernel⟩
theorem mo_X3_lengthenRows : MO M_X3_lengthenRows 1 := ⟨wt 667 (by decide +kernel) rfl, (wt 60 (by decide +kernel) rfl), by decide +kernel, by decide +kernel, by decide +kernel⟩
theorem mo_X3_listRows : MO M_X3_listRows 0 := ⟨wt 663 (by decide +kernel) rfl, (wt 60 (by decide +kernel) rfl), by decide +kernel, by decide +kernel, by decide +kernel⟩
theorem mo_X3_readFirst : MO M_X3_readFirst 1 := ⟨wt 724 (by decide +kernel) rfl, (wt 60 (by decide +kernel) rfl), by decide +kernel, by decide +kernel, by decide +kernel⟩
theorem mo_X3_rowsUpTo : MO M_X3_rowsUpTo 1 := ⟨wt 688 (by decide +kernel) rfl, (wt 60 (by decide +kernel) rfl), by decide +kernel, by decide +kernel, by decide +kernel⟩
theorem mo_X3_sortByCost : MO M_X3_sortByCost 0 := ⟨wt 680 (by decide +kernel) rfl, (wt 60 (by decide +kernel) rfl), by decide +kernel, by decide +kernel, by decide +kernel⟩
theorem mo_X3_swapRows : MO M_X3_swapRows 0 := ⟨wt 676 (by decide +kernel) rfl, (wt 60 (by decide +kernel) rfl), by decide +kernel, by decide +kernel, by decide +kernel⟩
theorem mo_X3_weigh : MO M_X3_weigh 3 := ⟨wt 637 (by decide +kernel) rfl, (wt 60 (by decide +kernel) rfl), by decide +kernel, by decide +kernel, by decide +kernel⟩
theorem mo_X3_weighWord : MO M_X3_weighWord 4 := ⟨wt 642 (by decide +kernel) rfl, (wt 60 (by decide +kernel) rfl), by decide +kernel, by decide +kernel, by decide +kernel⟩
theorem mo_X4_init : MO M_X4_init 0 := ⟨wt 129 (by decide +kernel) rfl, (wt 57 (by decide +kernel) rfl), by decide +kernel, by decide +kernel, by decide +kernel⟩
theorem mo_X4_isMade : MO M_X4_isMade 1 := ⟨wt 651 (by decide +kernel) rfl, (wt 57 (by decide +kernel) rfl), by decide +kernel, by decide +kernel, by decide +kernel⟩
theorem mo_X4_link : MO M_X4_link 0 := ⟨wt 552 (by decide +kernel) rfl, (wt 57 (by decide +kernel) rfl), by decide +kernel, by decide +kernel, by decide +kernel⟩
theorem mo_X4_makes : MO M_X4_makes 2 := ⟨wt 793 (by decide +kernel) rfl, (wt 57 (by decide +kernel) rfl), by decide +kernel, by decide +kernel, by decide +kernel⟩
theorem mo_X4_openBehind : MO M_X4_openBehind 2 := ⟨wt 671 (by decide +kernel) rfl, (wt 57 (by decide +kernel) rfl), by decide +kernel, by decide +kernel, by decide +kernel⟩
theorem mo_X4_openFrom : MO M_X4_openFrom 1 := ⟨wt 556 (by decide +kernel) rfl, (wt 57 (by decide +kernel) rfl), by decide +kernel, by decide +kernel, by decide +kernel⟩
theorem mo_X5_here : MO M_X5_here 0 := ⟨wt 444 (by decide +kernel) rfl, (wt 56 (by decide +kernel) rfl), by decide +kernel, by decide +kernel, by decide +kernel⟩
theorem mo_X5_init : MO M_X5_init 0 := ⟨wt 106 (by decide +kernel) rfl, (wt 56 (by decide +kernel) rfl), by decide +kernel, by decide +kernel, by decide +kernel⟩
theorem mo_X5_kindHere : MO M_X5_kindHere 0 := ⟨wt 440 (by decide +kernel) rfl, (wt 56 (by decide +kernel) rfl), by decide +kernel, by decide +kernel, by decide +kernel⟩
theorem mo_X5_pass : MO M_X5_pass 1 := ⟨wt 533 (by decide +kernel) rfl, (wt 56 (by decide +kernel) rfl), by decide +kernel, by decide +kernel, by decide +kernel⟩
theorem mo_X5_readEnding : MO M_X5_readEnding 1 := ⟨wt 545 (by decide +kernel) rfl, (wt 56 (by decide +kernel) rfl), by decide +kernel, by decide +kernel, by decide +kernel⟩
theorem mo_X5_readInto : MO M_X5_readInto 3 := ⟨wt 429 (by decide +kernel) rfl, (wt 56 (by decide +kernel) rfl), by decide +kernel, by decide +kernel, by decide +kernel⟩
theorem mo_X5_readLetters : MO M_X5_readLetters 1 := ⟨wt 541 (by decide +kernel) rfl, (wt 56 (by decide +kernel) rfl), by decide +kernel, by decide +kernel, by decide +kernel⟩
theorem mo_X5_readSlots : MO M_X5_readSlots 1 := ⟨wt 436 (by decide +kernel) rfl, (wt 56 (by decide +kernel) rfl), by decide +kernel, by decide +kernel, by decide +kernel⟩
theorem mo_X5_stopWith : MO M_X5_stopWith 1 := ⟨wt 537 (by decide +kernel) rfl, (wt 56 (by decide +kernel) rfl), by decide +kernel, by decide +kernel, by decide +kernel⟩
theorem mo_X6_change : MO M_X6_change 3 := ⟨wt 803 (by decide +kernel) rfl, (wt 61 (by decide +kernel) rfl), by decide +kernel, by decide +kernel, by decide +kernel⟩
theorem mo_X6_init : MO M_X6_init 0 := ⟨wt 285 (by decide +kernel) rfl, (wt 61 (by decide +kernel) rfl), by decide +kernel, by decide +kernel, by decide +kernel⟩
theorem mo_X6_putOver : MO M_X6_putOver 3 := ⟨wt 752 (by decide +kernel) rfl, (wt 61 (by decide +kernel) rfl), by decide +kernel, by decide +kernel, by decide +kernel⟩
theorem mo_X7_add : MO M_X7_add 1 := ⟨wt 414 (by decide +kernel) rfl, (wt 55 (by decide +kernel) rfl), by decide +kernel, by decide +kernel, by decide +kernel⟩
theorem mo_X7_holds : MO M_X7_holds 1 := ⟨wt 425 (by decide +kernel) rfl, (wt 55 (by decide +kernel) rfl), by decide +kernel, by decide +kernel, by decide +kernel⟩
theorem mo_X7_init : MO M_X7_init 0 := ⟨wt 88 (by decide +kernel) rfl, (wt 55 (by decide +kernel) rfl), by decide +kernel, by decide +kernel, by decide +kernel⟩
theorem mo_X8_alike : MO M_X8_alike 1 := ⟨wt 592 (by decide +kernel) rfl, (wt 59 (by decide +kernel) rfl), by decide +kernel, by decide +kernel, by decide +kernel⟩
theorem mo_X8_compareLetters : MO M_X8_compareLetters 1 := ⟨wt 736 (by decide +kernel) rfl, (wt 59 (by decide +kernel) rfl), by decide +kernel, by decide +kernel, by decide +kernel⟩
theorem mo_X8_copyLetters : MO M_X8_copyLetters 1 := ⟨wt 604 (by decide +kernel) rfl, (wt 59 (by decide +kernel) rfl), by decide +kernel, by decide +kernel, by decide +kernel⟩
theorem mo_X8_endsWith : MO M_X8_endsWith 2 := ⟨wt 655 (by decide +kernel) rfl, (wt 59 (by decide +kernel) rfl), by decide +kernel, by decide +kernel, by decide +kernel⟩
theorem mo_X8_fits : MO M_X8_fits 1 := ⟨wt 784 (by decide +kernel) rfl, (wt 59 (by decide +kernel) rfl), by decide +kernel, by decide +kernel, by decide +kernel⟩
theorem mo_X8_init : MO M_X8_init 0 := ⟨wt 204 (by decide +kernel) rfl, (wt 59 (by decide +kernel) rfl), by decide +kernel, by decide +kernel, by decide +kernel⟩
theorem mo_X8_isBeginning : MO M_X8_isBeginning 2 := ⟨wt 596 (by decide +kernel) rfl, (wt 59 (by decide +kernel) rfl), by decide +kernel, by decide +kernel, by decide +kernel⟩
theorem mo_X8_take : MO M_X8_take 3 := ⟨wt 576 (by decide +kernel) rfl, (wt 59 (by decide +kernel) rfl), by decide +kernel, by decide +kernel, by decide +kernel⟩
theorem mo_X8_takeSign : MO M_X8_takeSign 1 := ⟨wt 580 (by decide +kernel) rfl, (wt 59 (by decide +kernel) rfl), by decide +kernel, by decide +kernel, by decide +kernel⟩
theorem mo_X9_agree : MO M_X9_agree 2 := ⟨wt 769 (by decide +kernel) rfl, (wt 54 (by decide +kernel) rfl), by decide +kernel, by decide +kernel, by decide +kernel⟩
theorem mo_X9_cost : MO M_X9_cost 2 := ⟨wt 692 (by decide +kernel) rfl, (wt 54 (by decide +kernel) rfl), by decide +kernel, by decide +kernel, by decide +kernel⟩
theorem mo_X9_count : MO M_X9_count 1 := ⟨wt 821 (by decide +kernel) rfl, (wt 54 (by decide +kernel) rfl), by decide +kernel, by decide +kernel, by decide +kernel⟩
theorem mo_X9_fallen : MO M_X9_fallen 0 := ⟨wt 808 (by decide +kernel) rfl, (wt 54 (by decide +kernel) rfl), by decide +kernel, by decide +kernel, by decide +kernel⟩
theorem mo_X9_father : MO M_X9_father 2 := ⟨wt 789 (by decide +kernel) rfl, (wt 54 (by decide +kernel) rfl), by decide +kernel, by decide +kernel, by decide +kernel⟩
theorem mo_X9_fault : MO M_X9_fault 1 := ⟨wt 564 (by decide +kernel) rfl, (wt 54 (by decide +kernel) rfl), by decide +kernel, by decide +kernel, by decide +kernel⟩
theorem mo_X9_feed : MO M_X9_feed 5 := ⟨wt 410 (by decide +kernel) rfl, (wt 54 (by decide +kernel) rfl), by decide +kernel, by decide +kernel, by decide +kernel⟩
theorem mo_X9_fittingGiven : MO M_X9_fittingGiven 2 := ⟨wt 780 (by decide +kernel) rfl, (wt 54 (by decide +kernel) rfl), by decide +kernel, by decide +kernel, by decide +kernel⟩
theorem mo_X9_forget : MO M_X9_forget 3 := ⟨wt 608 (by decide +kernel) rfl, (wt 54 (by decide +kernel) rfl), by decide +kernel, by decide +kernel, by decide +kernel⟩
theorem mo_X9_freshName : MO M_X9_freshName 1 := ⟨wt 720 (by decide +kernel) rfl, (wt 54 (by decide +kernel) rfl), by decide +kernel, by decide +kernel, by decide +kernel⟩
theorem mo_X9_init : MO M_X9_init 0 := ⟨wt 80 (by decide +kernel) rfl, (wt 54 (by decide +kernel) rfl), by decide +kernel, by decide +kernel, by decide +kernel⟩
theorem mo_X9_isBig : MO M_X9_isBig 1 := ⟨wt 584 (by decide +kernel) rfl, (wt 54 (by decide +kernel) rfl), by decide +kernel, by decide +kernel, by decide +kernel⟩
theorem mo_X9_isEntry : MO M_X9_isEntry 3 := ⟨wt 572 (by decide +kernel) rfl, (wt 54 (by decide +kernel) rfl), by decide +kernel, by decide +kernel, by decide +kernel⟩
theorem mo_X9_isLand : MO M_X9_isLand 1 := ⟨wt 421 (by decide +kernel) rfl, (wt 54 (by decide +kernel) rfl), by decide +kernel, by decide +kernel, by decide +kernel⟩
theorem mo_X9_isName : MO M_X9_isName 1 := ⟨wt 629 (by decide +kernel) rfl, (wt 54 (by decide +kernel) rfl), by decide +kernel, by decide +kernel, by decide +kernel⟩
theorem mo_X9_isSmall : MO M_X9_isSmall 1 := ⟨wt 548 (by decide +kernel) rfl, (wt 54 (by decide +kernel) rfl), by decide +kernel, by decide +kernel, by decide +kernel⟩
theorem mo_X9_kind : MO M_X9_kind 3 := ⟨wt 704 (by decide +kernel) rfl, (wt 54 (by decide +kernel) rfl), by decide +kernel, by decide +kernel, by decide +kernel⟩
theorem mo_X9_know : MO M_X9_know 3 := ⟨wt 568 (by decide +kernel) rfl, (wt 54 (by decide +kernel) rfl), by decide +kernel, by decide +kernel, by decide +kernel⟩
theorem mo_X9_landChanged : MO M_X9_landChanged 1 := ⟨wt 560 (by decide +kernel) rfl, (wt 54 (by decide +kernel) rfl), by decide +kernel, by decide +kernel, by decide +kernel⟩
theorem mo_X9_lineOf : MO M_X9_lineOf 2 := ⟨wt 744 (by decide +kernel) rfl, (wt 54 (by decide +kernel) rfl), by decide +kernel, by decide +kernel, by decide +kernel⟩
theorem mo_X9_listReadings : MO M_X9_listReadings 1 := ⟨wt 633 (by decide +kernel) rfl, (wt 54 (by decide +kernel) rfl), by decide +kernel, by decide +kernel, by decide +kernel⟩
theorem mo_X9_look : MO M_X9_look 2 := ⟨wt 834 (by decide +kernel) rfl, (wt 54 (by decide +kernel) rfl), by decide +kernel, by decide +kernel, by decide +kernel⟩
theorem mo_X9_name : MO M_X9_name 2 := ⟨wt 616 (by decide +kernel) rfl, (wt 54 (by decide +kernel) rfl), by decide +kernel, by decide +kernel, by decide +kernel⟩
theorem mo_X9_order : MO M_X9_order 1 := ⟨wt 712 (by decide +kernel) rfl, (wt 54 (by decide +kernel) rfl), by decide +kernel, by decide +kernel, by decide +kernel⟩
theorem mo_X9_placeInRanking : MO M_X9_placeInRanking 1 := ⟨wt 904 (by decide +kernel) rfl, (wt 54 (by decide +kernel) rfl), by decide +kernel, by decide +kernel, by decide +kernel⟩
theorem mo_X9_putLine : MO M_X9_putLine 1 := ⟨wt 748 (by decide +kernel) rfl, (wt 54 (by decide +kernel) rfl), by decide +kernel, by decide +kernel, by decide +kernel⟩
theorem mo_X9_rank : MO M_X9_rank 0 := ⟨wt 716 (by decide +kernel) rfl, (wt 54 (by decide +kernel) rfl), by decide +kernel, by decide +kernel, by decide +kernel⟩
theorem mo_X9_readings : MO M_X9_readings 2 := ⟨wt 625 (by decide +kernel) rfl, (wt 54 (by decide +kernel) rfl), by decide +kernel, by decide +kernel, by decide +kernel⟩
theorem mo_X9_sameFamily : MO M_X9_sameFamily 2 := ⟨wt 772 (by decide +kernel) rfl, (wt 54 (by decide +kernel) rfl), by decide +kernel, by decide +kernel, by decide +kernel⟩
theorem mo_X9_shape : MO M_X9_shape 2 := ⟨wt 418 (by decide +kernel) rfl, (wt 54 (by decide +kernel) rfl), by decide +kernel, by decide +kernel, by decide +kernel⟩
theorem mo_X9_shapeCount : MO M_X9_shapeCount 0 := ⟨wt 825 (by decide +kernel) rfl, (wt 54 (by decide +kernel) rfl), by decide +kernel, by decide +kernel, by decide +kernel⟩
theorem mo_X9_sign : MO M_X9_sign 3 := ⟨wt 740 (by decide +kernel) rfl, (wt 54 (by decide +kernel) rfl), by decide +kernel, by decide +kernel, by decide +kernel⟩
theorem mo_X9_table : MO M_X9_table 2 := ⟨wt 799 (by decide +kernel) rfl, (wt 54 (by decide +kernel) rfl), by decide +kernel, by decide +kernel, by decide +kernel⟩
theorem k_L_17 : LI RL 17 M_X9_init := ⟨(wt 78 (by decide +kernel) rfl), (wt 79 (by decide +kernel) rfl), rfl, rfl⟩
theorem k_L_20 : LI RL 20 M_X10_init := ⟨(wt 923 (by decide +kernel) rfl), (wt 924 (by decide +kernel) rfl), rfl, rfl⟩
theorem k_L_21 : LV RL 21 9 M_X9_feed := ⟨(wt 407 (by decide +kernel) rfl), (wt 408 (by decide +kernel) rfl), (wt 409 (by decide +kernel) rfl), _, rfl, rfl, by decide⟩
theorem k_L_25 : LV RL 25 10 M_X10_feed := ⟨(wt 1079 (by decide +kernel) rfl), (wt 1080 (by decide +kernel) rfl), (wt 1081 (by decide +kernel) rfl), _, rfl, rfl, by decide⟩
theorem k_L_26 : LV RL 26 9 M_X9_shape := ⟨(wt 415 (by decide +kernel) rfl), (wt 416 (by decide +kernel) rfl), (wt 417 (by decide +kernel) rfl), _, rfl, rfl, by decide⟩
theorem k_L_29 : LV RL 29 10 M_X10_shape := ⟨(wt 1083 (by decide +kernel) rfl), (wt 1084 (by decide +kernel) rfl), (wt 1085 (by decide +kernel) rfl), _, rfl, rfl, by decide⟩
theorem k_L_30 : LV RL 30 9 M_X9_fault := ⟨(wt 561 (by decide +kernel) rfl), (wt 562 (by decide +kernel) rfl), (wt 563 (by decide +kernel) rfl), _, rfl, rfl, by decide⟩
theorem k_L_34 : LV RL 34 10 M_X10_fault := ⟨(wt 1110 (by decide +kernel) rfl), (wt 1111 (by decide +kernel) rfl), (wt 1112 (by decide +kernel) rfl), _, rfl, rfl, by decide⟩
theorem k_L_35 : LV RL 35 9 M_X9_know := ⟨(wt 565 (by decide +kernel) rfl), (wt 566 (by decide +kernel) rfl), (wt 567 (by decide +kernel) rfl), _, rfl, rfl, by decide⟩
theorem k_L_39 : LV RL 39 10 M_X10_know := ⟨(wt 1114 (by decide +kernel) rfl), (wt 1115 (by decide +kernel) rfl), (wt 1116 (by decide +kernel) rfl), _, rfl, rfl, by decide⟩
theorem k_L_40 : LV RL 40 9 M_X9_forget := ⟨(wt 605 (by decide +kernel) rfl), (wt 606 (by decide +kernel) rfl), (wt 607 (by decide +kernel) rfl), _, rfl, rfl, by decide⟩
theorem k_L_44 : LV RL 44 10 M_X10_forget := ⟨(wt 1132 (by decide +kernel) rfl), (wt 1133 (by decide +kernel) rfl), (wt 1134 (by decide +kernel) rfl), _, rfl, rfl, by decide⟩
theorem k_L_45 : LV RL 45 9 M_X9_name := ⟨(wt 613 (by decide +kernel) rfl), (wt 614 (by decide +kernel) rfl), (wt 615 (by decide +kernel) rfl), _, rfl, rfl, by decide⟩
theorem k_L_48 : LV RL 48 10 M_X10_name := ⟨(wt 1136 (by decide +kernel) rfl), (wt 1137 (by decide +kernel) rfl), (wt 1138 (by decide +kernel) rfl), _, rfl, rfl, by decide⟩
theorem k_L_49 : LV RL 49 9 M_X9_readings := ⟨(wt 622 (by decide +kernel) rfl), (wt 623 (by decide +kernel) rfl), (wt 624 (by decide +kernel) rfl), _, rfl, rfl, by decide⟩
theorem k_L_52 : LV RL 52 10 M_X10_readings := ⟨(wt 1140 (by decide +kernel) rfl), (wt 1141 (by decide +kernel) rfl), (wt 1142 (by decide +kernel) rfl), _, rfl, rfl, by decide⟩
theorem k_L_53 : LV RL 53 9 M_X9_cost := ⟨(wt 689 (by decide +kernel) rfl), (wt 690 (by decide +kernel) rfl), (wt 691 (by decide +kernel) rfl), _, rfl, rfl, by decide⟩
theorem k_L_56 : LV RL 56 10 M_X10_cost := ⟨(wt 1164 (by decide +kernel) rfl), (wt 1165 (by decide +kernel) rfl), (wt 1166 (by decide +kernel) rfl), _, rfl, rfl, by decide⟩
theorem k_L_57 : LV RL 57 9 M_X9_kind := ⟨(wt 701 (by decide +kernel) rfl), (wt 702 (by decide +kernel) rfl), (wt 703 (by decide +kernel) rfl), _, rfl, rfl, by decide⟩
theorem k_L_60 : LV RL 60 10 M_X10_kind := ⟨(wt 1172 (by decide +kernel) rfl), (wt 1173 (by decide +kernel) rfl), (wt 1174 (by decide +kernel) rfl), _, rfl, rfl, by decide⟩
theorem k_L_66 : LV RL 66 10 M_X10_look := ⟨(wt 1180 (by decide +kernel) rfl), (wt 1181 (by decide +kernel) rfl), (wt 1182 (by decide +kernel) rfl), _, rfl, rfl, by decide⟩
theorem k_L_67 : LV RL 67 10 M_X10_thrown := ⟨(wt 1075 (by decide +kernel) rfl), (wt 1076 (by decide +kernel) rfl), (wt 1077 (by decide +kernel) rfl), _, rfl, rfl, by decide⟩
theorem k_L_7 : LV RL 7 9 M_X9_look := ⟨(wt 831 (by decide +kernel) rfl), (wt 832 (by decide +kernel) rfl), (wt 833 (by decide +kernel) rfl), _, rfl, rfl, by decide⟩
theorem k_L_71 : LV RL 71 9 M_X9_order := ⟨(wt 709 (by decide +kernel) rfl), (wt 710 (by decide +kernel) rfl), (wt 711 (by decide +kernel) rfl), _, rfl, rfl, by decide⟩
theorem k_L_74 : LV RL 74 10 M_X10_order := ⟨(wt 1220 (by decide +kernel) rfl), (wt 1221 (by decide +kernel) rfl), (wt 1222 (by decide +kernel) rfl), _, rfl, rfl, by decide⟩
theorem k_L_75 : LV RL 75 9 M_X9_sign := ⟨(wt 737 (by decide +kernel) rfl), (wt 738 (by decide +kernel) rfl), (wt 739 (by decide +kernel) rfl), _, rfl, rfl, by decide⟩
theorem k_L_78 : LV RL 78 10 M_X10_sign := ⟨(wt 1224 (by decide +kernel) rfl), (wt 1225 (by decide +kernel) rfl), (wt 1226 (by decide +kernel) rfl), _, rfl, rfl, by decide⟩
theorem k_L_79 : LV RL 79 9 M_X9_agree := ⟨(wt 766 (by decide +kernel) rfl), (wt 767 (by decide +kernel) rfl), (wt 768 (by decide +kernel) rfl), _, rfl, rfl, by decide⟩
theorem k_L_82 : LV RL 82 10 M_X10_agree := ⟨(wt 1232 (by decide +kernel) rfl), (wt 1233 (by decide +kernel) rfl), (wt 1234 (by decide +kernel) rfl), _, rfl, rfl, by decide⟩
theorem k_L_83 : LV RL 83 9 M_X9_father := ⟨(wt 786 (by decide +kernel) rfl), (wt 787 (by decide +kernel) rfl), (wt 788 (by decide +kernel) rfl), _, rfl, rfl, by decide⟩
theorem k_L_86 : LV RL 86 10 M_X10_father := ⟨(wt 1240 (by decide +kernel) rfl), (wt 1241 (by decide +kernel) rfl), (wt 1242 (by decide +kernel) rfl), _, rfl, rfl, by decide⟩
theorem k_L_87 : LV RL 87 9 M_X9_table := ⟨(wt 796 (by decide +kernel) rfl), (wt 797 (by decide +kernel) rfl), (wt 798 (by decide +kernel) rfl), _, rfl, rfl, by decide⟩
theorem k_L_91 : LV RL 91 10 M_X10_table := ⟨(wt 1244 (by decide +kernel) rfl), (wt 1245 (by decide +kernel) rfl), (wt 1246 (by decide +kernel) rfl), _, rfl, rfl, by decide⟩
theorem k_L_92 : LV RL 92 9 M_X9_fallen := ⟨(wt 805 (by decide +kernel) rfl), (wt 806 (by decide +kernel) rfl), (wt 807 (by decide +kernel) rfl), _, rfl, rfl, by decide⟩
theorem k_L_95 : LV RL 95 10 M_X10_fallen := ⟨(wt 1248 (by decide +kernel) rfl), (wt 1249 (by decide +kernel) rfl), (wt 1250 (by decide +kernel) rfl), _, rfl, rfl, by decide⟩
theorem k_L_96 : LV RL 96 9 M_X9_count := ⟨(wt 818 (by decide +kernel) rfl), (wt 819 (by decide +kernel) rfl), (wt 820 (by decide +kernel) rfl), _, rfl, rfl, by decide⟩
theorem k_L_99 : LV RL 99 10 M_X10_count := ⟨(wt 1260 (by decide +kernel) rfl), (wt 1261 (by decide +kernel) rfl), (wt 1262 (by decide +kernel) rfl), _, rfl, rfl, by decide⟩
theorem k_X0_28 : LIN RX0 28 M_X8_init := ⟨by decide +kernel, (wt 203 (by decide +kernel) rfl), rfl, rfl⟩
theorem k_X0_29 : LV RX0 29 8 M_X8_alike := ⟨(wt 589 (by decide +kernel) rfl), (wt 590 (by decide +kernel) rfl), (wt 591 (by decide +kernel) rfl), _, rfl, rfl, by decide⟩
theorem k_X0_3 : LO RX0 3 := ⟨(wt 198 (by decide +kernel) rfl), (wt 82 (by decide +kernel) rfl), wt 83 (by decide +kernel) rfl⟩
theorem k_X0_33 : LV RX0 33 8 M_X8_copyLetters := ⟨(wt 601 (by decide +kernel) rfl), (wt 602 (by decide +kernel) rfl), (wt 603 (by decide +kernel) rfl), _, rfl, rfl, by decide⟩
theorem k_X0_37 : LV RX0 37 8 M_X8_isBeginning := ⟨(wt 647 (by decide +kernel) rfl), (wt 594 (by decide +kernel) rfl), (wt 595 (by decide +kernel) rfl), _, rfl, rfl, by decide⟩
theorem k_X1_19 : LV RX1 19 1 M_X1_add := ⟨(wt 761 (by decide +kernel) rfl), (wt 754 (by decide +kernel) rfl), (wt 755 (by decide +kernel) rfl), _, rfl, rfl, by decide⟩
theorem k_X1_3 : LO RX1 3 := ⟨(wt 299 (by decide +kernel) rfl), (wt 82 (by decide +kernel) rfl), wt 83 (by decide +kernel) rfl⟩
theorem k_X10_1 : LO RX10 1 := ⟨(wt 926 (by decide +kernel) rfl), (wt 82 (by decide +kernel) rfl), wt 83 (by decide +kernel) rfl⟩
theorem k_X10_144 : LV RX10 144 10 M_X10_see := ⟨(wt 1091 (by decide +kernel) rfl), (wt 1093 (by decide +kernel) rfl), (wt 27 (by decide +kernel) rfl), _, rfl, rfl, by decide⟩
theorem k_X10_148 : LStat RX10 148 M_X10_kindOf := ⟨(wt 1095 (by decide +kernel) rfl), (wt 1096 (by decide +kernel) rfl)⟩
theorem k_X10_152 : LV RX10 152 10 M_X10_wrong := ⟨(wt 1098 (by decide +kernel) rfl), (wt 1100 (by decide +kernel) rfl), (wt 28 (by decide +kernel) rfl), _, rfl, rfl, by decide⟩
theorem k_X10_159 : LV RX10 159 10 M_X10_slotsRead := ⟨(wt 1087 (by decide +kernel) rfl), (wt 1089 (by decide +kernel) rfl), (wt 26 (by decide +kernel) rfl), _, rfl, rfl, by decide⟩
theorem k_X10_163 : LV RX10 163 10 M_X10_lettersRead := ⟨(wt 1102 (by decide +kernel) rfl), (wt 1104 (by decide +kernel) rfl), (wt 29 (by decide +kernel) rfl), _, rfl, rfl, by decide⟩
theorem k_X10_167 : LV RX10 167 10 M_X10_endingRead := ⟨(wt 1106 (by decide +kernel) rfl), (wt 1108 (by decide +kernel) rfl), (wt 30 (by decide +kernel) rfl), _, rfl, rfl, by decide⟩
theorem k_X10_170 : LStat RX10 170 M_X10_isLetter := ⟨(wt 1125 (by decide +kernel) rfl), (wt 1126 (by decide +kernel) rfl)⟩
theorem k_X10_179 : LStat RX10 179 M_X10_isKept := ⟨(wt 1118 (by decide +kernel) rfl), (wt 1119 (by decide +kernel) rfl)⟩
theorem k_X10_182 : LV RX10 182 10 M_X10_isWord := ⟨(wt 1121 (by decide +kernel) rfl), (wt 1123 (by decide +kernel) rfl), (wt 31 (by decide +kernel) rfl), _, rfl, rfl, by decide⟩
theorem k_X10_185 : LV RX10 185 10 M_X10_entry := ⟨(wt 1128 (by decide +kernel) rfl), (wt 1130 (by decide +kernel) rfl), (wt 32 (by decide +kernel) rfl), _, rfl, rfl, by decide⟩
theorem k_X10_195 : LV RX10 195 10 M_X10_costOf := ⟨(wt 1152 (by decide +kernel) rfl), (wt 1154 (by decide +kernel) rfl), (wt 35 (by decide +kernel) rfl), _, rfl, rfl, by decide⟩
theorem k_X10_199 : LV RX10 199 10 M_X10_slips := ⟨(wt 1156 (by decide +kernel) rfl), (wt 1158 (by decide +kernel) rfl), (wt 36 (by decide +kernel) rfl), _, rfl, rfl, by decide⟩
theorem k_X10_203 : LV RX10 203 10 M_X10_goes := ⟨(wt 1160 (by decide +kernel) rfl), (wt 1162 (by decide +kernel) rfl), (wt 37 (by decide +kernel) rfl), _, rfl, rfl, by decide⟩
theorem k_X10_206 : LV RX10 206 10 M_X10_fill := ⟨(wt 1148 (by decide +kernel) rfl), (wt 1150 (by decide +kernel) rfl), (wt 34 (by decide +kernel) rfl), _, rfl, rfl, by decide⟩
theorem k_X10_210 : LV RX10 210 10 M_X10_isName := ⟨(wt 1144 (by decide +kernel) rfl), (wt 1146 (by decide +kernel) rfl), (wt 33 (by decide +kernel) rfl), _, rfl, rfl, by decide⟩
theorem k_X10_213 : LV RX10 213 10 M_X10_reading := ⟨(wt 1168 (by decide +kernel) rfl), (wt 1170 (by decide +kernel) rfl), (wt 38 (by decide +kernel) rfl), _, rfl, rfl, by decide⟩
theorem k_X10_216 : LV RX10 216 10 M_X10_kindIn := ⟨(wt 1176 (by decide +kernel) rfl), (wt 1178 (by decide +kernel) rfl), (wt 39 (by decide +kernel) rfl), _, rfl, rfl, by decide⟩
theorem k_X10_219 : LV RX10 219 10 M_X10_first := ⟨(wt 1196 (by decide +kernel) rfl), (wt 1198 (by decide +kernel) rfl), (wt 43 (by decide +kernel) rfl), _, rfl, rfl, by decide⟩
theorem k_X10_222 : LV RX10 222 10 M_X10_compare := ⟨(wt 1212 (by decide +kernel) rfl), (wt 1214 (by decide +kernel) rfl), (wt 47 (by decide +kernel) rfl), _, rfl, rfl, by decide⟩
theorem k_X10_225 : LV RX10 225 10 M_X10_firstAll := ⟨(wt 1192 (by decide +kernel) rfl), (wt 1194 (by decide +kernel) rfl), (wt 42 (by decide +kernel) rfl), _, rfl, rfl, by decide⟩
theorem k_X10_228 : LV RX10 228 10 M_X10_pick := ⟨(wt 1200 (by decide +kernel) rfl), (wt 1202 (by decide +kernel) rfl), (wt 44 (by decide +kernel) rfl), _, rfl, rfl, by decide⟩
theorem k_X10_232 : LV RX10 232 10 M_X10_ahead := ⟨(wt 1208 (by decide +kernel) rfl), (wt 1210 (by decide +kernel) rfl), (wt 46 (by decide +kernel) rfl), _, rfl, rfl, by decide⟩
theorem k_X10_235 : LV RX10 235 10 M_X10_fails := ⟨(wt 1184 (by decide +kernel) rfl), (wt 1186 (by decide +kernel) rfl), (wt 40 (by decide +kernel) rfl), _, rfl, rfl, by decide⟩
theorem k_X10_238 : LV RX10 238 10 M_X10_orderAll := ⟨(wt 1188 (by decide +kernel) rfl), (wt 1190 (by decide +kernel) rfl), (wt 41 (by decide +kernel) rfl), _, rfl, rfl, by decide⟩
theorem k_X10_241 : LV RX10 241 10 M_X10_placeOf := ⟨(wt 1204 (by decide +kernel) rfl), (wt 1206 (by decide +kernel) rfl), (wt 45 (by decide +kernel) rfl), _, rfl, rfl, by decide⟩
theorem k_X10_244 : LV RX10 244 10 M_X10_signs := ⟨(wt 1216 (by decide +kernel) rfl), (wt 1218 (by decide +kernel) rfl), (wt 48 (by decide +kernel) rfl), _, rfl, rfl, by decide⟩
theorem k_X10_247 : LV RX10 247 10 M_X10_over := ⟨(wt 1228 (by decide +kernel) rfl), (wt 1230 (by decide +kernel) rfl), (wt 49 (by decide +kernel) rfl), _, rfl, rfl, by decide⟩
theorem k_X10_250 : LV RX10 250 10 M_X10_wordOf := ⟨(wt 1236 (by decide +kernel) rfl), (wt 1238 (by decide +kernel) rfl), (wt 50 (by decide +kernel) rfl), _, rfl, rfl, by decide⟩
theorem k_X10_254 : LV RX10 254 10 M_X10_alike := ⟨(wt 1252 (by decide +kernel) rfl), (wt 1254 (by decide +kernel) rfl), (wt 51 (by decide +kernel) rfl), _, rfl, rfl, by decide⟩
theorem k_X10_257 : LV RX10 257 10 M_X10_overAlike := ⟨(wt 1256 (by decide +kernel) rfl), (wt 1258 (by decide +kernel) rfl), (wt 52 (by decide +kernel) rfl), _, rfl, rfl, by decide⟩
theorem k_X2_3 : LO RX2 3 := ⟨(wt 312 (by decide +kernel) rfl), (wt 82 (by decide +kernel) rfl), wt 83 (by decide +kernel) rfl⟩
theorem k_X2_46 : LIN RX2 46 M_X1_init := ⟨by decide +kernel, (wt 297 (by decide +kernel) rfl), rfl, rfl⟩
theorem k_X2_51 : LIN RX2 51 M_X8_init := ⟨by decide +kernel, (wt 203 (by decide +kernel) rfl), rfl, rfl⟩
theorem k_X2_52 : LV RX2 52 8 M_X8_take := ⟨(wt 621 (by decide +kernel) rfl), (wt 574 (by decide +kernel) rfl), (wt 575 (by decide +kernel) rfl), _, rfl, rfl, by decide⟩
theorem k_X2_56 : LV RX2 56 8 M_X8_compareLetters := ⟨(wt 733 (by decide +kernel) rfl), (wt 734 (by decide +kernel) rfl), (wt 735 (by decide +kernel) rfl), _, rfl, rfl, by decide⟩
theorem k_X2_60 : LV RX2 60 8 M_X8_alike := ⟨(wt 817 (by decide +kernel) rfl), (wt 590 (by decide +kernel) rfl), (wt 591 (by decide +kernel) rfl), _, rfl, rfl, by decide⟩
theorem k_X3_100 : LV RX3 100 3 M_X3_lengthenRows := ⟨(wt 664 (by decide +kernel) rfl), (wt 666 (by decide +kernel) rfl), (wt 15 (by decide +kernel) rfl), _, rfl, rfl, by decide⟩
theorem k_X3_104 : LV RX3 104 3 M_X3_sortByCost := ⟨(wt 677 (by decide +kernel) rfl), (wt 679 (by decide +kernel) rfl), (wt 17 (by decide +kernel) rfl), _, rfl, rfl, by decide⟩
theorem k_X3_109 : LV RX3 109 3 M_X3_swapRows := ⟨(wt 673 (by decide +kernel) rfl), (wt 675 (by decide +kernel) rfl), (wt 16 (by decide +kernel) rfl), _, rfl, rfl, by decide⟩
theorem k_X3_11 : LIN RX3 11 M_X4_init := ⟨by decide +kernel, (wt 128 (by decide +kernel) rfl), rfl, rfl⟩
theorem k_X3_112 : LStat RX3 112 M_X3_costIn := ⟨(wt 681 (by decide +kernel) rfl), (wt 682 (by decide +kernel) rfl)⟩
theorem k_X3_116 : LMx RX3 116 := ⟨(wt 684 (by decide +kernel) rfl), (wt 475 (by decide +kernel) rfl), (wt 65 (by decide +kernel) rfl), wt 476 (by decide +kernel) rfl⟩
theorem k_X3_119 : LV RX3 119 3 M_X3_isRow := ⟨(wt 697 (by decide +kernel) rfl), (wt 699 (by decide +kernel) rfl), (wt 18 (by decide +kernel) rfl), _, rfl, rfl, by decide⟩
theorem k_X3_3 : LO RX3 3 := ⟨(wt 250 (by decide +kernel) rfl), (wt 82 (by decide +kernel) rfl), wt 83 (by decide +kernel) rfl⟩
theorem k_X3_47 : LMn RX3 47 := ⟨(wt 638 (by decide +kernel) rfl), (wt 431 (by decide +kernel) rfl), (wt 65 (by decide +kernel) rfl), wt 432 (by decide +kernel) rfl⟩
theorem k_X3_60 : LV RX3 60 3 M_X3_weighWord := ⟨(wt 639 (by decide +kernel) rfl), (wt 641 (by decide +kernel) rfl), (wt 13 (by decide +kernel) rfl), _, rfl, rfl, by decide⟩
theorem k_X3_73 : LV RX3 73 3 M_X3_leastFrom := ⟨(wt 656 (by decide +kernel) rfl), (wt 658 (by decide +kernel) rfl), (wt 14 (by decide +kernel) rfl), _, rfl, rfl, by decide⟩
theorem k_X3_81 : LV RX3 81 0 M_X0_kindsOf := ⟨(wt 643 (by decide +kernel) rfl), (wt 644 (by decide +kernel) rfl), (wt 645 (by decide +kernel) rfl), _, rfl, rfl, by decide⟩
theorem k_X3_87 : LV RX3 87 4 M_X4_isMade := ⟨(wt 648 (by decide +kernel) rfl), (wt 649 (by decide +kernel) rfl), (wt 650 (by decide +kernel) rfl), _, rfl, rfl, by decide⟩
theorem k_X3_97 : LV RX3 97 4 M_X4_openBehind := ⟨(wt 668 (by decide +kernel) rfl), (wt 669 (by decide +kernel) rfl), (wt 670 (by decide +kernel) rfl), _, rfl, rfl, by decide⟩
theorem k_X4_3 : LO RX4 3 := ⟨(wt 130 (by decide +kernel) rfl), (wt 82 (by decide +kernel) rfl), wt 83 (by decide +kernel) rfl⟩
theorem k_X4_54 : LV RX4 54 4 M_X4_openFrom := ⟨(wt 553 (by decide +kernel) rfl), (wt 555 (by decide +kernel) rfl), (wt 7 (by decide +kernel) rfl), _, rfl, rfl, by decide⟩
theorem k_X4_63 : LV RX4 63 8 M_X8_endsWith := ⟨(wt 652 (by decide +kernel) rfl), (wt 653 (by decide +kernel) rfl), (wt 654 (by decide +kernel) rfl), _, rfl, rfl, by decide⟩
theorem k_X4_67 : LV RX4 67 4 M_X4_isMade := ⟨(wt 794 (by decide +kernel) rfl), (wt 649 (by decide +kernel) rfl), (wt 650 (by decide +kernel) rfl), _, rfl, rfl, by decide⟩
theorem k_X4_71 : LV RX4 71 8 M_X8_isBeginning := ⟨(wt 795 (by decide +kernel) rfl), (wt 594 (by decide +kernel) rfl), (wt 595 (by decide +kernel) rfl), _, rfl, rfl, by decide⟩
theorem k_X5_102 : LSN RX5 102 M_X9_isSmall := ⟨by decide +kernel, (wt 547 (by decide +kernel) rfl)⟩
theorem k_X5_28 : LMn RX5 28 := ⟨(wt 430 (by decide +kernel) rfl), (wt 431 (by decide +kernel) rfl), (wt 65 (by decide +kernel) rfl), wt 432 (by decide +kernel) rfl⟩
theorem k_X5_3 : LO RX5 3 := ⟨(wt 107 (by decide +kernel) rfl), (wt 82 (by decide +kernel) rfl), wt 83 (by decide +kernel) rfl⟩
theorem k_X5_34 : LV RX5 34 5 M_X5_readSlots := ⟨(wt 433 (by decide +kernel) rfl), (wt 435 (by decide +kernel) rfl), (wt 0 (by decide +kernel) rfl), _, rfl, rfl, by decide⟩
theorem k_X5_44 : LV RX5 44 5 M_X5_readLetters := ⟨(wt 538 (by decide +kernel) rfl), (wt 540 (by decide +kernel) rfl), (wt 5 (by decide +kernel) rfl), _, rfl, rfl, by decide⟩
theorem k_X5_57 : LV RX5 57 5 M_X5_readEnding := ⟨(wt 542 (by decide +kernel) rfl), (wt 544 (by decide +kernel) rfl), (wt 6 (by decide +kernel) rfl), _, rfl, rfl, by decide⟩
theorem k_X5_60 : LV RX5 60 5 M_X5_pass := ⟨(wt 530 (by decide +kernel) rfl), (wt 532 (by decide +kernel) rfl), (wt 3 (by decide +kernel) rfl), _, rfl, rfl, by decide⟩
theorem k_X5_64 : LV RX5 64 5 M_X5_stopWith := ⟨(wt 534 (by decide +kernel) rfl), (wt 536 (by decide +kernel) rfl), (wt 4 (by decide +kernel) rfl), _, rfl, rfl, by decide⟩
theorem k_X5_68 : LV RX5 68 4 M_X4_link := ⟨(wt 549 (by decide +kernel) rfl), (wt 550 (by decide +kernel) rfl), (wt 551 (by decide +kernel) rfl), _, rfl, rfl, by decide⟩
theorem k_X5_71 : LV RX5 71 5 M_X5_here := ⟨(wt 441 (by decide +kernel) rfl), (wt 443 (by decide +kernel) rfl), (wt 2 (by decide +kernel) rfl), _, rfl, rfl, by decide⟩
theorem k_X5_86 : LV RX5 86 5 M_X5_kindHere := ⟨(wt 437 (by decide +kernel) rfl), (wt 439 (by decide +kernel) rfl), (wt 1 (by decide +kernel) rfl), _, rfl, rfl, by decide⟩
theorem k_X6_19 : LSN RX6 19 M_X9_isSmall := ⟨by decide +kernel, (wt 547 (by decide +kernel) rfl)⟩
theorem k_X6_23 : LV RX6 23 1 M_X1_add := ⟨(wt 753 (by decide +kernel) rfl), (wt 754 (by decide +kernel) rfl), (wt 755 (by decide +kernel) rfl), _, rfl, rfl, by decide⟩
theorem k_X6_3 : LO RX6 3 := ⟨(wt 286 (by decide +kernel) rfl), (wt 82 (by decide +kernel) rfl), wt 83 (by decide +kernel) rfl⟩
theorem k_X7_3 : LO RX7 3 := ⟨(wt 89 (by decide +kernel) rfl), (wt 82 (by decide +kernel) rfl), wt 83 (by decide +kernel) rfl⟩
theorem k_X8_25 : LV RX8 25 8 M_X8_takeSign := ⟨(wt 577 (by decide +kernel) rfl), (wt 579 (by decide +kernel) rfl), (wt 10 (by decide +kernel) rfl), _, rfl, rfl, by decide⟩
theorem k_X8_29 : LSN RX8 29 M_X9_isSmall := ⟨by decide +kernel, (wt 547 (by decide +kernel) rfl)⟩
theorem k_X8_3 : LO RX8 3 := ⟨(wt 205 (by decide +kernel) rfl), (wt 82 (by decide +kernel) rfl), wt 83 (by decide +kernel) rfl⟩
theorem k_X8_33 : LSN RX8 33 M_X9_isBig := ⟨by decide +kernel, (wt 583 (by decide +kernel) rfl)⟩
theorem k_X8_36 : LV RX8 36 8 M_X8_isBeginning := ⟨(wt 593 (by decide +kernel) rfl), (wt 594 (by decide +kernel) rfl), (wt 595 (by decide +kernel) rfl), _, rfl, rfl, by decide⟩
theorem k_X8_40 : LV RX8 40 8 M_X8_alike := ⟨(wt 785 (by decide +kernel) rfl), (wt 590 (by decide +kernel) rfl), (wt 591 (by decide +kernel) rfl), _, rfl, rfl, by decide⟩
theorem k_X9_101 : LStat RX9 101 M_X9_isLand := ⟨(wt 419 (by decide +kernel) rfl), (wt 420 (by decide +kernel) rfl)⟩
theorem k_X9_105 : LV RX9 105 7 M_X7_holds := ⟨(wt 422 (by decide +kernel) rfl), (wt 423 (by decide +kernel) rfl), (wt 424 (by decide +kernel) rfl), _, rfl, rfl, by decide⟩
theorem k_X9_11 : LIN RX9 11 M_X7_init := ⟨by decide +kernel, (wt 87 (by decide +kernel) rfl), rfl, rfl⟩
theorem k_X9_112 : LV RX9 112 5 M_X5_readInto := ⟨(wt 426 (by decide +kernel) rfl), (wt 427 (by decide +kernel) rfl), (wt 428 (by decide +kernel) rfl), _, rfl, rfl, by decide⟩
theorem k_X9_116 : LV RX9 116 9 M_X9_landChanged := ⟨(wt 557 (by decide +kernel) rfl), (wt 559 (by decide +kernel) rfl), (wt 8 (by decide +kernel) rfl), _, rfl, rfl, by decide⟩
theorem k_X9_128 : LV RX9 128 9 M_X9_isEntry := ⟨(wt 569 (by decide +kernel) rfl), (wt 571 (by decide +kernel) rfl), (wt 9 (by decide +kernel) rfl), _, rfl, rfl, by decide⟩
theorem k_X9_133 : LV RX9 133 0 M_X0_find := ⟨(wt 585 (by decide +kernel) rfl), (wt 586 (by decide +kernel) rfl), (wt 587 (by decide +kernel) rfl), _, rfl, rfl, by decide⟩
theorem k_X9_137 : LV RX9 137 0 M_X0_add := ⟨(wt 597 (by decide +kernel) rfl), (wt 598 (by decide +kernel) rfl), (wt 599 (by decide +kernel) rfl), _, rfl, rfl, by decide⟩
theorem k_X9_140 : LV RX9 140 0 M_X0_remove := ⟨(wt 609 (by decide +kernel) rfl), (wt 610 (by decide +kernel) rfl), (wt 611 (by decide +kernel) rfl), _, rfl, rfl, by decide⟩
theorem k_X9_143 : LV RX9 143 2 M_X2_take := ⟨(wt 617 (by decide +kernel) rfl), (wt 618 (by decide +kernel) rfl), (wt 619 (by decide +kernel) rfl), _, rfl, rfl, by decide⟩
theorem k_X9_156 : LV RX9 156 9 M_X9_isName := ⟨(wt 626 (by decide +kernel) rfl), (wt 628 (by decide +kernel) rfl), (wt 11 (by decide +kernel) rfl), _, rfl, rfl, by decide⟩
theorem k_X9_159 : LV RX9 159 9 M_X9_listReadings := ⟨(wt 630 (by decide +kernel) rfl), (wt 632 (by decide +kernel) rfl), (wt 12 (by decide +kernel) rfl), _, rfl, rfl, by decide⟩
theorem k_X9_162 : LV RX9 162 3 M_X3_rowsUpTo := ⟨(wt 685 (by decide +kernel) rfl), (wt 686 (by decide +kernel) rfl), (wt 687 (by decide +kernel) rfl), _, rfl, rfl, by decide⟩
theorem k_X9_166 : LV RX9 166 3 M_X3_costOfRow := ⟨(wt 693 (by decide +kernel) rfl), (wt 694 (by decide +kernel) rfl), (wt 695 (by decide +kernel) rfl), _, rfl, rfl, by decide⟩
theorem k_X9_169 : LV RX9 169 3 M_X3_kindInRow := ⟨(wt 705 (by decide +kernel) rfl), (wt 706 (by decide +kernel) rfl), (wt 707 (by decide +kernel) rfl), _, rfl, rfl, by decide⟩
theorem k_X9_181 : LV RX9 181 9 M_X9_rank := ⟨(wt 713 (by decide +kernel) rfl), (wt 715 (by decide +kernel) rfl), (wt 19 (by decide +kernel) rfl), _, rfl, rfl, by decide⟩
theorem k_X9_184 : LV RX9 184 9 M_X9_placeInRanking := ⟨(wt 901 (by decide +kernel) rfl), (wt 903 (by decide +kernel) rfl), (wt 25 (by decide +kernel) rfl), _, rfl, rfl, by decide⟩
theorem k_X9_187 : LV RX9 187 9 M_X9_freshName := ⟨(wt 717 (by decide +kernel) rfl), (wt 719 (by decide +kernel) rfl), (wt 20 (by decide +kernel) rfl), _, rfl, rfl, by decide⟩
theorem k_X9_194 : LV RX9 194 9 M_X9_lineOf := ⟨(wt 741 (by decide +kernel) rfl), (wt 743 (by decide +kernel) rfl), (wt 21 (by decide +kernel) rfl), _, rfl, rfl, by decide⟩
theorem k_X9_204 : LV RX9 204 1 M_X1_signAt := ⟨(wt 762 (by decide +kernel) rfl), (wt 763 (by decide +kernel) rfl), (wt 764 (by decide +kernel) rfl), _, rfl, rfl, by decide⟩
theorem k_X9_210 : LStat RX9 210 M_X9_sameFamily := ⟨(wt 770 (by decide +kernel) rfl), (wt 771 (by decide +kernel) rfl)⟩
theorem k_X9_214 : LStat RX9 214 M_X9_fittingGiven := ⟨(wt 778 (by decide +kernel) rfl), (wt 779 (by decide +kernel) rfl)⟩
theorem k_X9_217 : LV RX9 217 2 M_X2_nextOf := ⟨(wt 773 (by decide +kernel) rfl), (wt 774 (by decide +kernel) rfl), (wt 775 (by decide +kernel) rfl), _, rfl, rfl, by decide⟩
theorem k_X9_224 : LV RX9 224 4 M_X4_makes := ⟨(wt 790 (by decide +kernel) rfl), (wt 791 (by decide +kernel) rfl), (wt 792 (by decide +kernel) rfl), _, rfl, rfl, by decide⟩
theorem k_X9_228 : LV RX9 228 6 M_X6_change := ⟨(wt 800 (by decide +kernel) rfl), (wt 801 (by decide +kernel) rfl), (wt 802 (by decide +kernel) rfl), _, rfl, rfl, by decide⟩
theorem k_X9_232 : LV RX9 232 9 M_X9_putLine := ⟨(wt 745 (by decide +kernel) rfl), (wt 747 (by decide +kernel) rfl), (wt 22 (by decide +kernel) rfl), _, rfl, rfl, by decide⟩
theorem k_X9_236 : LV RX9 236 1 M_X1_alike := ⟨(wt 809 (by decide +kernel) rfl), (wt 810 (by decide +kernel) rfl), (wt 811 (by decide +kernel) rfl), _, rfl, rfl, by decide⟩
theorem k_X9_24 : LIN RX9 24 M_X5_init := ⟨by decide +kernel, (wt 105 (by decide +kernel) rfl), rfl, rfl⟩
theorem k_X9_240 : LV RX9 240 2 M_X2_alikeFolded := ⟨(wt 813 (by decide +kernel) rfl), (wt 814 (by decide +kernel) rfl), (wt 815 (by decide +kernel) rfl), _, rfl, rfl, by decide⟩
theorem k_X9_244 : LV RX9 244 9 M_X9_shapeCount := ⟨(wt 822 (by decide +kernel) rfl), (wt 824 (by decide +kernel) rfl), (wt 23 (by decide +kernel) rfl), _, rfl, rfl, by decide⟩
theorem k_X9_248 : LV RX9 248 8 M_X8_take := ⟨(wt 573 (by decide +kernel) rfl), (wt 574 (by decide +kernel) rfl), (wt 575 (by decide +kernel) rfl), _, rfl, rfl, by decide⟩
theorem k_X9_251 : LV RX9 251 3 M_X3_weigh := ⟨(wt 634 (by decide +kernel) rfl), (wt 635 (by decide +kernel) rfl), (wt 636 (by decide +kernel) rfl), _, rfl, rfl, by decide⟩
theorem k_X9_255 : LV RX9 255 3 M_X3_listRows := ⟨(wt 660 (by decide +kernel) rfl), (wt 661 (by decide +kernel) rfl), (wt 662 (by decide +kernel) rfl), _, rfl, rfl, by decide⟩
theorem k_X9_261 : LV RX9 261 3 M_X3_readFirst := ⟨(wt 721 (by decide +kernel) rfl), (wt 722 (by decide +kernel) rfl), (wt 723 (by decide +kernel) rfl), _, rfl, rfl, by decide⟩
theorem k_X9_274 : LV RX9 274 2 M_X2_choose := ⟨(wt 725 (by decide +kernel) rfl), (wt 726 (by decide +kernel) rfl), (wt 727 (by decide +kernel) rfl), _, rfl, rfl, by decide⟩
theorem k_X9_278 : LV RX9 278 2 M_X2_isBefore := ⟨(wt 729 (by decide +kernel) rfl), (wt 730 (by decide +kernel) rfl), (wt 731 (by decide +kernel) rfl), _, rfl, rfl, by decide⟩
theorem k_X9_287 : LV RX9 287 1 M_X1_addWord := ⟨(wt 757 (by decide +kernel) rfl), (wt 758 (by decide +kernel) rfl), (wt 759 (by decide +kernel) rfl), _, rfl, rfl, by decide⟩
theorem k_X9_29 : LIN RX9 29 M_X4_init := ⟨by decide +kernel, (wt 128 (by decide +kernel) rfl), rfl, rfl⟩
theorem k_X9_3 : LO RX9 3 := ⟨(wt 81 (by decide +kernel) rfl), (wt 82 (by decide +kernel) rfl), wt 83 (by decide +kernel) rfl⟩
theorem k_X9_306 : LV RX9 306 6 M_X6_putOver := ⟨(wt 749 (by decide +kernel) rfl), (wt 750 (by decide +kernel) rfl), (wt 751 (by decide +kernel) rfl), _, rfl, rfl, by decide⟩
theorem k_X9_310 : LV RX9 310 8 M_X8_alike := ⟨(wt 777 (by decide +kernel) rfl), (wt 590 (by decide +kernel) rfl), (wt 591 (by decide +kernel) rfl), _, rfl, rfl, by decide⟩
theorem k_X9_313 : LV RX9 313 8 M_X8_fits := ⟨(wt 781 (by decide +kernel) rfl), (wt 782 (by decide +kernel) rfl), (wt 783 (by decide +kernel) rfl), _, rfl, rfl, by decide⟩
theorem k_X9_36 : LI RX9 36 M_X0_init := ⟨(wt 195 (by decide +kernel) rfl), (wt 196 (by decide +kernel) rfl), rfl, rfl⟩
theorem k_X9_43 : LIN RX9 43 M_X8_init := ⟨by decide +kernel, (wt 203 (by decide +kernel) rfl), rfl, rfl⟩
theorem k_X9_60 : LIN RX9 60 M_X3_init := ⟨by decide +kernel, (wt 248 (by decide +kernel) rfl), rfl, rfl⟩
theorem k_X9_78 : LI RX9 78 M_X6_init := ⟨(wt 283 (by decide +kernel) rfl), (wt 284 (by decide +kernel) rfl), rfl, rfl⟩
theorem k_X9_85 : LIN RX9 85 M_X1_init := ⟨by decide +kernel, (wt 297 (by decide +kernel) rfl), rfl, rfl⟩
theorem k_X9_93 : LI RX9 93 M_X2_init := ⟨(wt 309 (by decide +kernel) rfl), (wt 310 (by decide +kernel) rfl), rfl, rfl⟩
theorem k_X9_97 : LV RX9 97 7 M_X7_add := ⟨(wt 411 (by decide +kernel) rfl), (wt 412 (by decide +kernel) rfl), (wt 413 (by decide +kernel) rfl), _, rfl, rfl, by decide⟩
theorem rm_X0_add_X8_copyLetters : RM M_X0_add M_X8_copyLetters := ⟨by decide, by decide⟩
theorem rm_X0_find_X8_alike : RM M_X0_find M_X8_alike := ⟨by decide, by decide⟩
theorem rm_X0_init_X8_init : RM M_X0_init M_X8_init := ⟨by decide, by decide⟩
theorem rm_X0_kindsOf_X8_isBeginning : RM M_X0_kindsOf M_X8_isBeginning := ⟨by decide, by decide⟩
theorem rm_X10_agree_X10_compare : RM M_X10_agree M_X10_compare := ⟨by decide, by decide⟩
theorem rm_X10_agree_X10_first : RM M_X10_agree M_X10_first := ⟨by decide, by decide⟩
theorem rm_X10_agree_X10_isName : RM M_X10_agree M_X10_isName := ⟨by decide, by decide⟩
theorem rm_X10_agree_X10_wordOf : RM M_X10_agree M_X10_wordOf := ⟨by decide, by decide⟩
theorem rm_X10_ahead_X10_compare : RM M_X10_ahead M_X10_compare := ⟨by decide, by decide⟩
theorem rm_X10_alike_X10_compare : RM M_X10_alike M_X10_compare := ⟨by decide, by decide⟩
theorem rm_X10_cost_X10_isName : RM M_X10_cost M_X10_isName := ⟨by decide, by decide⟩
theorem rm_X10_cost_X10_reading : RM M_X10_cost M_X10_reading := ⟨by decide, by decide⟩
theorem rm_X10_costOf_X10_entry : RM M_X10_costOf M_X10_entry := ⟨by decide, by decide⟩
theorem rm_X10_costOf_X10_isKept : RM M_X10_costOf M_X10_isKept := ⟨by decide, by decide⟩
theorem rm_X10_endingRead_X10_see : RM M_X10_endingRead M_X10_see := ⟨by decide, by decide⟩
theorem rm_X10_endingRead_X10_wrong : RM M_X10_endingRead M_X10_wrong := ⟨by decide, by decide⟩
theorem rm_X10_fallen_X10_alike : RM M_X10_fallen M_X10_alike := ⟨by decide, by decide⟩
theorem rm_X10_fallen_X10_overAlike : RM M_X10_fallen M_X10_overAlike := ⟨by decide, by decide⟩
theorem rm_X10_father_X10_first : RM M_X10_father M_X10_first := ⟨by decide, by decide⟩
theorem rm_X10_father_X10_isName : RM M_X10_father M_X10_isName := ⟨by decide, by decide⟩
theorem rm_X10_father_X10_wordOf : RM M_X10_father M_X10_wordOf := ⟨by decide, by decide⟩
theorem rm_X10_fill_X10_costOf : RM M_X10_fill M_X10_costOf := ⟨by decide, by decide⟩
theorem rm_X10_fill_X10_goes : RM M_X10_fill M_X10_goes := ⟨by decide, by decide⟩
theorem rm_X10_fill_X10_slips : RM M_X10_fill M_X10_slips := ⟨by decide, by decide⟩
theorem rm_X10_first_X10_kindIn : RM M_X10_first M_X10_kindIn := ⟨by decide, by decide⟩
theorem rm_X10_first_X10_reading : RM M_X10_first M_X10_reading := ⟨by decide, by decide⟩
theorem rm_X10_firstAll_X10_first : RM M_X10_firstAll M_X10_first := ⟨by decide, by decide⟩
theorem rm_X10_forget_X10_entry : RM M_X10_forget M_X10_entry := ⟨by decide, by decide⟩
theorem rm_X10_forget_X10_isKept : RM M_X10_forget M_X10_isKept := ⟨by decide, by decide⟩
theorem rm_X10_forget_X10_isWord : RM M_X10_forget M_X10_isWord := ⟨by decide, by decide⟩
theorem rm_X10_isWord_X10_isLetter : RM M_X10_isWord M_X10_isLetter := ⟨by decide, by decide⟩
theorem rm_X10_kind_X10_isName : RM M_X10_kind M_X10_isName := ⟨by decide, by decide⟩
theorem rm_X10_kind_X10_kindIn : RM M_X10_kind M_X10_kindIn := ⟨by decide, by decide⟩
theorem rm_X10_kind_X10_reading : RM M_X10_kind M_X10_reading := ⟨by decide, by decide⟩
theorem rm_X10_know_X10_entry : RM M_X10_know M_X10_entry := ⟨by decide, by decide⟩
theorem rm_X10_know_X10_isKept : RM M_X10_know M_X10_isKept := ⟨by decide, by decide⟩
theorem rm_X10_know_X10_isWord : RM M_X10_know M_X10_isWord := ⟨by decide, by decide⟩
theorem rm_X10_lettersRead_X10_kindOf : RM M_X10_lettersRead M_X10_kindOf := ⟨by decide, by decide⟩
theorem rm_X10_lettersRead_X10_see : RM M_X10_lettersRead M_X10_see := ⟨by decide, by decide⟩
theorem rm_X10_lettersRead_X10_wrong : RM M_X10_lettersRead M_X10_wrong := ⟨by decide, by decide⟩
theorem rm_X10_look_X10_fails : RM M_X10_look M_X10_fails := ⟨by decide, by decide⟩
theorem rm_X10_look_X10_first : RM M_X10_look M_X10_first := ⟨by decide, by decide⟩
theorem rm_X10_look_X10_isName : RM M_X10_look M_X10_isName := ⟨by decide, by decide⟩
theorem rm_X10_look_X10_orderAll : RM M_X10_look M_X10_orderAll := ⟨by decide, by decide⟩
theorem rm_X10_look_X10_pick : RM M_X10_look M_X10_pick := ⟨by decide, by decide⟩
theorem rm_X10_look_X10_placeOf : RM M_X10_look M_X10_placeOf := ⟨by decide, by decide⟩
theorem rm_X10_look_X10_signs : RM M_X10_look M_X10_signs := ⟨by decide, by decide⟩
theorem rm_X10_name_X10_isWord : RM M_X10_name M_X10_isWord := ⟨by decide, by decide⟩
theorem rm_X10_order_X10_orderAll : RM M_X10_order M_X10_orderAll := ⟨by decide, by decide⟩
theorem rm_X10_order_X10_placeOf : RM M_X10_order M_X10_placeOf := ⟨by decide, by decide⟩
theorem rm_X10_orderAll_X10_firstAll : RM M_X10_orderAll M_X10_firstAll := ⟨by decide, by decide⟩
theorem rm_X10_orderAll_X10_pick : RM M_X10_orderAll M_X10_pick := ⟨by decide, by decide⟩
theorem rm_X10_overAlike_X10_over : RM M_X10_overAlike M_X10_over := ⟨by decide, by decide⟩
theorem rm_X10_overAlike_X10_signs : RM M_X10_overAlike M_X10_signs := ⟨by decide, by decide⟩
theorem rm_X10_placeOf_X10_ahead : RM M_X10_placeOf M_X10_ahead := ⟨by decide, by decide⟩
theorem rm_X10_reading_X10_fill : RM M_X10_reading M_X10_fill := ⟨by decide, by decide⟩
theorem rm_X10_readings_X10_fill : RM M_X10_readings M_X10_fill := ⟨by decide, by decide⟩
theorem rm_X10_readings_X10_isName : RM M_X10_readings M_X10_isName := ⟨by decide, by decide⟩
theorem rm_X10_shape_X10_endingRead : RM M_X10_shape M_X10_endingRead := ⟨by decide, by decide⟩
theorem rm_X10_shape_X10_lettersRead : RM M_X10_shape M_X10_lettersRead := ⟨by decide, by decide⟩
theorem rm_X10_shape_X10_slotsRead : RM M_X10_shape M_X10_slotsRead := ⟨by decide, by decide⟩
theorem rm_X10_sign_X10_first : RM M_X10_sign M_X10_first := ⟨by decide, by decide⟩
theorem rm_X10_sign_X10_isName : RM M_X10_sign M_X10_isName := ⟨by decide, by decide⟩
theorem rm_X10_sign_X10_over : RM M_X10_sign M_X10_over := ⟨by decide, by decide⟩
theorem rm_X10_sign_X10_pick : RM M_X10_sign M_X10_pick := ⟨by decide, by decide⟩
theorem rm_X10_signs_X10_first : RM M_X10_signs M_X10_first := ⟨by decide, by decide⟩
theorem rm_X10_signs_X10_pick : RM M_X10_signs M_X10_pick := ⟨by decide, by decide⟩
theorem rm_X10_slotsRead_X10_kindOf : RM M_X10_slotsRead M_X10_kindOf := ⟨by decide, by decide⟩
theorem rm_X10_slotsRead_X10_see : RM M_X10_slotsRead M_X10_see := ⟨by decide, by decide⟩
theorem rm_X10_slotsRead_X10_wrong : RM M_X10_slotsRead M_X10_wrong := ⟨by decide, by decide⟩
theorem rm_X1_addWord_X1_add : RM M_X1_addWord M_X1_add := ⟨by decide, by decide⟩
theorem rm_X2_alikeFolded_X8_alike : RM M_X2_alikeFolded M_X8_alike := ⟨by decide, by decide⟩
theorem rm_X2_init_X1_init : RM M_X2_init M_X1_init := ⟨by decide, by decide⟩
theorem rm_X2_init_X8_init : RM M_X2_init M_X8_init := ⟨by decide, by decide⟩
theorem rm_X2_isBefore_X8_compareLetters : RM M_X2_isBefore M_X8_compareLetters := ⟨by decide, by decide⟩
theorem rm_X2_take_X8_take : RM M_X2_take M_X8_take := ⟨by decide, by decide⟩
theorem rm_X3_costOfRow_X3_costIn : RM M_X3_costOfRow M_X3_costIn := ⟨by decide, by decide⟩
theorem rm_X3_costOfRow_X3_isRow : RM M_X3_costOfRow M_X3_isRow := ⟨by decide, by decide⟩
theorem rm_X3_init_X4_init : RM M_X3_init M_X4_init := ⟨by decide, by decide⟩
theorem rm_X3_kindInRow_X3_isRow : RM M_X3_kindInRow M_X3_isRow := ⟨by decide, by decide⟩
theorem rm_X3_lengthenRows_X3_leastFrom : RM M_X3_lengthenRows M_X3_leastFrom := ⟨by decide, by decide⟩
theorem rm_X3_lengthenRows_X3_swapRows : RM M_X3_lengthenRows M_X3_swapRows := ⟨by decide, by decide⟩
theorem rm_X3_lengthenRows_X4_openBehind : RM M_X3_lengthenRows M_X4_openBehind := ⟨by decide, by decide⟩
theorem rm_X3_listRows_X3_leastFrom : RM M_X3_listRows M_X3_leastFrom := ⟨by decide, by decide⟩
theorem rm_X3_listRows_X3_lengthenRows : RM M_X3_listRows M_X3_lengthenRows := ⟨by decide, by decide⟩
theorem rm_X3_listRows_X3_sortByCost : RM M_X3_listRows M_X3_sortByCost := ⟨by decide, by decide⟩
theorem rm_X3_readFirst_X3_leastFrom : RM M_X3_readFirst M_X3_leastFrom := ⟨by decide, by decide⟩
theorem rm_X3_readFirst_X4_openBehind : RM M_X3_readFirst M_X4_openBehind := ⟨by decide, by decide⟩
theorem rm_X3_sortByCost_X3_costIn : RM M_X3_sortByCost M_X3_costIn := ⟨by decide, by decide⟩
theorem rm_X3_sortByCost_X3_swapRows : RM M_X3_sortByCost M_X3_swapRows := ⟨by decide, by decide⟩
theorem rm_X3_weigh_X3_leastFrom : RM M_X3_weigh M_X3_leastFrom := ⟨by decide, by decide⟩
theorem rm_X3_weigh_X3_weighWord : RM M_X3_weigh M_X3_weighWord := ⟨by decide, by decide⟩
theorem rm_X3_weighWord_X0_kindsOf : RM M_X3_weighWord M_X0_kindsOf := ⟨by decide, by decide⟩
theorem rm_X3_weighWord_X4_isMade : RM M_X3_weighWord M_X4_isMade := ⟨by decide, by decide⟩
theorem rm_X4_isMade_X8_endsWith : RM M_X4_isMade M_X8_endsWith := ⟨by decide, by decide⟩
theorem rm_X4_link_X4_openFrom : RM M_X4_link M_X4_openFrom := ⟨by decide, by decide⟩
theorem rm_X4_makes_X4_isMade : RM M_X4_makes M_X4_isMade := ⟨by decide, by decide⟩
theorem rm_X4_makes_X8_isBeginning : RM M_X4_makes M_X8_isBeginning := ⟨by decide, by decide⟩
theorem rm_X5_kindHere_X5_here : RM M_X5_kindHere M_X5_here := ⟨by decide, by decide⟩
theorem rm_X5_pass_X5_here : RM M_X5_pass M_X5_here := ⟨by decide, by decide⟩
theorem rm_X5_pass_X5_stopWith : RM M_X5_pass M_X5_stopWith := ⟨by decide, by decide⟩
theorem rm_X5_readEnding_X5_here : RM M_X5_readEnding M_X5_here := ⟨by decide, by decide⟩
theorem rm_X5_readEnding_X5_stopWith : RM M_X5_readEnding M_X5_stopWith := ⟨by decide, by decide⟩
theorem rm_X5_readEnding_X9_isSmall : RM M_X5_readEnding M_X9_isSmall := ⟨by decide, by decide⟩
theorem rm_X5_readInto_X4_link : RM M_X5_readInto M_X4_link := ⟨by decide, by decide⟩
theorem rm_X5_readInto_X5_pass : RM M_X5_readInto M_X5_pass := ⟨by decide, by decide⟩
theorem rm_X5_readInto_X5_readEnding : RM M_X5_readInto M_X5_readEnding := ⟨by decide, by decide⟩
theorem rm_X5_readInto_X5_readLetters : RM M_X5_readInto M_X5_readLetters := ⟨by decide, by decide⟩
theorem rm_X5_readInto_X5_readSlots : RM M_X5_readInto M_X5_readSlots := ⟨by decide, by decide⟩
theorem rm_X5_readInto_X5_stopWith : RM M_X5_readInto M_X5_stopWith := ⟨by decide, by decide⟩
theorem rm_X5_readLetters_X5_kindHere : RM M_X5_readLetters M_X5_kindHere := ⟨by decide, by decide⟩
theorem rm_X5_readLetters_X5_pass : RM M_X5_readLetters M_X5_pass := ⟨by decide, by decide⟩
theorem rm_X5_readLetters_X5_stopWith : RM M_X5_readLetters M_X5_stopWith := ⟨by decide, by decide⟩
theorem rm_X5_readSlots_X5_here : RM M_X5_readSlots M_X5_here := ⟨by decide, by decide⟩
theorem rm_X5_readSlots_X5_kindHere : RM M_X5_readSlots M_X5_kindHere := ⟨by decide, by decide⟩
theorem rm_X5_readSlots_X5_pass : RM M_X5_readSlots M_X5_pass := ⟨by decide, by decide⟩
theorem rm_X5_readSlots_X5_stopWith : RM M_X5_readSlots M_X5_stopWith := ⟨by decide, by decide⟩
theorem rm_X6_change_X9_isSmall : RM M_X6_change M_X9_isSmall := ⟨by decide, by decide⟩
theorem rm_X6_putOver_X1_add : RM M_X6_putOver M_X1_add := ⟨by decide, by decide⟩
theorem rm_X8_alike_X8_isBeginning : RM M_X8_alike M_X8_isBeginning := ⟨by decide, by decide⟩
theorem rm_X8_fits_X8_alike : RM M_X8_fits M_X8_alike := ⟨by decide, by decide⟩
theorem rm_X8_fits_X8_isBeginning : RM M_X8_fits M_X8_isBeginning := ⟨by decide, by decide⟩
theorem rm_X8_take_X8_takeSign : RM M_X8_take M_X8_takeSign := ⟨by decide, by decide⟩
theorem rm_X8_takeSign_X9_isBig : RM M_X8_takeSign M_X9_isBig := ⟨by decide, by decide⟩
theorem rm_X8_takeSign_X9_isSmall : RM M_X8_takeSign M_X9_isSmall := ⟨by decide, by decide⟩
theorem rm_X9_agree_X9_fittingGiven : RM M_X9_agree M_X9_fittingGiven := ⟨by decide, by decide⟩
theorem rm_X9_agree_X9_freshName : RM M_X9_agree M_X9_freshName := ⟨by decide, by decide⟩
theorem rm_X9_agree_X9_isName : RM M_X9_agree M_X9_isName := ⟨by decide, by decide⟩
theorem rm_X9_agree_X9_sameFamily : RM M_X9_agree M_X9_sameFamily := ⟨by decide, by decide⟩
theorem rm_X9_cost_X3_costOfRow : RM M_X9_cost M_X3_costOfRow := ⟨by decide, by decide⟩
theorem rm_X9_cost_X9_isName : RM M_X9_cost M_X9_isName := ⟨by decide, by decide⟩
theorem rm_X9_cost_X9_listReadings : RM M_X9_cost M_X9_listReadings := ⟨by decide, by decide⟩
theorem rm_X9_count_X9_shapeCount : RM M_X9_count M_X9_shapeCount := ⟨by decide, by decide⟩
theorem rm_X9_fallen_X1_alike : RM M_X9_fallen M_X1_alike := ⟨by decide, by decide⟩
theorem rm_X9_fallen_X2_alikeFolded : RM M_X9_fallen M_X2_alikeFolded := ⟨by decide, by decide⟩
theorem rm_X9_fallen_X9_putLine : RM M_X9_fallen M_X9_putLine := ⟨by decide, by decide⟩
theorem rm_X9_father_X2_nextOf : RM M_X9_father M_X2_nextOf := ⟨by decide, by decide⟩
theorem rm_X9_father_X4_makes : RM M_X9_father M_X4_makes := ⟨by decide, by decide⟩
theorem rm_X9_father_X9_freshName : RM M_X9_father M_X9_freshName := ⟨by decide, by decide⟩
theorem rm_X9_father_X9_isName : RM M_X9_father M_X9_isName := ⟨by decide, by decide⟩
theorem rm_X9_feed_X7_add : RM M_X9_feed M_X7_add := ⟨by decide, by decide⟩
theorem rm_X9_fittingGiven_X2_nextOf : RM M_X9_fittingGiven M_X2_nextOf := ⟨by decide, by decide⟩
theorem rm_X9_fittingGiven_X8_fits : RM M_X9_fittingGiven M_X8_fits := ⟨by decide, by decide⟩
theorem rm_X9_forget_X0_find : RM M_X9_forget M_X0_find := ⟨by decide, by decide⟩
theorem rm_X9_forget_X0_remove : RM M_X9_forget M_X0_remove := ⟨by decide, by decide⟩
theorem rm_X9_forget_X9_isEntry : RM M_X9_forget M_X9_isEntry := ⟨by decide, by decide⟩
theorem rm_X9_forget_X9_landChanged : RM M_X9_forget M_X9_landChanged := ⟨by decide, by decide⟩
theorem rm_X9_freshName_X2_choose : RM M_X9_freshName M_X2_choose := ⟨by decide, by decide⟩
theorem rm_X9_freshName_X3_readFirst : RM M_X9_freshName M_X3_readFirst := ⟨by decide, by decide⟩
theorem rm_X9_freshName_X3_weigh : RM M_X9_freshName M_X3_weigh := ⟨by decide, by decide⟩
theorem rm_X9_init_X0_init : RM M_X9_init M_X0_init := ⟨by decide, by decide⟩
theorem rm_X9_init_X1_init : RM M_X9_init M_X1_init := ⟨by decide, by decide⟩
theorem rm_X9_init_X2_init : RM M_X9_init M_X2_init := ⟨by decide, by decide⟩
theorem rm_X9_init_X3_init : RM M_X9_init M_X3_init := ⟨by decide, by decide⟩
theorem rm_X9_init_X4_init : RM M_X9_init M_X4_init := ⟨by decide, by decide⟩
theorem rm_X9_init_X5_init : RM M_X9_init M_X5_init := ⟨by decide, by decide⟩
theorem rm_X9_init_X6_init : RM M_X9_init M_X6_init := ⟨by decide, by decide⟩
theorem rm_X9_init_X7_init : RM M_X9_init M_X7_init := ⟨by decide, by decide⟩
theorem rm_X9_init_X8_init : RM M_X9_init M_X8_init := ⟨by decide, by decide⟩
theorem rm_X9_isEntry_X7_holds : RM M_X9_isEntry M_X7_holds := ⟨by decide, by decide⟩
theorem rm_X9_isEntry_X8_take : RM M_X9_isEntry M_X8_take := ⟨by decide, by decide⟩
theorem rm_X9_isEntry_X9_isLand : RM M_X9_isEntry M_X9_isLand := ⟨by decide, by decide⟩
theorem rm_X9_kind_X3_kindInRow : RM M_X9_kind M_X3_kindInRow := ⟨by decide, by decide⟩
theorem rm_X9_kind_X9_isName : RM M_X9_kind M_X9_isName := ⟨by decide, by decide⟩
theorem rm_X9_kind_X9_listReadings : RM M_X9_kind M_X9_listReadings := ⟨by decide, by decide⟩
theorem rm_X9_know_X0_add : RM M_X9_know M_X0_add := ⟨by decide, by decide⟩
theorem rm_X9_know_X0_find : RM M_X9_know M_X0_find := ⟨by decide, by decide⟩
theorem rm_X9_know_X9_isEntry : RM M_X9_know M_X9_isEntry := ⟨by decide, by decide⟩
theorem rm_X9_know_X9_landChanged : RM M_X9_know M_X9_landChanged := ⟨by decide, by decide⟩
theorem rm_X9_lineOf_X1_addWord : RM M_X9_lineOf M_X1_addWord := ⟨by decide, by decide⟩
theorem rm_X9_lineOf_X2_choose : RM M_X9_lineOf M_X2_choose := ⟨by decide, by decide⟩
theorem rm_X9_lineOf_X9_freshName : RM M_X9_lineOf M_X9_freshName := ⟨by decide, by decide⟩
theorem rm_X9_lineOf_X9_putLine : RM M_X9_lineOf M_X9_putLine := ⟨by decide, by decide⟩
theorem rm_X9_listReadings_X3_listRows : RM M_X9_listReadings M_X3_listRows := ⟨by decide, by decide⟩
theorem rm_X9_listReadings_X3_weigh : RM M_X9_listReadings M_X3_weigh := ⟨by decide, by decide⟩
theorem rm_X9_look_X9_freshName : RM M_X9_look M_X9_freshName := ⟨by decide, by decide⟩
theorem rm_X9_look_X9_isName : RM M_X9_look M_X9_isName := ⟨by decide, by decide⟩
theorem rm_X9_look_X9_lineOf : RM M_X9_look M_X9_lineOf := ⟨by decide, by decide⟩
theorem rm_X9_look_X9_placeInRanking : RM M_X9_look M_X9_placeInRanking := ⟨by decide, by decide⟩
theorem rm_X9_look_X9_rank : RM M_X9_look M_X9_rank := ⟨by decide, by decide⟩
theorem rm_X9_name_X2_take : RM M_X9_name M_X2_take := ⟨by decide, by decide⟩
theorem rm_X9_name_X7_holds : RM M_X9_name M_X7_holds := ⟨by decide, by decide⟩
theorem rm_X9_name_X9_isLand : RM M_X9_name M_X9_isLand := ⟨by decide, by decide⟩
theorem rm_X9_order_X9_isName : RM M_X9_order M_X9_isName := ⟨by decide, by decide⟩
theorem rm_X9_order_X9_rank : RM M_X9_order M_X9_rank := ⟨by decide, by decide⟩
theorem rm_X9_putLine_X6_putOver : RM M_X9_putLine M_X6_putOver := ⟨by decide, by decide⟩
theorem rm_X9_rank_X2_isBefore : RM M_X9_rank M_X2_isBefore := ⟨by decide, by decide⟩
theorem rm_X9_rank_X9_freshName : RM M_X9_rank M_X9_freshName := ⟨by decide, by decide⟩
theorem rm_X9_readings_X3_rowsUpTo : RM M_X9_readings M_X3_rowsUpTo := ⟨by decide, by decide⟩
theorem rm_X9_readings_X9_isName : RM M_X9_readings M_X9_isName := ⟨by decide, by decide⟩
theorem rm_X9_readings_X9_listReadings : RM M_X9_readings M_X9_listReadings := ⟨by decide, by decide⟩
theorem rm_X9_sameFamily_X2_nextOf : RM M_X9_sameFamily M_X2_nextOf := ⟨by decide, by decide⟩
theorem rm_X9_sameFamily_X8_alike : RM M_X9_sameFamily M_X8_alike := ⟨by decide, by decide⟩
theorem rm_X9_shape_X5_readInto : RM M_X9_shape M_X5_readInto := ⟨by decide, by decide⟩
theorem rm_X9_shape_X7_holds : RM M_X9_shape M_X7_holds := ⟨by decide, by decide⟩
theorem rm_X9_shape_X9_isLand : RM M_X9_shape M_X9_isLand := ⟨by decide, by decide⟩
theorem rm_X9_shape_X9_landChanged : RM M_X9_shape M_X9_landChanged := ⟨by decide, by decide⟩
theorem rm_X9_sign_X1_signAt : RM M_X9_sign M_X1_signAt := ⟨by decide, by decide⟩
theorem rm_X9_sign_X9_isName : RM M_X9_sign M_X9_isName := ⟨by decide, by decide⟩
theorem rm_X9_sign_X9_lineOf : RM M_X9_sign M_X9_lineOf := ⟨by decide, by decide⟩
theorem rm_X9_table_X6_change : RM M_X9_table M_X6_change := ⟨by decide, by decide⟩
theorem rm_X9_table_X7_holds : RM M_X9_table M_X7_holds := ⟨by decide, by decide⟩
end
section
/-! derived rows: in numbers; calls that make nothing -/
section ROWS2
variable {E : En} {M : Mt} {kc ks pc : Nat} {ls : List (Option Value)} {st : List Value} {μ : Mm} {Q : Option Value → Mm → Prop}
theorem ii1 (i : Nat) : nI i + Int32.ofInt 1 = nI (i + 1) := nI_1 i
theorem ii6 (i : Nat) : nI i + Int32.ofInt 6 = nI (i + 6) := nI_add i 6
theorem iim1 (i : Nat) : nI (i + 1) + Int32.ofInt (-1) = nI i := pk_m1 i
def bI (b : Bool) : Int32 := if b then 1 else 0
theorem bI01 (b : Bool) : bI b = 0 ∨ bI b = 1 := by cases b; exact Or.inl rfl; exact Or.inr rfl
theorem bI_t {b : Bool} (h : b = true) : bI b = nI 1 := by subst h; rfl
theorem bI_f {b : Bool} (h : b = false) : bI b = nI 0 := by subst h; rfl
theorem bI_0 {b : Bool} : bI b = 0 ↔ b = false := by cases b <;> decide
theorem z0 : nI 0 = 0 ∨ nI 0 = 1 := Or.inl rfl
theorem z1 : nI 1 = 0 ∨ nI 1 = 1 := Or.inr rfl
theorem e_iaddN {x y : Int32} {a b : Nat} (n : Nat) (hp : pc + 1 = n) (hd : decode M.2.1 pc = .ok (.iadd, 1)) (hx : x = nI a) (hy : y = nI b) (k : Ev E M kc ks n ls (.int (nI (a + b)) :: st) μ Q) : Ev E M kc ks pc ls (.int y :: .int x :: st) μ Q := e_iadd n hp hd (by rw [hx, hy, nI_add]; exact k)
theorem e_imulN {x y : Int32} {a b : Nat} (n : Nat) (hp : pc + 1 = n) (hd : decode M.2.1 pc = .ok (.imul, 1)) (hx : x = nI a) (hy : y = nI b) (k : Ev E M kc ks n ls (.int (nI (a * b)) :: st) μ Q) : Ev E M kc ks pc ls (.int y :: .int x :: st) μ Q := e_imul n hp hd (by rw [hx, hy, pk_mul]; exact k)
theorem e_isubN {x y : Int32} {a b : Nat} (n : Nat) (hp : pc + 1 = n) (hd : decode M.2.1 pc = .ok (.isub, 1)) (hx : x = nI a) (hy : y = nI b) (h : b ≤ a) (k : Ev E M kc ks n ls (.int (nI (a - b)) :: st) μ Q) : Ev E M kc ks pc ls (.int y :: .int x :: st) μ Q := e_isub n hp hd (by rw [hx, hy, pk_sub h]; exact k)
theorem e_cmp_eqN {x y : Int32} {a b : Nat} {off : Int} (t n : Nat) (ht : (pc : Int) + off = (t : Int)) (hp : pc + 3 = n) (hd : decode M.2.1 pc = .ok (.if_icmp .eq off, 3)) (hx : x = nI a) (hy : y = nI b) (ha : a < 2 ^ 31) (hb : b < 2 ^ 31) (k1 : a = b → Ev E M kc ks t ls st μ Q) (k2 : a ≠ b → Ev E M kc ks n ls st μ Q) : Ev E M kc ks pc ls (.int y :: .int x :: st) μ Q := by
  subst hx; subst hy
  have E9 := (nI_eq ha hb)
  exact e_cmp_eq t n ht hp hd (fun h => k1 (E9.mp h)) (fun h => k2 (fun q => h (E9.mpr q)))
theorem e_cmp_ltN {x y : Int32} {a b : Nat} {off : Int} (t n : Nat) (ht : (pc : Int) + off = (t : Int)) (hp : pc + 3 = n) (hd : decode M.2.1 pc = .ok (.if_icmp .lt off, 3)) (hx : x = nI a) (hy : y = nI b) (ha : a < 2 ^ 31) (hb : b < 2 ^ 31) (k1 : a < b → Ev E M kc ks t ls st μ Q) (k2 : b ≤ a → Ev E M kc ks n ls st μ Q) : Ev E M kc ks pc ls (.int y :: .int x :: st) μ Q := by
  subst hx; subst hy
  have E9 := (nI_ltI ha hb)
  exact e_cmp_lt t n ht hp hd (fun h => k1 (E9.mp h)) (fun h => k2 (by have h9 : ¬ (a < b) := fun q => h (E9.mpr q); omega))
theorem e_cmp_geN {x y : Int32} {a b : Nat} {off : Int} (t n : Nat) (ht : (pc : Int) + off = (t : Int)) (hp : pc + 3 = n) (hd : decode M.2.1 pc = .ok (.if_icmp .ge off, 3)) (hx : x = nI a) (hy : y = nI b) (ha : a < 2 ^ 31) (hb : b < 2 ^ 31) (k1 : b ≤ a → Ev E M kc ks t ls st μ Q) (k2 : a < b → Ev E M kc ks n ls st μ Q) : Ev E M kc ks pc ls (.int y :: .int x :: st) μ Q := by
  subst hx; subst hy
  have E9 := (nI_leI hb ha)
  exact e_cmp_ge t n ht hp hd (fun h => k1 (E9.mp h)) (fun h => k2 (by have h9 : ¬ (b ≤ a) := fun q => h (E9.mpr q); omega))
theorem e_cmp_gtN {x y : Int32} {a b : Nat} {off : Int} (t n : Nat) (ht : (pc : Int) + off = (t : Int)) (hp : pc + 3 = n) (hd : decode M.2.1 pc = .ok (.if_icmp .gt off, 3)) (hx : x = nI a) (hy : y = nI b) (ha : a < 2 ^ 31) (hb : b < 2 ^ 31) (k1 : b < a → Ev E M kc ks t ls st μ Q) (k2 : a ≤ b → Ev E M kc ks n ls st μ Q) : Ev E M kc ks pc ls (.int y :: .int x :: st) μ Q := by
  subst hx; subst hy
  have E9 := (nI_ltI hb ha)
  exact e_cmp_gt t n ht hp hd (fun h => k1 (E9.mp h)) (fun h => k2 (by have h9 : ¬ (b < a) := fun q => h (E9.mpr q); omega))
theorem e_cmp_leN {x y : Int32} {a b : Nat} {off : Int} (t n : Nat) (ht : (pc : Int) + off = (t : Int)) (hp : pc + 3 = n) (hd : decode M.2.1 pc = .ok (.if_icmp .le off, 3)) (hx : x = nI a) (hy : y = nI b) (ha : a < 2 ^ 31) (hb : b < 2 ^ 31) (k1 : a ≤ b → Ev E M kc ks t ls st μ Q) (k2 : b < a → Ev E M kc ks n ls st μ Q) : Ev E M kc ks pc ls (.int y :: .int x :: st) μ Q := by
  subst hx; subst hy
  have E9 := (nI_leI ha hb)
  exact e_cmp_le t n ht hp hd (fun h => k1 (E9.mp h)) (fun h => k2 (by have h9 : ¬ (a ≤ b) := fun q => h (E9.mpr q); omega))
theorem e_cmp_neN {x y : Int32} {a b : Nat} {off : Int} (t n : Nat) (ht : (pc : Int) + off = (t : Int)) (hp : pc + 3 = n) (hd : decode M.2.1 pc = .ok (.if_icmp .ne off, 3)) (hx : x = nI a) (hy : y = nI b) (ha : a < 2 ^ 31) (hb : b < 2 ^ 31) (k1 : a ≠ b → Ev E M kc ks t ls st μ Q) (k2 : a = b → Ev E M kc ks n ls st μ Q) : Ev E M kc ks pc ls (.int y :: .int x :: st) μ Q := by
  subst hx; subst hy
  have E9 := nI_eq ha hb
  exact e_cmp_ne t n ht hp hd (fun h => k1 (fun q => h (E9.mpr q))) (fun h => k2 (E9.mp h))
theorem e_if_eqN {x : Int32} {a : Nat} {off : Int} (t n : Nat) (ht : (pc : Int) + off = (t : Int)) (hp : pc + 3 = n) (hd : decode M.2.1 pc = .ok (.ifCond .eq off, 3)) (hx : x = nI a) (ha : a < 2 ^ 31) (k1 : a = 0 → Ev E M kc ks t ls st μ Q) (k2 : a ≠ 0 → Ev E M kc ks n ls st μ Q) : Ev E M kc ks pc ls (.int x :: st) μ Q := by subst hx; exact e_if_eq t n ht hp hd (fun h => k1 ((nI_eq ha (by decide : 0 < 2 ^ 31)).mp h)) (fun h => k2 (fun q => h (by rw [q]; rfl)))
theorem e_if_neN {x : Int32} {a : Nat} {off : Int} (t n : Nat) (ht : (pc : Int) + off = (t : Int)) (hp : pc + 3 = n) (hd : decode M.2.1 pc = .ok (.ifCond .ne off, 3)) (hx : x = nI a) (ha : a < 2 ^ 31) (k1 : a ≠ 0 → Ev E M kc ks t ls st μ Q) (k2 : a = 0 → Ev E M kc ks n ls st μ Q) : Ev E M kc ks pc ls (.int x :: st) μ Q := by subst hx; exact e_if_ne t n ht hp hd (fun h => k1 (fun q => h (by rw [q]; rfl))) (fun h => k2 ((nI_eq ha (by decide : 0 < 2 ^ 31)).mp h))
theorem e_if_ltN {x : Int32} {a : Nat} {off : Int} (t n : Nat) (ht : (pc : Int) + off = (t : Int)) (hp : pc + 3 = n) (hd : decode M.2.1 pc = .ok (.ifCond .lt off, 3)) (hx : x = nI a) (ha : a < 2 ^ 31) (k2 : Ev E M kc ks n ls st μ Q) : Ev E M kc ks pc ls (.int x :: st) μ Q := by subst hx; exact e_if_lt t n ht hp hd (fun h => absurd h (nI_pos ha)) (fun _ => k2)
theorem e_if_geN {x : Int32} {a : Nat} {off : Int} (t n : Nat) (ht : (pc : Int) + off = (t : Int)) (hp : pc + 3 = n) (hd : decode M.2.1 pc = .ok (.ifCond .ge off, 3)) (hx : x = nI a) (ha : a < 2 ^ 31) (k1 : Ev E M kc ks t ls st μ Q) : Ev E M kc ks pc ls (.int x :: st) μ Q := by subst hx; exact e_if_ge t n ht hp hd (fun _ => k1) (fun h => absurd (nI_pos' ha) h)
theorem e_if_gtN {x : Int32} {a : Nat} {off : Int} (t n : Nat) (ht : (pc : Int) + off = (t : Int)) (hp : pc + 3 = n) (hd : decode M.2.1 pc = .ok (.ifCond .gt off, 3)) (hx : x = nI a) (ha : a < 2 ^ 31) (k1 : 0 < a → Ev E M kc ks t ls st μ Q) (k2 : a = 0 → Ev E M kc ks n ls st μ Q) : Ev E M kc ks pc ls (.int x :: st) μ Q := by subst hx; exact e_if_gt t n ht hp hd (fun h => k1 ((nI_ltI (by decide : 0 < 2 ^ 31) ha).mp h)) (fun h => k2 (by have h9 : ¬ (0 < a) := fun q => h ((nI_ltI (by decide : 0 < 2 ^ 31) ha).mpr q); omega))
theorem e_if_leN {x : Int32} {a : Nat} {off : Int} (t n : Nat) (ht : (pc : Int) + off = (t : Int)) (hp : pc + 3 = n) (hd : decode M.2.1 pc = .ok (.ifCond .le off, 3)) (hx : x = nI a) (ha : a < 2 ^ 31) (k1 : a = 0 → Ev E M kc ks t ls st μ Q) (k2 : 0 < a → Ev E M kc ks n ls st μ Q) : Ev E M kc ks pc ls (.int x :: st) μ Q := by subst hx; exact e_if_le t n ht hp hd (fun h => k1 (by have := (nI_leI ha (by decide : 0 < 2 ^ 31)).mp h; omega)) (fun h => k2 (by have h9 : ¬ (a ≤ 0) := fun q => h ((nI_leI ha (by decide : 0 < 2 ^ 31)).mpr q); omega))
theorem e_if_eqB {x : Int32} {b : Bool} {off : Int} (t n : Nat) (ht : (pc : Int) + off = (t : Int)) (hp : pc + 3 = n) (hd : decode M.2.1 pc = .ok (.ifCond .eq off, 3)) (hx : x = bI b) (k1 : b = false → Ev E M kc ks t ls st μ Q) (k2 : b = true → Ev E M kc ks n ls st μ Q) : Ev E M kc ks pc ls (.int x :: st) μ Q := by subst hx; exact e_if_eq t n ht hp hd (fun h => k1 (bI_0.mp h)) (fun h => k2 (by cases b; exact absurd rfl h; rfl))
theorem e_if_neB {x : Int32} {b : Bool} {off : Int} (t n : Nat) (ht : (pc : Int) + off = (t : Int)) (hp : pc + 3 = n) (hd : decode M.2.1 pc = .ok (.ifCond .ne off, 3)) (hx : x = bI b) (k1 : b = true → Ev E M kc ks t ls st μ Q) (k2 : b = false → Ev E M kc ks n ls st μ Q) : Ev E M kc ks pc ls (.int x :: st) μ Q := by subst hx; exact e_if_ne t n ht hp hd (fun h => k1 (by cases b; exact absurd rfl h; rfl)) (fun h => k2 (bI_0.mp h))
theorem e_invV0 {N : Mt} {idx ci na b : Nat} (As : List Value) {rest st0 : List Value} (n : Nat) (hp : pc + 3 = n) (hd : decode M.2.1 pc = .ok (.invokevirtual idx, 3)) (hV : LV M.1.cls idx ci N) (hO : MO N na) (hRm : RM M N) (hz : N.2.2.2.2.cells = 0 ∧ N.2.2.2.2.slots = 0) (hna : As.length = na) (hst : st0 = (As.reverse ++ .ref b :: rest)) (hk : mK μ b = ci + 1) (hrest : (rest.map fun v => v.category).sum ≤ 8) (k : Cl E N (.ref b :: As) μ (fun r μ' => Ev E M kc ks n ls (r.toList ++ rest) μ' Q)) : Ev E M kc ks pc ls st0 μ Q := by
  subst hst
  have h := e_invV (kc := kc) (ks := ks) As n hp hd hV hO hRm hna hk hrest k
  rw [hz.1, hz.2] at h; exact h
theorem e_invS0 {N : Mt} {idx na : Nat} (As : List Value) {rest st0 : List Value} (n : Nat) (hp : pc + 3 = n) (hd : decode M.2.1 pc = .ok (.invokestatic idx, 3)) (hV : LStat M.1.cls idx N) (hO : MO N na) (hRm : RM M N) (hz : N.2.2.2.2.cells = 0 ∧ N.2.2.2.2.slots = 0) (hna : As.length = na) (hst : st0 = (As.reverse ++ rest)) (hrest : (rest.map fun v => v.category).sum ≤ 8) (k : Cl E N As μ (fun r μ' => Ev E M kc ks n ls (r.toList ++ rest) μ' Q)) : Ev E M kc ks pc ls st0 μ Q := by
  subst hst
  have h := e_invS (kc := kc) (ks := ks) As n hp hd hV hO hRm hna hrest k
  rw [hz.1, hz.2] at h; exact h
theorem e_invSN0 {N : Mt} {idx na : Nat} (As : List Value) {rest st0 : List Value} (n : Nat) (hp : pc + 3 = n) (hd : decode M.2.1 pc = .ok (.invokestatic idx, 3)) (hV : LSN M.1.cls idx N) (hO : MO N na) (hRm : RM M N) (hz : N.2.2.2.2.cells = 0 ∧ N.2.2.2.2.slots = 0) (hna : As.length = na) (hst : st0 = (As.reverse ++ rest)) (hrest : (rest.map fun v => v.category).sum ≤ 8) (k : Cl E N As μ (fun r μ' => Ev E M kc ks n ls (r.toList ++ rest) μ' Q)) : Ev E M kc ks pc ls st0 μ Q := by
  subst hst
  have h := e_invSN (kc := kc) (ks := ks) As n hp hd hV hO hRm hna hrest k
  rw [hz.1, hz.2] at h; exact h
theorem e_invIB {N : Mt} {idx na b kc' ks' : Nat} (As : List Value) {rest st0 : List Value} (kc ks : Nat) (n : Nat) (hp : pc + 3 = n) (hd : decode M.2.1 pc = .ok (.invokespecial idx, 3)) (hV : LI M.1.cls idx N) (hO : MO N na) (hRm : RM M N) (hc : kc + N.2.2.2.2.cells = kc') (hs : ks + N.2.2.2.2.slots = ks') (hna : As.length = na) (hst : st0 = As.reverse ++ .ref b :: rest) (hrest : (rest.map fun v => v.category).sum ≤ 8) (k : Cl E N (.ref b :: As) μ (fun r μ' => Ev E M kc ks n ls (r.toList ++ rest) μ' Q)) : Ev E M kc' ks' pc ls st0 μ Q := by
  subst hc; subst hs; subst hst; exact e_invI As n hp hd hV hO hRm hna hrest k
theorem e_invINB {N : Mt} {idx na b kc' ks' : Nat} (As : List Value) {rest st0 : List Value} (kc ks : Nat) (n : Nat) (hp : pc + 3 = n) (hd : decode M.2.1 pc = .ok (.invokespecial idx, 3)) (hV : LIN M.1.cls idx N) (hO : MO N na) (hRm : RM M N) (hc : kc + N.2.2.2.2.cells = kc') (hs : ks + N.2.2.2.2.slots = ks') (hna : As.length = na) (hst : st0 = As.reverse ++ .ref b :: rest) (hrest : (rest.map fun v => v.category).sum ≤ 8) (k : Cl E N (.ref b :: As) μ (fun r μ' => Ev E M kc ks n ls (r.toList ++ rest) μ' Q)) : Ev E M kc' ks' pc ls st0 μ Q := by
  subst hc; subst hs; subst hst; exact e_invIN As n hp hd hV hO hRm hna hrest k
theorem e_newB {idx ci N kc' ks' : Nat} (kc ks : Nat) (n : Nat) (hp : pc + 3 = n) (hd : decode M.2.1 pc = .ok (.new idx, 3)) (hN : NC M.1.cls idx ci N) (hc : kc + 1 = kc') (hs : ks + N = ks') (kk : Ev E M kc ks n ls (.ref (mN μ) :: st) (sN μ (ci + 1) 0) Q) : Ev E M kc' ks' pc ls st μ Q := by subst hc; subst hs; exact e_new n hp hd hN kk
theorem e_newaB {at0 : ArrayType} {len k kc' ks' : Nat} {i : Int32} (kc ks : Nat) (n : Nat) (hp : pc + 2 = n) (hd : decode M.2.1 pc = .ok (.newarray at0, 2)) (hk : (k = 0 ∧ newarray.typeOf at0 = .byte) ∨ (k = 1 ∧ newarray.typeOf at0 = .int) ∨ (k = 2 ∧ newarray.typeOf at0 = .long) ∨ (k = 3 ∧ newarray.typeOf at0 = .boolean)) (hw : Cond.arrayClass (newarray.typeOf at0) ∈ wtab) (hi : i = nI len) (hs : len < 100000) (hc : kc + 1 = kc') (hsl : ks + len = ks') (kk : Ev E M kc ks n ls (.ref (mN μ) :: st) (sN μ (k + 12) len) Q) : Ev E M kc' ks' pc ls (.int i :: st) μ Q := by subst hc; subst hsl; exact e_newa n hp hd hk hw hi hs kk
theorem e_newqB {idx len k kc' ks' : Nat} {i : Int32} {C0 : String} (kc ks : Nat) (n : Nat) (hp : pc + 3 = n) (hd : decode M.2.1 pc = .ok (.anewarray idx, 3)) (hk : (k = 0 ∧ C0 = RX2) ∨ (k = 1 ∧ C0 = RX4) ∨ (k = 2 ∧ C0 = RX8)) (hw : Cond.classLink M.1.cls idx C0 ∈ wtab) (hi : i = nI len) (hs : len < 100000) (hc : kc + 1 = kc') (hsl : ks + len = ks') (kk : Ev E M kc ks n ls (.ref (mN μ) :: st) (sN μ (k + 16) len) Q) : Ev E M kc' ks' pc ls (.int i :: st) μ Q := by subst hc; subst hsl; exact e_newq n hp hd hk hw hi hs kk
theorem Cl.of0 {As : List Value} {K : Option Value → Mm → Prop} (nn : Nat) (hy : plainName M.1.cls = true) (hle : (lg_sl As).length ≤ M.2.2.1) (hz : M.2.2.2.2.cells = 0 ∧ M.2.2.2.2.slots = 0) (hls : ent As ++ List.replicate nn none = ls) (k : Ev E M 0 0 0 ls [] μ K) : Cl E M As μ K := by
  refine Cl.of (nn := nn) hy hle hls ?_; rw [hz.1, hz.2]; exact k
theorem ic_0 : Int32.ofInt 0 = nI 0 := by decide
theorem ic_1 : Int32.ofInt 1 = nI 1 := by decide
theorem ic_2 : Int32.ofInt 2 = nI 2 := by decide
theorem ic_3 : Int32.ofInt 3 = nI 3 := by decide
theorem ic_4 : Int32.ofInt 4 = nI 4 := by decide
theorem ic_5 : Int32.ofInt 5 = nI 5 := by decide
theorem ic_m1 : Int32.ofInt (-1) = -1 := by decide
theorem bc_m2 : (Int8.ofInt (-2)).toInt32 = -2 := by decide
theorem bc_6 : (Int8.ofInt 6).toInt32 = nI 6 := by decide
theorem bc_7 : (Int8.ofInt 7).toInt32 = nI 7 := by decide
theorem bc_8 : (Int8.ofInt 8).toInt32 = nI 8 := by decide
theorem bc_9 : (Int8.ofInt 9).toInt32 = nI 9 := by decide
theorem bc_12 : (Int8.ofInt 12).toInt32 = nI 12 := by decide
theorem bc_13 : (Int8.ofInt 13).toInt32 = nI 13 := by decide
theorem bc_14 : (Int8.ofInt 14).toInt32 = nI 14 := by decide
theorem bc_16 : (Int8.ofInt 16).toInt32 = nI 16 := by decide
theorem bc_20 : (Int8.ofInt 20).toInt32 = nI 20 := by decide
theorem bc_21 : (Int8.ofInt 21).toInt32 = nI 21 := by decide
theorem bc_24 : (Int8.ofInt 24).toInt32 = nI 24 := by decide
theorem bc_25 : (Int8.ofInt 25).toInt32 = nI 25 := by decide
theorem bc_26 : (Int8.ofInt 26).toInt32 = nI 26 := by decide
theorem bc_30 : (Int8.ofInt 30).toInt32 = nI 30 := by decide
theorem bc_31 : (Int8.ofInt 31).toInt32 = nI 31 := by decide
theorem bc_32 : (Int8.ofInt 32).toInt32 = nI 32 := by decide
theorem bc_36 : (Int8.ofInt 36).toInt32 = nI 36 := by decide
theorem bc_39 : (Int8.ofInt 39).toInt32 = nI 39 := by decide
theorem bc_40 : (Int8.ofInt 40).toInt32 = nI 40 := by decide
theorem bc_41 : (Int8.ofInt 41).toInt32 = nI 41 := by decide
theorem bc_42 : (Int8.ofInt 42).toInt32 = nI 42 := by decide
theorem bc_43 : (Int8.ofInt 43).toInt32 = nI 43 := by decide
theorem bc_45 : (Int8.ofInt 45).toInt32 = nI 45 := by decide
theorem bc_46 : (Int8.ofInt 46).toInt32 = nI 46 := by decide
theorem bc_48 : (Int8.ofInt 48).toInt32 = nI 48 := by decide
theorem bc_56 : (Int8.ofInt 56).toInt32 = nI 56 := by decide
theorem bc_59 : (Int8.ofInt 59).toInt32 = nI 59 := by decide
theorem bc_63 : (Int8.ofInt 63).toInt32 = nI 63 := by decide
theorem bc_65 : (Int8.ofInt 65).toInt32 = nI 65 := by decide
theorem bc_66 : (Int8.ofInt 66).toInt32 = nI 66 := by decide
theorem bc_70 : (Int8.ofInt 70).toInt32 = nI 70 := by decide
theorem bc_71 : (Int8.ofInt 71).toInt32 = nI 71 := by decide
theorem bc_73 : (Int8.ofInt 73).toInt32 = nI 73 := by decide
theorem bc_77 : (Int8.ofInt 77).toInt32 = nI 77 := by decide
theorem bc_78 : (Int8.ofInt 78).toInt32 = nI 78 := by decide
theorem bc_80 : (Int8.ofInt 80).toInt32 = nI 80 := by decide
theorem bc_81 : (Int8.ofInt 81).toInt32 = nI 81 := by decide
theorem bc_84 : (Int8.ofInt 84).toInt32 = nI 84 := by decide
theorem bc_90 : (Int8.ofInt 90).toInt32 = nI 90 := by decide
theorem bc_97 : (Int8.ofInt 97).toInt32 = nI 97 := by decide
theorem bc_122 : (Int8.ofInt 122).toInt32 = nI 122 := by decide
theorem sc_240 : (Int16.ofInt 240).toInt32 = nI 240 := by decide
theorem sc_255 : (Int16.ofInt 255).toInt32 = nI 255 := by decide
theorem sc_256 : (Int16.ofInt 256).toInt32 = nI 256 := by decide
theorem sc_400 : (Int16.ofInt 400).toInt32 = nI 400 := by decide
theorem sc_488 : (Int16.ofInt 488).toInt32 = nI 488 := by decide
theorem sc_511 : (Int16.ofInt 511).toInt32 = nI 511 := by decide
theorem sc_1000 : (Int16.ofInt 1000).toInt32 = nI 1000 := by decide
theorem sc_1680 : (Int16.ofInt 1680).toInt32 = nI 1680 := by decide
theorem sc_5040 : (Int16.ofInt 5040).toInt32 = nI 5040 := by decide
theorem sc_6435 : (Int16.ofInt 6435).toInt32 = nI 6435 := by decide
theorem sc_6500 : (Int16.ofInt 6500).toInt32 = nI 6500 := by decide
theorem pn_X0 : plainName RX0 = true := by decide +kernel
theorem pn_X1 : plainName RX1 = true := by decide +kernel
theorem pn_X2 : plainName RX2 = true := by decide +kernel
theorem pn_X3 : plainName RX3 = true := by decide +kernel
theorem pn_X4 : plainName RX4 = true := by decide +kernel
theorem pn_X5 : plainName RX5 = true := by decide +kernel
theorem pn_X6 : plainName RX6 = true := by decide +kernel
theorem pn_X7 : plainName RX7 = true := by decide +kernel
theorem pn_X8 : plainName RX8 = true := by decide +kernel
theorem pn_X9 : plainName RX9 = true := by decide +kernel
theorem pn_X10 : plainName RX10 = true := by decide +kernel
end ROWS2
theorem mN_sF (μ : Mm) (a k : Nat) (v : Int32) : mN (sF μ a k v) = mN μ := rfl
theorem mK_sF (μ : Mm) (a k : Nat) (v : Int32) : mK (sF μ a k v) = mK μ := rfl
theorem mL_sF (μ : Mm) (a k : Nat) (v : Int32) : mL (sF μ a k v) = mL μ := rfl
theorem mF_sF (μ : Mm) (a k : Nat) (v : Int32) : mF (sF μ a k v) = up2 (mF μ) a k v := rfl
theorem mB_sF (μ : Mm) (a k : Nat) (v : Int32) : mB (sF μ a k v) = mB μ := rfl
theorem mA_sF (μ : Mm) (a k : Nat) (v : Int32) : mA (sF μ a k v) = mA μ := rfl
theorem mJ_sF (μ : Mm) (a k : Nat) (v : Int32) : mJ (sF μ a k v) = mJ μ := rfl
theorem mP_sF (μ : Mm) (a k : Nat) (v : Int32) : mP (sF μ a k v) = mP μ := rfl
theorem mO_sF (μ : Mm) (a k : Nat) (v : Int32) : mO (sF μ a k v) = mO μ := rfl
theorem mN_sB (μ : Mm) (a k : Nat) (v : Int32) : mN (sB μ a k v) = mN μ := rfl
theorem mK_sB (μ : Mm) (a k : Nat) (v : Int32) : mK (sB μ a k v) = mK μ := rfl
theorem mL_sB (μ : Mm) (a k : Nat) (v : Int32) : mL (sB μ a k v) = mL μ := rfl
theorem mF_sB (μ : Mm) (a k : Nat) (v : Int32) : mF (sB μ a k v) = mF μ := rfl
theorem mB_sB (μ : Mm) (a k : Nat) (v : Int32) : mB (sB μ a k v) = up2 (mB μ) a k v := rfl
theorem mA_sB (μ : Mm) (a k : Nat) (v : Int32) : mA (sB μ a k v) = mA μ := rfl
theorem mJ_sB (μ : Mm) (a k : Nat) (v : Int32) : mJ (sB μ a k v) = mJ μ := rfl
theorem mP_sB (μ : Mm) (a k : Nat) (v : Int32) : mP (sB μ a k v) = mP μ := rfl
theorem mO_sB (μ : Mm) (a k : Nat) (v : Int32) : mO (sB μ a k v) = mO μ := rfl
theorem mN_sA (μ : Mm) (a k : Nat) (v : Int32) : mN (sA μ a k v) = mN μ := rfl
theorem mK_sA (μ : Mm) (a k : Nat) (v : Int32) : mK (sA μ a k v) = mK μ := rfl
theorem mL_sA (μ : Mm) (a k : Nat) (v : Int32) : mL (sA μ a k v) = mL μ := rfl
theorem mF_sA (μ : Mm) (a k : Nat) (v : Int32) : mF (sA μ a k v) = mF μ := rfl
theorem mB_sA (μ : Mm) (a k : Nat) (v : Int32) : mB (sA μ a k v) = mB μ := rfl
theorem mA_sA (μ : Mm) (a k : Nat) (v : Int32) : mA (sA μ a k v) = up2 (mA μ) a k v := rfl
theorem mJ_sA (μ : Mm) (a k : Nat) (v : Int32) : mJ (sA μ a k v) = mJ μ := rfl
theorem mP_sA (μ : Mm) (a k : Nat) (v : Int32) : mP (sA μ a k v) = mP μ := rfl
theorem mO_sA (μ : Mm) (a k : Nat) (v : Int32) : mO (sA μ a k v) = mO μ := rfl
theorem mN_sJ (μ : Mm) (a k : Nat) (v : Int64) : mN (sJ μ a k v) = mN μ := rfl
theorem mK_sJ (μ : Mm) (a k : Nat) (v : Int64) : mK (sJ μ a k v) = mK μ := rfl
theorem mL_sJ (μ : Mm) (a k : Nat) (v : Int64) : mL (sJ μ a k v) = mL μ := rfl
theorem mF_sJ (μ : Mm) (a k : Nat) (v : Int64) : mF (sJ μ a k v) = mF μ := rfl
theorem mB_sJ (μ : Mm) (a k : Nat) (v : Int64) : mB (sJ μ a k v) = mB μ := rfl
theorem mA_sJ (μ : Mm) (a k : Nat) (v : Int64) : mA (sJ μ a k v) = mA μ := rfl
theorem mJ_sJ (μ : Mm) (a k : Nat) (v : Int64) : mJ (sJ μ a k v) = up2 (mJ μ) a k v := rfl
theorem mP_sJ (μ : Mm) (a k : Nat) (v : Int64) : mP (sJ μ a k v) = mP μ := rfl
theorem mO_sJ (μ : Mm) (a k : Nat) (v : Int64) : mO (sJ μ a k v) = mO μ := rfl
theorem mN_sP (μ : Mm) (a k : Nat) (v : Option Nat) : mN (sP μ a k v) = mN μ := rfl
theorem mK_sP (μ : Mm) (a k : Nat) (v : Option Nat) : mK (sP μ a k v) = mK μ := rfl
theorem mL_sP (μ : Mm) (a k : Nat) (v : Option Nat) : mL (sP μ a k v) = mL μ := rfl
theorem mF_sP (μ : Mm) (a k : Nat) (v : Option Nat) : mF (sP μ a k v) = mF μ := rfl
theorem mB_sP (μ : Mm) (a k : Nat) (v : Option Nat) : mB (sP μ a k v) = mB μ := rfl
theorem mA_sP (μ : Mm) (a k : Nat) (v : Option Nat) : mA (sP μ a k v) = mA μ := rfl
theorem mJ_sP (μ : Mm) (a k : Nat) (v : Option Nat) : mJ (sP μ a k v) = mJ μ := rfl
theorem mP_sP (μ : Mm) (a k : Nat) (v : Option Nat) : mP (sP μ a k v) = up2 (mP μ) a k v := rfl
theorem mO_sP (μ : Mm) (a k : Nat) (v : Option Nat) : mO (sP μ a k v) = mO μ := rfl
theorem mN_sO (μ : Mm) (a k : Nat) (v : Option Nat) : mN (sO μ a k v) = mN μ := rfl
theorem mK_sO (μ : Mm) (a k : Nat) (v : Option Nat) : mK (sO μ a k v) = mK μ := rfl
theorem mL_sO (μ : Mm) (a k : Nat) (v : Option Nat) : mL (sO μ a k v) = mL μ := rfl
theorem mF_sO (μ : Mm) (a k : Nat) (v : Option Nat) : mF (sO μ a k v) = mF μ := rfl
theorem mB_sO (μ : Mm) (a k : Nat) (v : Option Nat) : mB (sO μ a k v) = mB μ := rfl
theorem mA_sO (μ : Mm) (a k : Nat) (v : Option Nat) : mA (sO μ a k v) = mA μ := rfl
theorem mJ_sO (μ : Mm) (a k : Nat) (v : Option Nat) : mJ (sO μ a k v) = mJ μ := rfl
theorem mP_sO (μ : Mm) (a k : Nat) (v : Option Nat) : mP (sO μ a k v) = mP μ := rfl
theorem mO_sO (μ : Mm) (a k : Nat) (v : Option Nat) : mO (sO μ a k v) = up2 (mO μ) a k v := rfl
end
section
/-! small methods -/
section SMALL
variable {E : En} {μ : Mm} {K : Option Value → Mm → Prop}
/-- isSmall(x) -/
theorem c_isSmall {x : Int32} (b : Bool) (hb : b = true ↔ nI 97 ≤ x ∧ x ≤ nI 122) (k : K (some (.int (bI b))) μ) : Cl E M_X9_isSmall [.int x] μ K := by
  refine Cl.of0 0 pn_X9 (Nat.le_of_ble_eq_true rfl) ⟨rfl, rfl⟩ rfl ?_
  refine e_il0 1 rfl dX9_isSmall_0 ?_
  refine e_bipush (nI 97) 3 rfl dX9_isSmall_1 bc_97 ?_
  first | refine e_cmp_ltN 16 6 (by decide) rfl dX9_isSmall_3 rfl rfl (by omega) (by omega) (fun h => ?_) (fun h => ?_) | refine e_cmp_lt 16 6 (by decide) rfl dX9_isSmall_3 (fun h => ?_) (fun h => ?_)
  · refine e_iconst (nI 0) 17 rfl dX9_isSmall_16 ic_0 ?_
    refine e_zret dX9_isSmall_17 rfl (by first | exact z0 | exact z1 | exact bI01 _ | assumption) ?_
    rw [← bI_f (b := b) (by cases b; rfl; exact absurd (hb.mp rfl).1 (by rw [Int32.not_le]; exact h))]; exact k
  · refine e_il0 7 rfl dX9_isSmall_6 ?_
    refine e_bipush (nI 122) 9 rfl dX9_isSmall_7 bc_122 ?_
    first | refine e_cmp_gtN 16 12 (by decide) rfl dX9_isSmall_9 rfl rfl (by omega) (by omega) (fun h2 => ?_) (fun h2 => ?_) | refine e_cmp_gt 16 12 (by decide) rfl dX9_isSmall_9 (fun h2 => ?_) (fun h2 => ?_)
    · refine e_iconst (nI 0) 17 rfl dX9_isSmall_16 ic_0 ?_
      refine e_zret dX9_isSmall_17 rfl (by first | exact z0 | exact z1 | exact bI01 _ | assumption) ?_
      rw [← bI_f (b := b) (by cases b; rfl; exact absurd (hb.mp rfl).2 (by rw [Int32.not_le]; exact h2))]; exact k
    · refine e_iconst (nI 1) 13 rfl dX9_isSmall_12 ic_1 ?_
      refine e_goto 17 (by decide) dX9_isSmall_13 ?_
      refine e_zret dX9_isSmall_17 rfl (by first | exact z0 | exact z1 | exact bI01 _ | assumption) ?_
      rw [← bI_t (b := b) (hb.mpr ⟨Int32.not_lt.mp h, Int32.not_lt.mp h2⟩)]; exact k
end SMALL
end
